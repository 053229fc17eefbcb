/-! a band, the reference's side -/
noncomputable def bTW : XS := (sq (iff (cAnd (cmp1 (fun x => decide (x = 0)) (gI 12 12 (lR 0))) (cmp1 (fun x => decide (¬ x = 0)) (caV_ 12 F_X12_isPlays (lR 0)))) (exI (caV_i 12 F_X12_readPlays (lR 0) (lI 1))) sk) (iff (cmp1 (fun x => decide (x = 0)) (gI 12 12 (lR 0))) (paO 2 (fun x y => some (wI (x + y))) (gR 12 20 (lR 0)) (cI 1635) (cI 1)) sk))
noncomputable def bTV : XS := (sq (paI 2 (gR 12 20 (lR 0)) (op2 (fun x y => some (wI (x + y))) (cI 1678) (lI 1)) (caV_iii 12 F_X12_behindWord (lR 0) (caV_ 12 F_X12_isLips (lR 0)) (cI 0) (cI 99))) (sq (paI 2 (gR 12 20 (lR 0)) (op2 (fun x y => some (wI (x + y))) (cI 1684) (lI 1)) (arI 2 (gR 12 20 (lR 0)) (op2 (fun x y => some (wI (x + y))) (cI 1678) (lI 1)))) (sq (paI 2 (gR 12 20 (lR 0)) (op2 (fun x y => some (wI (x + y))) (cI 1696) (lI 1)) (cI 0)) bTW)))
noncomputable def bTU : XS := (sq (paI 2 (gR 12 20 (lR 0)) (op2 (fun x y => some (wI (x + y))) (cI 1660) (lI 1)) (lI 2)) (sq (paI 2 (gR 12 20 (lR 0)) (op2 (fun x y => some (wI (x + y))) (cI 1666) (lI 1)) (lI 4)) (sq (paI 2 (gR 12 20 (lR 0)) (op2 (fun x y => some (wI (x + y))) (cI 1672) (lI 1)) (caV_iii 12 F_X12_behindWord (lR 0) (caV_ 12 F_X12_isStrength (lR 0)) (cI 0) (cI 20))) bTV)))
noncomputable def bT : XS := (sq (exI (caV_i 12 F_X12_must (lR 0) (caV_ 12 F_X12_isAt (lR 0)))) (sq (asI 2 (caV_ii 12 F_X12_count (lR 0) (cI 0) (op2 (fun x y => some (wI (x - y))) (arI 2 (gR 12 20 (lR 0)) (cI 1632)) (cI 1)))) (sq (asI 3 (gI 12 15 (lR 0))) (sq (asI 4 (caV_ii 12 F_X12_count (lR 0) (cI 0) (op2 (fun x y => some (wI (x - y))) (arI 2 (gR 12 20 (lR 0)) (cI 1633)) (cI 1)))) (sq (iff (cAnd (cmp1 (fun x => decide (x = 0)) (gI 12 12 (lR 0))) (cmp1 (fun x => decide (0 ≤ x)) (caV_iii 12 F_X12_bandAt (lR 0) (cI 4) (lI 2) (lI 4)))) (exI (caV_ii 12 F_X12_fail (lR 0) (cI 5) (lI 3))) sk) bTU)))))
theorem E_bT : B_X12_readBand = sq (sq (iff (cNot (cmp1 (fun x => decide (¬ x = 0)) (caS_ii F_X12_has (gI 12 25 (lR 0)) (cI 3)))) (exI (caV_ 12 F_X12_amiss (lR 0))) sk) (sq (asI 1 (tern (cmp1 (fun x => decide (0 < x)) (gI 12 12 (lR 0))) (cI 0) (caV_i 12 F_X12_readNew (lR 0) (cI 1)))) bT)) (rtV) := rfl
section PL
variable {B : Nat → Int} {n : Nat} {σ : SS}
theorem WH_cc {c c' : Nat → Int} (h : ∀ k, k < 10 → c' k = c k) (H : WH c) : WH c' := by
  unfold WH
  rw [h 0 (by omega), h 1 (by omega), h 2 (by omega), h 3 (by omega), h 4 (by omega), h 5 (by omega), h 6 (by omega), h 7 (by omega), h 8 (by omega), h 9 (by omega)]
  exact H
theorem nmF_c {w w' : Nat → Int} {f m : Nat} (h : ∀ k, k < m → w' (f + k) = w (f + k)) : nmF w' f m = nmF w f m := by
  funext v
  unfold nmF
  exact @fsT_c _ _ (fun _ => Classical.propDecidable _) (fun _ => Classical.propDecidable _) m (fun k hk => by rw [h k hk])
theorem tNew_0 {G : Int → Int} {s : TS3} (h : ¬ s.2.1 = 0) : tNew B n G s = s := by
  unfold tNew
  rw [tNaH_0 h, tBlm_0 h, ite_self, tAdv_0 h]
theorem tStd_0 {c : Nat → Int} {s : TS3} (h : ¬ s.2.1 = 0) : tStd B n c s = s := by
  unfold tStd
  rw [tNdW_0 (by decide) h, tNdN_0 h, tNmH_0 h, tBlm_0 h, ite_self, tAdv_0 h]
theorem tNdN_k {lo hi : Int} {s : TS3} (h : (tNdN B n lo hi s).2.1 = 0) : tNmH B n lo hi s = s ∧ s.2.1 = 0 ∧ tKd B n s.1 = 2 := by
  have h1 : (tNmH B n lo hi s).2.1 = 0 := tAdv_m h
  obtain ⟨h2, h3, _⟩ := tNmH_v h1
  refine ⟨h2, h3, ?_⟩
  by_cases g : tKd B n s.1 = 2
  · exact g
  · unfold tNmH at h1
    rw [if_pos g] at h1
    exact absurd h1 (tBlm_1 (by omega))
/-- the reference's rows of a band b -/
def MbV (B : Nat → Int) (n : Nat) (c : Nat → Int) (s : TS3) (b : Nat) (v0 : Int) (len : Nat) (σ σ' : SS) : Prop := σ' 247 (54 + b) = v0 ∧ σ' 244 (1660 + b) = tNm B n (tNdW B n 11 s).1 ∧ σ' 244 (1666 + b) = tNm B n (tNdN B n 0 (c 0 - 1) (tNdW B n 11 s)).1 ∧ σ' 244 (1672 + b) = tNm B n (tNdW B n 12 (tStd B n c s)).1 ∧ σ' 244 (1678 + b) = tNm B n (tNdW B n 13 (tNdN B n 0 20 (tNdW B n 12 (tStd B n c s)))).1 ∧ σ' 244 (1684 + b) = tNm B n (tNdW B n 13 (tNdN B n 0 20 (tNdW B n 12 (tStd B n c s)))).1 ∧ σ' 244 1635 = (b : Int) + 1 ∧ ∀ j, j ≠ 1635 → j ≠ 1660 + b → j ≠ 1666 + b → j ≠ 1672 + b → j ≠ 1678 + b → j ≠ 1684 + b → j ≠ 1696 + b → ¬ (1702 + 6 * b ≤ j ∧ j < 1702 + 6 * b + len) → σ' 244 j = σ 244 j
noncomputable def tB3 (B : Nat → Int) (n : Nat) (c : Nat → Int) (s : TS3) : TS3 := tNdN B n 0 99 (tNdW B n 13 (tNdN B n 0 20 (tNdW B n 12 (tStd B n c s))))
def MbE (B : Nat → Int) (n : Nat) (c w : Nat → Int) (s : TS3) (b : Nat) (v0 : Int) (σ σ' : SS) : Prop := (¬ tKw B n (tB3 B n c s) = 14 ∧ TmS B n (tB3 B n c s) σ' ∧ ((tB3 B n c s).2.1 = 0 → MbV B n c s b v0 0 σ σ' ∧ σ' 244 (1696 + b) = 0)) ∨ (tKw B n (tB3 B n c s) = 14 ∧ ∃ j, (1 ≤ j ∧ j ≤ 7) ∧ ¬ cM B n (pS B n (nmF w 0 (c 2).toNat) j (tAdv B n (tB3 B n c s))) ∧ (∀ i, 1 ≤ i → i < j → cM B n (pS B n (nmF w 0 (c 2).toNat) i (tAdv B n (tB3 B n c s)))) ∧ TmS B n (pS B n (nmF w 0 (c 2).toNat) j (tAdv B n (tB3 B n c s))) σ' ∧ ((pS B n (nmF w 0 (c 2).toNat) j (tAdv B n (tB3 B n c s))).2.1 = 0 → MbV B n c s b v0 j σ σ' ∧ σ' 244 (1696 + b) = (j : Int) ∧ ∀ k, k < j → k < 6 → (pS B n (nmF w 0 (c 2).toNat) (k + 1) (tAdv B n (tB3 B n c s))).2.1 = 0 → σ' 244 (1702 + 6 * b + k) = vEnt B n (nmF w 0 (c 2).toNat) (pS B n (nmF w 0 (c 2).toNat) k (tAdv B n (tB3 B n c s)))))
def MbF (b : Nat) (σ σ' : SS) : Prop := Rm σ σ' ∧ σ' 239 25 = σ 239 25 ∧ (∀ j, ¬ (1632 ≤ j ∧ j < 2040) → σ' 244 j = σ 244 j) ∧ ∀ j, j ≠ 54 + b → σ' 247 j = σ 247 j
def MbO (B : Nat → Int) (n : Nat) (c w : Nat → Int) (s : TS3) (b : Nat) (v0 : Int) (σ : SS) (o : OO) (z : ZZ) : Prop := o = .inl 0 ∧ MbF b σ z.2.2 ∧ MbE B n c w s b v0 σ z.2.2
theorem MbF_f {b : Nat} {σ1 σ2 : SS} (h : MbF b σ σ1) (F : TmF σ1 σ2) : MbF b σ σ2 := ⟨Rm_f h.1 F, by rw [F.2 25 (by omega)]; exact h.2.1, fun j hj => by rw [F.1 244 (by omega)]; exact h.2.2.1 j hj, fun j hj => by rw [F.1 247 (by omega)]; exact h.2.2.2 j hj⟩
theorem MbF_4 {b : Nat} {σ1 : SS} (h : MbF b σ σ1) {k : Nat} (hk : 1632 ≤ k ∧ k < 2040) (v : Int) : MbF b σ (ups σ1 244 k v) := ⟨Rm_4 h.1 _ _, by try simp (disch := omega) only [ups_11, upsN, upsA, upA_same, upA_neA, fl_at, fl_neA]; exact h.2.1, fun j hj => by rw [upsN (by omega)]; exact h.2.2.1 j hj, fun j hj => by try simp (disch := omega) only [ups_11, upsN, upsA, upA_same, upA_neA, fl_at, fl_neA]; exact h.2.2.2 j hj⟩
set_option maxHeartbeats 8000000 in
theorem d_bandU {c w : Nat → Int} {s : TS3} {σ6 : SS} (hc : cb σ 4 = c) (hw' : wb σ 4 = w) (hw : WH c) {b k : Nat} (hb : (tStd B n c s).2.1 = 0 → c 3 = (b : Int)) (b6 : b < 6) (k6 : k < 6) {v0 x y wh : Int} (T : TmS B n (tStd B n c s) σ6) (F6 : MbF b σ σ6) (x4 : σ6 244 = σ 244) (xv : (tStd B n c s).2.1 = 0 → k = b ∧ σ6 247 (54 + b) = v0 ∧ x = tNm B n (tNdW B n 11 s).1 ∧ y = tNm B n (tNdN B n 0 (c 0 - 1) (tNdW B n 11 s)).1) : Wd (bTU ([0, (k : Int), x, wh, y], [239, 0, 0, 0, 0], σ6)) (MbO B n c w s b v0 σ) := by
  have ei1 : (1660 + (k : Int)).toNat = 1660 + k := by omega
  have ei2 : (1666 + (k : Int)).toNat = 1666 + k := by omega
  have ei3 : (1672 + (k : Int)).toNat = 1672 + k := by omega
  have ei4 : (1678 + (k : Int)).toNat = 1678 + k := by omega
  have ei5 : (1684 + (k : Int)).toNat = 1684 + k := by omega
  have ei6 : (1696 + (k : Int)).toNat = 1696 + k := by omega
  have T1 := TmS_4 (TmS_4 T (1660 + k) x) (1666 + k) y
  have G1 := MbF_4 (MbF_4 F6 (k := 1660 + k) (by omega) x) (k := 1666 + k) (by omega) y
  have a1 : ∀ j, j ≠ 1660 + k → j ≠ 1666 + k → ups (ups σ6 244 (1660 + k) x) 244 (1666 + k) y 244 j = σ 244 j := fun j h1 h2 => by rw [upsN h2, upsN h1, x4]
  have b1 : ups (ups σ6 244 (1660 + k) x) 244 (1666 + k) y 244 (1660 + k) = x := by rw [upsN (by omega)]; try simp (disch := omega) only [ups_11, upsN, upsA, upA_same, upA_neA, fl_at, fl_neA]
  have b2 : ups (ups σ6 244 (1660 + k) x) 244 (1666 + k) y 244 (1666 + k) = y := by try simp (disch := omega) only [ups_11, upsN, upsA, upA_same, upA_neA, fl_at, fl_neA]
  have a7 : ups (ups σ6 244 (1660 + k) x) 244 (1666 + k) y 247 = σ6 247 := by try simp (disch := omega) only [ups_11, upsN, upsA, upA_same, upA_neA, fl_at, fl_neA]
  have st := d_isStrength (ups (ups σ6 244 (1660 + k) x) 244 (1666 + k) y)
  have be := d_ndW T1 (i := 12) (by decide) 0 20
  unfold bTU
  clear T T1 F6 x4
  try simp (disch := omega) only [w_iff, iffM_t, iffM_f, iffM_d, iffM_nd, iffM_0, iffM_ite, Wd_iffM, iffM_v, w_tern, ternM_t, ternM_f, ternM_d, ternM_nd, ternM_0, ternM_ite, Wd_ternM, ternM_v, w_sw, swX_1, Wd_swX, Bool.not_true, Bool.not_false, ei1, ei2, st, Wd_some, Wd_bn, Wd_sqM, Wd_outV, Wd_blkM, Wd_swM, Wd_ite, Wd_map, v_kS_0, v_kS_b, v_kS_r, v_kO_r, v_kW_0, v_kW_1, v_kW_2, v_kW_r, v_kL_0, v_kL_1, v_kL_2, v_kL_r, v_kU_0, ups_11, upsN, upsA, upA_same, upA_neA, fl_at, fl_neA, v_sq_eq, v_sqM_0, v_sqM_r, v_sqM_b, v_sqM_n, sqM_ite, v_asI, v_asR, v_inc, v_pfI, v_pfZ, v_pfO, v_paI, v_paO, v_exI,  v_rtI, v_rtZ, v_rtV, v_sk, v_brk, v_cnt, v_blk_eq, v_blkM_some, blkM_ite, v_lI, v_lR, v_cI, v_gI, v_gR, v_op1, v_op2, v_arI, v_arR, v_alen,  v_cmp1, v_cmp2, v_cAnd, v_cOr, v_cNot, v_cTern, v_bn_some, bn_ite, v_bn_none, v_outV_r, v_outV_0, v_outV_n, outV_ite, List.getD_cons_zero, List.getD_cons_succ, List.set_cons_zero, List.set_cons_succ, List.take_succ_cons, List.take_zero, List.drop_succ_cons, List.drop_zero, List.nil_append, List.cons_append, Option.map_some, Option.map_none, if_true, if_false, ↓reduceIte, reduceCtorEq, decide_eq_true_eq, Bool.not_eq_true', decide_eq_false_iff_not, decide_eq_true, decide_eq_false, decide_true, decide_false, and_self, and_true, true_and, or_self, stO, v_caV_, v_caV_i, v_caV_ii, v_caV_iii, v_caV_iiii, v_caV_iiiii, v_caV_il, v_caV_iil, v_caV_l, v_caV_ll, v_caV_r, v_caV_ri, v_caV_rii, v_caV_riii, v_caV_riiii, v_caV_ir, v_caV_iri, v_caV_iiri, v_caS_i, v_caS_ii, v_caS_iii, v_caS_iiii, v_caS_iiiiii, v_caS_il, v_caS_li, v_caS_ll, v_caS_lll, v_caS_ri, v_caS_riii, sh_239, sh_240, sh_241, sh_242, sh_243, sh_244, sh_245, sh_246, sh_247, sh_248, sh_249, sh_250, sh_251, sh_252, sh_253, rf_239_4, rf_239_5, rf_239_6, rf_239_7, rf_239_20, rf_239_21, rf_239_22, rf_239_23, rf_239_27, rf_239_28, rf_239_32, rf_239_33, rf_239_34, rf_239_35, Int.reduceLE, Int.reduceLT, Int.reduceToNat, Int.reduceAdd, Int.reduceSub, Int.reduceMul, Int.reduceNeg, Int.reduceEq, Int.reduceNe, Nat.reduceAdd, Nat.reduceMul, Nat.reduceLT, Nat.reduceEqDiff, or_true, true_or, or_false, false_or, and_false, false_and, not_true_eq_false, not_false_eq_true, ne_eq, cN4, cN5, cN6, cN7, cN13, cN30, cN60, cN64, cN100, cN136, cN240, cN384, cN900, cN2040, cN3,  v_swM_0, v_swM_1, v_swM_r, v_swM_n, swM_ite, app_ite, ex_some, bI_0, bI_1, nn_iff, Int.toNat_natCast, Int.toNat_of_nonneg, Int.natCast_add, cN1, wI_id2, wL_id2, ↓if_pos, ↓if_neg, if_pos, if_neg]
  generalize ups (ups σ6 244 (1660 + k) x) 244 (1666 + k) y = τ1 at *
  refine Wd_mono be (fun r2 σ2 h2 => ?_)
  obtain ⟨T2, F2, v2⟩ := h2
  have T2 := TmS_4 T2 (1672 + k) r2
  have G2 := MbF_4 (MbF_f G1 F2) (k := 1672 + k) (by omega) r2
  have c1 : ∀ j, j ≠ 1660 + k → j ≠ 1666 + k → j ≠ 1672 + k → ups σ2 244 (1672 + k) r2 244 j = σ 244 j := fun j h1 h2 h3 => by rw [upsN h3, F2.1 244 (by omega)]; exact a1 j h1 h2
  have c2 : ups σ2 244 (1672 + k) r2 244 (1660 + k) = x := by rw [upsN (by omega), F2.1 244 (by omega)]; exact b1
  have c3 : ups σ2 244 (1672 + k) r2 244 (1666 + k) = y := by rw [upsN (by omega), F2.1 244 (by omega)]; exact b2
  have c4 : ups σ2 244 (1672 + k) r2 244 (1672 + k) = r2 := by try simp (disch := omega) only [ups_11, upsN, upsA, upA_same, upA_neA, fl_at, fl_neA]
  have c7 : ups σ2 244 (1672 + k) r2 247 = σ6 247 := by try simp (disch := omega) only [ups_11, upsN, upsA, upA_same, upA_neA, fl_at, fl_neA]; rw [F2.1 247 (by omega)]; exact a7
  have li := d_isLips (ups σ2 244 (1672 + k) r2)
  have be := d_ndW T2 (i := 13) (by decide) 0 99
  clear T2 G1 F2 a1 b1 b2 a7
  try simp (disch := omega) only [w_iff, iffM_t, iffM_f, iffM_d, iffM_nd, iffM_0, iffM_ite, Wd_iffM, iffM_v, w_tern, ternM_t, ternM_f, ternM_d, ternM_nd, ternM_0, ternM_ite, Wd_ternM, ternM_v, w_sw, swX_1, Wd_swX, Bool.not_true, Bool.not_false, bTV, ei3, li, Wd_some, Wd_bn, Wd_sqM, Wd_outV, Wd_blkM, Wd_swM, Wd_ite, Wd_map, v_kS_0, v_kS_b, v_kS_r, v_kO_r, v_kW_0, v_kW_1, v_kW_2, v_kW_r, v_kL_0, v_kL_1, v_kL_2, v_kL_r, v_kU_0, ups_11, upsN, upsA, upA_same, upA_neA, fl_at, fl_neA, v_sq_eq, v_sqM_0, v_sqM_r, v_sqM_b, v_sqM_n, sqM_ite, v_asI, v_asR, v_inc, v_pfI, v_pfZ, v_pfO, v_paI, v_paO, v_exI,  v_rtI, v_rtZ, v_rtV, v_sk, v_brk, v_cnt, v_blk_eq, v_blkM_some, blkM_ite, v_lI, v_lR, v_cI, v_gI, v_gR, v_op1, v_op2, v_arI, v_arR, v_alen,  v_cmp1, v_cmp2, v_cAnd, v_cOr, v_cNot, v_cTern, v_bn_some, bn_ite, v_bn_none, v_outV_r, v_outV_0, v_outV_n, outV_ite, List.getD_cons_zero, List.getD_cons_succ, List.set_cons_zero, List.set_cons_succ, List.take_succ_cons, List.take_zero, List.drop_succ_cons, List.drop_zero, List.nil_append, List.cons_append, Option.map_some, Option.map_none, if_true, if_false, ↓reduceIte, reduceCtorEq, decide_eq_true_eq, Bool.not_eq_true', decide_eq_false_iff_not, decide_eq_true, decide_eq_false, decide_true, decide_false, and_self, and_true, true_and, or_self, stO, v_caV_, v_caV_i, v_caV_ii, v_caV_iii, v_caV_iiii, v_caV_iiiii, v_caV_il, v_caV_iil, v_caV_l, v_caV_ll, v_caV_r, v_caV_ri, v_caV_rii, v_caV_riii, v_caV_riiii, v_caV_ir, v_caV_iri, v_caV_iiri, v_caS_i, v_caS_ii, v_caS_iii, v_caS_iiii, v_caS_iiiiii, v_caS_il, v_caS_li, v_caS_ll, v_caS_lll, v_caS_ri, v_caS_riii, sh_239, sh_240, sh_241, sh_242, sh_243, sh_244, sh_245, sh_246, sh_247, sh_248, sh_249, sh_250, sh_251, sh_252, sh_253, rf_239_4, rf_239_5, rf_239_6, rf_239_7, rf_239_20, rf_239_21, rf_239_22, rf_239_23, rf_239_27, rf_239_28, rf_239_32, rf_239_33, rf_239_34, rf_239_35, Int.reduceLE, Int.reduceLT, Int.reduceToNat, Int.reduceAdd, Int.reduceSub, Int.reduceMul, Int.reduceNeg, Int.reduceEq, Int.reduceNe, Nat.reduceAdd, Nat.reduceMul, Nat.reduceLT, Nat.reduceEqDiff, or_true, true_or, or_false, false_or, and_false, false_and, not_true_eq_false, not_false_eq_true, ne_eq, cN4, cN5, cN6, cN7, cN13, cN30, cN60, cN64, cN100, cN136, cN240, cN384, cN900, cN2040, cN3,  v_swM_0, v_swM_1, v_swM_r, v_swM_n, swM_ite, app_ite, ex_some, bI_0, bI_1, nn_iff, Int.toNat_natCast, Int.toNat_of_nonneg, Int.natCast_add, cN1, wI_id2, wL_id2, ↓if_pos, ↓if_neg, if_pos, if_neg]
  generalize ups σ2 244 (1672 + k) r2 = τ2 at *
  refine Wd_mono be (fun r3 σ3 h3 => ?_)
  obtain ⟨T3, F3, v3⟩ := h3
  have T3 : TmS B n (tB3 B n c s) (ups (ups (ups σ3 244 (1678 + k) r3) 244 (1684 + k) r3) 244 (1696 + k) 0) := TmS_4 (TmS_4 (TmS_4 T3 (1678 + k) r3) (1684 + k) r3) (1696 + k) 0
  have G3 := MbF_4 (MbF_4 (MbF_4 (MbF_f G2 F3) (k := 1678 + k) (by omega) r3) (k := 1684 + k) (by omega) r3) (k := 1696 + k) (by omega) 0
  have e1 : ∀ j, j ≠ 1660 + k → j ≠ 1666 + k → j ≠ 1672 + k → j ≠ 1678 + k → j ≠ 1684 + k → j ≠ 1696 + k → ups (ups (ups σ3 244 (1678 + k) r3) 244 (1684 + k) r3) 244 (1696 + k) 0 244 j = σ 244 j := fun j h1 h2 h3 h4 h5 h6 => by rw [upsN h6, upsN h5, upsN h4, F3.1 244 (by omega)]; exact c1 j h1 h2 h3
  have e2 : ups (ups (ups σ3 244 (1678 + k) r3) 244 (1684 + k) r3) 244 (1696 + k) 0 244 (1660 + k) = x := by rw [upsN (by omega), upsN (by omega), upsN (by omega), F3.1 244 (by omega)]; exact c2
  have e3 : ups (ups (ups σ3 244 (1678 + k) r3) 244 (1684 + k) r3) 244 (1696 + k) 0 244 (1666 + k) = y := by rw [upsN (by omega), upsN (by omega), upsN (by omega), F3.1 244 (by omega)]; exact c3
  have e4 : ups (ups (ups σ3 244 (1678 + k) r3) 244 (1684 + k) r3) 244 (1696 + k) 0 244 (1672 + k) = r2 := by rw [upsN (by omega), upsN (by omega), upsN (by omega), F3.1 244 (by omega)]; exact c4
  have e5 : ups (ups (ups σ3 244 (1678 + k) r3) 244 (1684 + k) r3) 244 (1696 + k) 0 244 (1678 + k) = r3 := by rw [upsN (by omega), upsN (by omega)]; try simp (disch := omega) only [ups_11, upsN, upsA, upA_same, upA_neA, fl_at, fl_neA]
  have e6 : ups (ups (ups σ3 244 (1678 + k) r3) 244 (1684 + k) r3) 244 (1696 + k) 0 244 (1684 + k) = r3 := by rw [upsN (by omega)]; try simp (disch := omega) only [ups_11, upsN, upsA, upA_same, upA_neA, fl_at, fl_neA]
  have e8 : ups (ups (ups σ3 244 (1678 + k) r3) 244 (1684 + k) r3) 244 (1696 + k) 0 244 (1696 + k) = 0 := by try simp (disch := omega) only [ups_11, upsN, upsA, upA_same, upA_neA, fl_at, fl_neA]
  have e7 : ups (ups (ups σ3 244 (1678 + k) r3) 244 (1684 + k) r3) 244 (1696 + k) 0 247 = σ6 247 := by try simp (disch := omega) only [ups_11, upsN, upsA, upA_same, upA_neA, fl_at, fl_neA]; rw [F3.1 247 (by omega)]; exact c7
  have pl := d_isPlays (ups (ups (ups σ3 244 (1678 + k) r3) 244 (1684 + k) r3) 244 (1696 + k) 0)
  have e45 : ups σ3 244 (1678 + k) r3 244 (1678 + k) = r3 := by try simp (disch := omega) only [ups_11, upsN, upsA, upA_same, upA_neA, fl_at, fl_neA]
  clear G2 F3 c1 c2 c3 c4 c7
  try simp (disch := omega) only [w_iff, iffM_t, iffM_f, iffM_d, iffM_nd, iffM_0, iffM_ite, Wd_iffM, iffM_v, w_tern, ternM_t, ternM_f, ternM_d, ternM_nd, ternM_0, ternM_ite, Wd_ternM, ternM_v, w_sw, swX_1, Wd_swX, Bool.not_true, Bool.not_false, ei4, ei5, ei6, e45, Wd_some, Wd_bn, Wd_sqM, Wd_outV, Wd_blkM, Wd_swM, Wd_ite, Wd_map, v_kS_0, v_kS_b, v_kS_r, v_kO_r, v_kW_0, v_kW_1, v_kW_2, v_kW_r, v_kL_0, v_kL_1, v_kL_2, v_kL_r, v_kU_0, ups_11, upsN, upsA, upA_same, upA_neA, fl_at, fl_neA, v_sq_eq, v_sqM_0, v_sqM_r, v_sqM_b, v_sqM_n, sqM_ite, v_asI, v_asR, v_inc, v_pfI, v_pfZ, v_pfO, v_paI, v_paO, v_exI,  v_rtI, v_rtZ, v_rtV, v_sk, v_brk, v_cnt, v_blk_eq, v_blkM_some, blkM_ite, v_lI, v_lR, v_cI, v_gI, v_gR, v_op1, v_op2, v_arI, v_arR, v_alen,  v_cmp1, v_cmp2, v_cAnd, v_cOr, v_cNot, v_cTern, v_bn_some, bn_ite, v_bn_none, v_outV_r, v_outV_0, v_outV_n, outV_ite, List.getD_cons_zero, List.getD_cons_succ, List.set_cons_zero, List.set_cons_succ, List.take_succ_cons, List.take_zero, List.drop_succ_cons, List.drop_zero, List.nil_append, List.cons_append, Option.map_some, Option.map_none, if_true, if_false, ↓reduceIte, reduceCtorEq, decide_eq_true_eq, Bool.not_eq_true', decide_eq_false_iff_not, decide_eq_true, decide_eq_false, decide_true, decide_false, and_self, and_true, true_and, or_self, stO, v_caV_, v_caV_i, v_caV_ii, v_caV_iii, v_caV_iiii, v_caV_iiiii, v_caV_il, v_caV_iil, v_caV_l, v_caV_ll, v_caV_r, v_caV_ri, v_caV_rii, v_caV_riii, v_caV_riiii, v_caV_ir, v_caV_iri, v_caV_iiri, v_caS_i, v_caS_ii, v_caS_iii, v_caS_iiii, v_caS_iiiiii, v_caS_il, v_caS_li, v_caS_ll, v_caS_lll, v_caS_ri, v_caS_riii, sh_239, sh_240, sh_241, sh_242, sh_243, sh_244, sh_245, sh_246, sh_247, sh_248, sh_249, sh_250, sh_251, sh_252, sh_253, rf_239_4, rf_239_5, rf_239_6, rf_239_7, rf_239_20, rf_239_21, rf_239_22, rf_239_23, rf_239_27, rf_239_28, rf_239_32, rf_239_33, rf_239_34, rf_239_35, Int.reduceLE, Int.reduceLT, Int.reduceToNat, Int.reduceAdd, Int.reduceSub, Int.reduceMul, Int.reduceNeg, Int.reduceEq, Int.reduceNe, Nat.reduceAdd, Nat.reduceMul, Nat.reduceLT, Nat.reduceEqDiff, or_true, true_or, or_false, false_or, and_false, false_and, not_true_eq_false, not_false_eq_true, ne_eq, cN4, cN5, cN6, cN7, cN13, cN30, cN60, cN64, cN100, cN136, cN240, cN384, cN900, cN2040, cN3,  v_swM_0, v_swM_1, v_swM_r, v_swM_n, swM_ite, app_ite, ex_some, bI_0, bI_1, nn_iff, Int.toNat_natCast, Int.toNat_of_nonneg, Int.natCast_add, cN1, wI_id2, wL_id2, ↓if_pos, ↓if_neg, if_pos, if_neg]
  generalize ups (ups (ups σ3 244 (1678 + k) r3) 244 (1684 + k) r3) 244 (1696 + k) 0 = τ3 at *
  have m2 : (tB3 B n c s).2.1 = 0 → (tNdN B n 0 20 (tNdW B n 12 (tStd B n c s))).2.1 = 0 := fun h => tNdW_m (i := 13) (by decide) (tNdN_m h)
  have m1 : (tB3 B n c s).2.1 = 0 → (tStd B n c s).2.1 = 0 := fun h => tNdW_m (i := 12) (by decide) (tNdN_m (m2 h))
  have v3 : (tB3 B n c s).2.1 = 0 → r3 = tNm B n (tNdW B n 13 (tNdN B n 0 20 (tNdW B n 12 (tStd B n c s)))).1 := v3
  by_cases g : (tB3 B n c s).2.1 = 0
  · obtain ⟨kb, q7, qx, qy⟩ := xv (m1 g)
    subst kb
    have q2 := v2 (m2 g)
    have q3 := v3 g
    have e12 := TmS_0 T3 g
    have e35 : τ3 244 1635 = (k : Int) := by
      rw [e1 1635 (by omega) (by omega) (by omega) (by omega) (by omega) (by omega), ← hb (m1 g), ← hc]
      rfl
    have VV : ∀ (len : Nat) (σ' : SS), len ≤ 6 → σ' 247 = τ3 247 → (∀ j, j ≠ 1635 → j ≠ 1696 + k → ¬ (1702 + 6 * k ≤ j ∧ j < 1702 + 6 * k + len) → σ' 244 j = τ3 244 j) → σ' 244 1635 = (k : Int) + 1 → MbV B n c s k v0 len σ σ' := fun len σ' l6 h7 h4 h35 => by
      refine ⟨by rw [h7, e7]; exact q7, ?_, ?_, ?_, ?_, ?_, h35, fun j j1 j2 j3 j4 j5 j6 j7 j8 => ?_⟩
      · rw [h4 _ (by omega) (by omega) (by omega), e2]; exact qx
      · rw [h4 _ (by omega) (by omega) (by omega), e3]; exact qy
      · rw [h4 _ (by omega) (by omega) (by omega), e4]; exact q2
      · rw [h4 _ (by omega) (by omega) (by omega), e5]; exact q3
      · rw [h4 _ (by omega) (by omega) (by omega), e6]; exact q3
      · rw [h4 j j1 j7 j8]; exact e1 j j2 j3 j4 j5 j6 j7
    rw [skw_s T3 g] at pl
    by_cases g14 : tKw B n (tB3 B n c s) = 14
    · rw [if_pos g14] at pl
      have c10 : ∀ j, j < 10 → cb τ3 4 j = c j := fun j hj => by
        rw [← hc]
        unfold cb
        exact e1 _ (by omega) (by omega) (by omega) (by omega) (by omega) (by omega)
      have eF : nmF (wb τ3 4) 0 (cb τ3 4 2).toNat = nmF w 0 (c 2).toNat := by
        rw [c10 2 (by omega)]
        refine nmF_c (fun j hj => ?_)
        have := hw.2.2.1
        rw [← hw']
        unfold wb
        exact G3.2.2.2 _ (by omega)
      have dp := d_plays T3 g (WH_cc c10 hw) b6
      rw [eF] at dp
      clear e1 e2 e3 e4 e5 e6 e7 e8 v2 v3 xv m1 m2 T3 be
      try simp (disch := omega) only [w_iff, iffM_t, iffM_f, iffM_d, iffM_nd, iffM_0, iffM_ite, Wd_iffM, iffM_v, w_tern, ternM_t, ternM_f, ternM_d, ternM_nd, ternM_0, ternM_ite, Wd_ternM, ternM_v, w_sw, swX_1, Wd_swX, Bool.not_true, Bool.not_false, bTW, e12, pl, Wd_some, Wd_bn, Wd_sqM, Wd_outV, Wd_blkM, Wd_swM, Wd_ite, Wd_map, v_kS_0, v_kS_b, v_kS_r, v_kO_r, v_kW_0, v_kW_1, v_kW_2, v_kW_r, v_kL_0, v_kL_1, v_kL_2, v_kL_r, v_kU_0, ups_11, upsN, upsA, upA_same, upA_neA, fl_at, fl_neA, v_sq_eq, v_sqM_0, v_sqM_r, v_sqM_b, v_sqM_n, sqM_ite, v_asI, v_asR, v_inc, v_pfI, v_pfZ, v_pfO, v_paI, v_paO, v_exI,  v_rtI, v_rtZ, v_rtV, v_sk, v_brk, v_cnt, v_blk_eq, v_blkM_some, blkM_ite, v_lI, v_lR, v_cI, v_gI, v_gR, v_op1, v_op2, v_arI, v_arR, v_alen,  v_cmp1, v_cmp2, v_cAnd, v_cOr, v_cNot, v_cTern, v_bn_some, bn_ite, v_bn_none, v_outV_r, v_outV_0, v_outV_n, outV_ite, List.getD_cons_zero, List.getD_cons_succ, List.set_cons_zero, List.set_cons_succ, List.take_succ_cons, List.take_zero, List.drop_succ_cons, List.drop_zero, List.nil_append, List.cons_append, Option.map_some, Option.map_none, if_true, if_false, ↓reduceIte, reduceCtorEq, decide_eq_true_eq, Bool.not_eq_true', decide_eq_false_iff_not, decide_eq_true, decide_eq_false, decide_true, decide_false, and_self, and_true, true_and, or_self, stO, v_caV_, v_caV_i, v_caV_ii, v_caV_iii, v_caV_iiii, v_caV_iiiii, v_caV_il, v_caV_iil, v_caV_l, v_caV_ll, v_caV_r, v_caV_ri, v_caV_rii, v_caV_riii, v_caV_riiii, v_caV_ir, v_caV_iri, v_caV_iiri, v_caS_i, v_caS_ii, v_caS_iii, v_caS_iiii, v_caS_iiiiii, v_caS_il, v_caS_li, v_caS_ll, v_caS_lll, v_caS_ri, v_caS_riii, sh_239, sh_240, sh_241, sh_242, sh_243, sh_244, sh_245, sh_246, sh_247, sh_248, sh_249, sh_250, sh_251, sh_252, sh_253, rf_239_4, rf_239_5, rf_239_6, rf_239_7, rf_239_20, rf_239_21, rf_239_22, rf_239_23, rf_239_27, rf_239_28, rf_239_32, rf_239_33, rf_239_34, rf_239_35, Int.reduceLE, Int.reduceLT, Int.reduceToNat, Int.reduceAdd, Int.reduceSub, Int.reduceMul, Int.reduceNeg, Int.reduceEq, Int.reduceNe, Nat.reduceAdd, Nat.reduceMul, Nat.reduceLT, Nat.reduceEqDiff, or_true, true_or, or_false, false_or, and_false, false_and, not_true_eq_false, not_false_eq_true, ne_eq, cN4, cN5, cN6, cN7, cN13, cN30, cN60, cN64, cN100, cN136, cN240, cN384, cN900, cN2040, cN3,  v_swM_0, v_swM_1, v_swM_r, v_swM_n, swM_ite, app_ite, ex_some, bI_0, bI_1, nn_iff, Int.toNat_natCast, Int.toNat_of_nonneg, Int.natCast_add, cN1, wI_id2, wL_id2, ↓if_pos, ↓if_neg, if_pos, if_neg]
      refine Wd_mono dp (fun r4 σ4 h4 => ?_)
      obtain ⟨j, j1, nc, cc, T4, R4, y7, y25, yf, yv⟩ := h4
      have G4 : MbF k σ σ4 := ⟨⟨fun x h1 h2 h3 => by rw [R4.1 x h1 h2 h3, G3.1.1 x h1 h2 h3], fun x h1 h2 => by rw [R4.2 x h1 h2, G3.1.2 x h1 h2]⟩, by rw [y25]; exact G3.2.1, fun i hi => by rw [yf i (by omega) (by omega)]; exact G3.2.2.1 i hi, fun i hi => by rw [y7]; exact G3.2.2.2 i hi⟩
      by_cases g4 : (pS B n (nmF w 0 (c 2).toNat) j (tAdv B n (tB3 B n c s))).2.1 = 0
      · have e124 := TmS_0 T4 g4
        have j6 : j ≤ 6 := by
          by_cases q : j = 7
          · subst q; exact absurd g4 pS_7
          · omega
        have e354 : σ4 244 1635 = (k : Int) := by rw [yf 1635 (by omega) (by omega)]; exact e35
        have po : MbO B n c w s k v0 σ (.inl 0) ([0, (k : Int), x, wh, y], [239, 0, 0, 0, 0], ups σ4 244 1635 ((k : Int) + 1)) := by
          refine ⟨rfl, MbF_4 G4 (by omega) _, Or.inr ⟨g14, j, j1, nc, cc, TmS_4 T4 _ _, fun _ => ⟨VV j _ j6 (by try simp (disch := omega) only [ups_11, upsN, upsA, upA_same, upA_neA, fl_at, fl_neA]; exact y7) (fun i h1 h2 h3 => by rw [upsN h1]; exact yf i h3 h2) (by try simp (disch := omega) only [ups_11, upsN, upsA, upA_same, upA_neA, fl_at, fl_neA]), ?_, fun i h1 h2 h3 => ?_⟩⟩⟩
          · rw [upsN (by omega)]; exact (yv g4).1
          · rw [upsN (by omega)]; exact (yv g4).2 i h1 h2 h3
        clear T4 R4 yf yv G4 VV cc nc dp
        try simp (disch := omega) only [w_iff, iffM_t, iffM_f, iffM_d, iffM_nd, iffM_0, iffM_ite, Wd_iffM, iffM_v, w_tern, ternM_t, ternM_f, ternM_d, ternM_nd, ternM_0, ternM_ite, Wd_ternM, ternM_v, w_sw, swX_1, Wd_swX, Bool.not_true, Bool.not_false, e124, e354, Wd_some, Wd_bn, Wd_sqM, Wd_outV, Wd_blkM, Wd_swM, Wd_ite, Wd_map, v_kS_0, v_kS_b, v_kS_r, v_kO_r, v_kW_0, v_kW_1, v_kW_2, v_kW_r, v_kL_0, v_kL_1, v_kL_2, v_kL_r, v_kU_0, ups_11, upsN, upsA, upA_same, upA_neA, fl_at, fl_neA, v_sq_eq, v_sqM_0, v_sqM_r, v_sqM_b, v_sqM_n, sqM_ite, v_asI, v_asR, v_inc, v_pfI, v_pfZ, v_pfO, v_paI, v_paO, v_exI,  v_rtI, v_rtZ, v_rtV, v_sk, v_brk, v_cnt, v_blk_eq, v_blkM_some, blkM_ite, v_lI, v_lR, v_cI, v_gI, v_gR, v_op1, v_op2, v_arI, v_arR, v_alen,  v_cmp1, v_cmp2, v_cAnd, v_cOr, v_cNot, v_cTern, v_bn_some, bn_ite, v_bn_none, v_outV_r, v_outV_0, v_outV_n, outV_ite, List.getD_cons_zero, List.getD_cons_succ, List.set_cons_zero, List.set_cons_succ, List.take_succ_cons, List.take_zero, List.drop_succ_cons, List.drop_zero, List.nil_append, List.cons_append, Option.map_some, Option.map_none, if_true, if_false, ↓reduceIte, reduceCtorEq, decide_eq_true_eq, Bool.not_eq_true', decide_eq_false_iff_not, decide_eq_true, decide_eq_false, decide_true, decide_false, and_self, and_true, true_and, or_self, stO, v_caV_, v_caV_i, v_caV_ii, v_caV_iii, v_caV_iiii, v_caV_iiiii, v_caV_il, v_caV_iil, v_caV_l, v_caV_ll, v_caV_r, v_caV_ri, v_caV_rii, v_caV_riii, v_caV_riiii, v_caV_ir, v_caV_iri, v_caV_iiri, v_caS_i, v_caS_ii, v_caS_iii, v_caS_iiii, v_caS_iiiiii, v_caS_il, v_caS_li, v_caS_ll, v_caS_lll, v_caS_ri, v_caS_riii, sh_239, sh_240, sh_241, sh_242, sh_243, sh_244, sh_245, sh_246, sh_247, sh_248, sh_249, sh_250, sh_251, sh_252, sh_253, rf_239_4, rf_239_5, rf_239_6, rf_239_7, rf_239_20, rf_239_21, rf_239_22, rf_239_23, rf_239_27, rf_239_28, rf_239_32, rf_239_33, rf_239_34, rf_239_35, Int.reduceLE, Int.reduceLT, Int.reduceToNat, Int.reduceAdd, Int.reduceSub, Int.reduceMul, Int.reduceNeg, Int.reduceEq, Int.reduceNe, Nat.reduceAdd, Nat.reduceMul, Nat.reduceLT, Nat.reduceEqDiff, or_true, true_or, or_false, false_or, and_false, false_and, not_true_eq_false, not_false_eq_true, ne_eq, cN4, cN5, cN6, cN7, cN13, cN30, cN60, cN64, cN100, cN136, cN240, cN384, cN900, cN2040, cN3,  v_swM_0, v_swM_1, v_swM_r, v_swM_n, swM_ite, app_ite, ex_some, bI_0, bI_1, nn_iff, Int.toNat_natCast, Int.toNat_of_nonneg, Int.natCast_add, cN1, wI_id2, wL_id2, ↓if_pos, ↓if_neg, if_pos, if_neg]
        exact po
      · obtain ⟨m1, m2⟩ := TmS_1 T4 g4
        have po : MbO B n c w s k v0 σ (.inl 0) ([0, (k : Int), x, wh, y], [239, 0, 0, 0, 0], σ4) := ⟨rfl, G4, Or.inr ⟨g14, j, j1, nc, cc, T4, fun h => absurd h g4⟩⟩
        clear T4 R4 yf yv G4 VV cc nc dp
        try simp (disch := omega) only [w_iff, iffM_t, iffM_f, iffM_d, iffM_nd, iffM_0, iffM_ite, Wd_iffM, iffM_v, w_tern, ternM_t, ternM_f, ternM_d, ternM_nd, ternM_0, ternM_ite, Wd_ternM, ternM_v, w_sw, swX_1, Wd_swX, Bool.not_true, Bool.not_false, m1, Wd_some, Wd_bn, Wd_sqM, Wd_outV, Wd_blkM, Wd_swM, Wd_ite, Wd_map, v_kS_0, v_kS_b, v_kS_r, v_kO_r, v_kW_0, v_kW_1, v_kW_2, v_kW_r, v_kL_0, v_kL_1, v_kL_2, v_kL_r, v_kU_0, ups_11, upsN, upsA, upA_same, upA_neA, fl_at, fl_neA, v_sq_eq, v_sqM_0, v_sqM_r, v_sqM_b, v_sqM_n, sqM_ite, v_asI, v_asR, v_inc, v_pfI, v_pfZ, v_pfO, v_paI, v_paO, v_exI,  v_rtI, v_rtZ, v_rtV, v_sk, v_brk, v_cnt, v_blk_eq, v_blkM_some, blkM_ite, v_lI, v_lR, v_cI, v_gI, v_gR, v_op1, v_op2, v_arI, v_arR, v_alen,  v_cmp1, v_cmp2, v_cAnd, v_cOr, v_cNot, v_cTern, v_bn_some, bn_ite, v_bn_none, v_outV_r, v_outV_0, v_outV_n, outV_ite, List.getD_cons_zero, List.getD_cons_succ, List.set_cons_zero, List.set_cons_succ, List.take_succ_cons, List.take_zero, List.drop_succ_cons, List.drop_zero, List.nil_append, List.cons_append, Option.map_some, Option.map_none, if_true, if_false, ↓reduceIte, reduceCtorEq, decide_eq_true_eq, Bool.not_eq_true', decide_eq_false_iff_not, decide_eq_true, decide_eq_false, decide_true, decide_false, and_self, and_true, true_and, or_self, stO, v_caV_, v_caV_i, v_caV_ii, v_caV_iii, v_caV_iiii, v_caV_iiiii, v_caV_il, v_caV_iil, v_caV_l, v_caV_ll, v_caV_r, v_caV_ri, v_caV_rii, v_caV_riii, v_caV_riiii, v_caV_ir, v_caV_iri, v_caV_iiri, v_caS_i, v_caS_ii, v_caS_iii, v_caS_iiii, v_caS_iiiiii, v_caS_il, v_caS_li, v_caS_ll, v_caS_lll, v_caS_ri, v_caS_riii, sh_239, sh_240, sh_241, sh_242, sh_243, sh_244, sh_245, sh_246, sh_247, sh_248, sh_249, sh_250, sh_251, sh_252, sh_253, rf_239_4, rf_239_5, rf_239_6, rf_239_7, rf_239_20, rf_239_21, rf_239_22, rf_239_23, rf_239_27, rf_239_28, rf_239_32, rf_239_33, rf_239_34, rf_239_35, Int.reduceLE, Int.reduceLT, Int.reduceToNat, Int.reduceAdd, Int.reduceSub, Int.reduceMul, Int.reduceNeg, Int.reduceEq, Int.reduceNe, Nat.reduceAdd, Nat.reduceMul, Nat.reduceLT, Nat.reduceEqDiff, or_true, true_or, or_false, false_or, and_false, false_and, not_true_eq_false, not_false_eq_true, ne_eq, cN4, cN5, cN6, cN7, cN13, cN30, cN60, cN64, cN100, cN136, cN240, cN384, cN900, cN2040, cN3,  v_swM_0, v_swM_1, v_swM_r, v_swM_n, swM_ite, app_ite, ex_some, bI_0, bI_1, nn_iff, Int.toNat_natCast, Int.toNat_of_nonneg, Int.natCast_add, cN1, wI_id2, wL_id2, ↓if_pos, ↓if_neg, if_pos, if_neg]
        exact po
    · rw [if_neg g14] at pl
      have po : MbO B n c w s k v0 σ (.inl 0) ([0, (k : Int), x, wh, y], [239, 0, 0, 0, 0], ups τ3 244 1635 ((k : Int) + 1)) := by
        refine ⟨rfl, MbF_4 G3 (by omega) _, Or.inl ⟨g14, TmS_4 T3 _ _, fun _ => ⟨VV 0 _ (by omega) (by try simp (disch := omega) only [ups_11, upsN, upsA, upA_same, upA_neA, fl_at, fl_neA]) (fun i h1 h2 h3 => by rw [upsN h1]) (by try simp (disch := omega) only [ups_11, upsN, upsA, upA_same, upA_neA, fl_at, fl_neA]), ?_⟩⟩⟩
        rw [upsN (by omega)]; exact e8
      clear e1 e2 e3 e4 e5 e6 e7 e8 v2 v3 xv m1 m2 T3 be VV G3
      try simp (disch := omega) only [w_iff, iffM_t, iffM_f, iffM_d, iffM_nd, iffM_0, iffM_ite, Wd_iffM, iffM_v, w_tern, ternM_t, ternM_f, ternM_d, ternM_nd, ternM_0, ternM_ite, Wd_ternM, ternM_v, w_sw, swX_1, Wd_swX, Bool.not_true, Bool.not_false, bTW, e12, pl, e35, Wd_some, Wd_bn, Wd_sqM, Wd_outV, Wd_blkM, Wd_swM, Wd_ite, Wd_map, v_kS_0, v_kS_b, v_kS_r, v_kO_r, v_kW_0, v_kW_1, v_kW_2, v_kW_r, v_kL_0, v_kL_1, v_kL_2, v_kL_r, v_kU_0, ups_11, upsN, upsA, upA_same, upA_neA, fl_at, fl_neA, v_sq_eq, v_sqM_0, v_sqM_r, v_sqM_b, v_sqM_n, sqM_ite, v_asI, v_asR, v_inc, v_pfI, v_pfZ, v_pfO, v_paI, v_paO, v_exI,  v_rtI, v_rtZ, v_rtV, v_sk, v_brk, v_cnt, v_blk_eq, v_blkM_some, blkM_ite, v_lI, v_lR, v_cI, v_gI, v_gR, v_op1, v_op2, v_arI, v_arR, v_alen,  v_cmp1, v_cmp2, v_cAnd, v_cOr, v_cNot, v_cTern, v_bn_some, bn_ite, v_bn_none, v_outV_r, v_outV_0, v_outV_n, outV_ite, List.getD_cons_zero, List.getD_cons_succ, List.set_cons_zero, List.set_cons_succ, List.take_succ_cons, List.take_zero, List.drop_succ_cons, List.drop_zero, List.nil_append, List.cons_append, Option.map_some, Option.map_none, if_true, if_false, ↓reduceIte, reduceCtorEq, decide_eq_true_eq, Bool.not_eq_true', decide_eq_false_iff_not, decide_eq_true, decide_eq_false, decide_true, decide_false, and_self, and_true, true_and, or_self, stO, v_caV_, v_caV_i, v_caV_ii, v_caV_iii, v_caV_iiii, v_caV_iiiii, v_caV_il, v_caV_iil, v_caV_l, v_caV_ll, v_caV_r, v_caV_ri, v_caV_rii, v_caV_riii, v_caV_riiii, v_caV_ir, v_caV_iri, v_caV_iiri, v_caS_i, v_caS_ii, v_caS_iii, v_caS_iiii, v_caS_iiiiii, v_caS_il, v_caS_li, v_caS_ll, v_caS_lll, v_caS_ri, v_caS_riii, sh_239, sh_240, sh_241, sh_242, sh_243, sh_244, sh_245, sh_246, sh_247, sh_248, sh_249, sh_250, sh_251, sh_252, sh_253, rf_239_4, rf_239_5, rf_239_6, rf_239_7, rf_239_20, rf_239_21, rf_239_22, rf_239_23, rf_239_27, rf_239_28, rf_239_32, rf_239_33, rf_239_34, rf_239_35, Int.reduceLE, Int.reduceLT, Int.reduceToNat, Int.reduceAdd, Int.reduceSub, Int.reduceMul, Int.reduceNeg, Int.reduceEq, Int.reduceNe, Nat.reduceAdd, Nat.reduceMul, Nat.reduceLT, Nat.reduceEqDiff, or_true, true_or, or_false, false_or, and_false, false_and, not_true_eq_false, not_false_eq_true, ne_eq, cN4, cN5, cN6, cN7, cN13, cN30, cN60, cN64, cN100, cN136, cN240, cN384, cN900, cN2040, cN3,  v_swM_0, v_swM_1, v_swM_r, v_swM_n, swM_ite, app_ite, ex_some, bI_0, bI_1, nn_iff, Int.toNat_natCast, Int.toNat_of_nonneg, Int.natCast_add, cN1, wI_id2, wL_id2, ↓if_pos, ↓if_neg, if_pos, if_neg]
      exact po
  · obtain ⟨m3, m4⟩ := TmS_1 T3 g
    have po : MbO B n c w s b v0 σ (.inl 0) ([0, (k : Int), x, wh, y], [239, 0, 0, 0, 0], τ3) := ⟨rfl, G3, Or.inl ⟨by rw [tKw_0 g]; decide, T3, fun h => absurd h g⟩⟩
    clear e1 e2 e3 e4 e5 e6 e7 e8 v2 v3 xv m1 m2 T3 be G3
    try simp (disch := omega) only [w_iff, iffM_t, iffM_f, iffM_d, iffM_nd, iffM_0, iffM_ite, Wd_iffM, iffM_v, w_tern, ternM_t, ternM_f, ternM_d, ternM_nd, ternM_0, ternM_ite, Wd_ternM, ternM_v, w_sw, swX_1, Wd_swX, Bool.not_true, Bool.not_false, bTW, m3, Wd_some, Wd_bn, Wd_sqM, Wd_outV, Wd_blkM, Wd_swM, Wd_ite, Wd_map, v_kS_0, v_kS_b, v_kS_r, v_kO_r, v_kW_0, v_kW_1, v_kW_2, v_kW_r, v_kL_0, v_kL_1, v_kL_2, v_kL_r, v_kU_0, ups_11, upsN, upsA, upA_same, upA_neA, fl_at, fl_neA, v_sq_eq, v_sqM_0, v_sqM_r, v_sqM_b, v_sqM_n, sqM_ite, v_asI, v_asR, v_inc, v_pfI, v_pfZ, v_pfO, v_paI, v_paO, v_exI,  v_rtI, v_rtZ, v_rtV, v_sk, v_brk, v_cnt, v_blk_eq, v_blkM_some, blkM_ite, v_lI, v_lR, v_cI, v_gI, v_gR, v_op1, v_op2, v_arI, v_arR, v_alen,  v_cmp1, v_cmp2, v_cAnd, v_cOr, v_cNot, v_cTern, v_bn_some, bn_ite, v_bn_none, v_outV_r, v_outV_0, v_outV_n, outV_ite, List.getD_cons_zero, List.getD_cons_succ, List.set_cons_zero, List.set_cons_succ, List.take_succ_cons, List.take_zero, List.drop_succ_cons, List.drop_zero, List.nil_append, List.cons_append, Option.map_some, Option.map_none, if_true, if_false, ↓reduceIte, reduceCtorEq, decide_eq_true_eq, Bool.not_eq_true', decide_eq_false_iff_not, decide_eq_true, decide_eq_false, decide_true, decide_false, and_self, and_true, true_and, or_self, stO, v_caV_, v_caV_i, v_caV_ii, v_caV_iii, v_caV_iiii, v_caV_iiiii, v_caV_il, v_caV_iil, v_caV_l, v_caV_ll, v_caV_r, v_caV_ri, v_caV_rii, v_caV_riii, v_caV_riiii, v_caV_ir, v_caV_iri, v_caV_iiri, v_caS_i, v_caS_ii, v_caS_iii, v_caS_iiii, v_caS_iiiiii, v_caS_il, v_caS_li, v_caS_ll, v_caS_lll, v_caS_ri, v_caS_riii, sh_239, sh_240, sh_241, sh_242, sh_243, sh_244, sh_245, sh_246, sh_247, sh_248, sh_249, sh_250, sh_251, sh_252, sh_253, rf_239_4, rf_239_5, rf_239_6, rf_239_7, rf_239_20, rf_239_21, rf_239_22, rf_239_23, rf_239_27, rf_239_28, rf_239_32, rf_239_33, rf_239_34, rf_239_35, Int.reduceLE, Int.reduceLT, Int.reduceToNat, Int.reduceAdd, Int.reduceSub, Int.reduceMul, Int.reduceNeg, Int.reduceEq, Int.reduceNe, Nat.reduceAdd, Nat.reduceMul, Nat.reduceLT, Nat.reduceEqDiff, or_true, true_or, or_false, false_or, and_false, false_and, not_true_eq_false, not_false_eq_true, ne_eq, cN4, cN5, cN6, cN7, cN13, cN30, cN60, cN64, cN100, cN136, cN240, cN384, cN900, cN2040, cN3,  v_swM_0, v_swM_1, v_swM_r, v_swM_n, swM_ite, app_ite, ex_some, bI_0, bI_1, nn_iff, Int.toNat_natCast, Int.toNat_of_nonneg, Int.natCast_add, cN1, wI_id2, wL_id2, ↓if_pos, ↓if_neg, if_pos, if_neg]
    exact po
set_option maxHeartbeats 8000000 in
theorem d_bandT {c w : Nat → Int} {s : TS3} {σ2 : SS} (hc : cb σ 4 = c) (hw' : wb σ 4 = w) (hw : WH c) {b k : Nat} (hb : s.2.1 = 0 → c 3 = (b : Int)) (b6 : b < 6) (k6 : k < 6) {v0 : Int} (T : TmS B n s σ2) (F2 : MbF b σ σ2) (x4 : σ2 244 = σ 244) (xv : s.2.1 = 0 → k = b ∧ σ2 247 (54 + b) = v0) : Wd (bT ([0, (k : Int), 0, 0, 0], [239, 0, 0, 0, 0], σ2)) (MbO B n c w s b v0 σ) := by
  have at1 := d_isAt σ2
  have mu := d_must T (if skw σ2 = 11 then 1 else 0)
  rw [tNdW_b (i := 11) (by decide) (fun g => by rw [skw_s T g])] at mu
  obtain ⟨W, hW⟩ : ∃ W, W = c 0 := ⟨_, rfl⟩
  obtain ⟨D, hD⟩ : ∃ D, D = c 1 := ⟨_, rfl⟩
  have W6 : 0 ≤ W ∧ W ≤ 6 := by rw [hW]; exact hw.1
  have D5 : 0 ≤ D ∧ D ≤ 5 := by rw [hD]; exact hw.2.1
  have eW0 : σ 244 1632 = W := by rw [hW, ← hc]; rfl
  have eD0 : σ 244 1633 = D := by rw [hD, ← hc]; rfl
  have sm : (tNdN B n 0 (W - 1) (tNdW B n 11 s)).2.1 = 0 → s.2.1 = 0 := fun h => tNdW_m (i := 11) (by decide) (tNdN_m h)
  unfold bT
  clear T
  try simp (disch := omega) only [w_iff, iffM_t, iffM_f, iffM_d, iffM_nd, iffM_0, iffM_ite, Wd_iffM, iffM_v, w_tern, ternM_t, ternM_f, ternM_d, ternM_nd, ternM_0, ternM_ite, Wd_ternM, ternM_v, w_sw, swX_1, Wd_swX, Bool.not_true, Bool.not_false, at1, Wd_some, Wd_bn, Wd_sqM, Wd_outV, Wd_blkM, Wd_swM, Wd_ite, Wd_map, v_kS_0, v_kS_b, v_kS_r, v_kO_r, v_kW_0, v_kW_1, v_kW_2, v_kW_r, v_kL_0, v_kL_1, v_kL_2, v_kL_r, v_kU_0, ups_11, upsN, upsA, upA_same, upA_neA, fl_at, fl_neA, v_sq_eq, v_sqM_0, v_sqM_r, v_sqM_b, v_sqM_n, sqM_ite, v_asI, v_asR, v_inc, v_pfI, v_pfZ, v_pfO, v_paI, v_paO, v_exI,  v_rtI, v_rtZ, v_rtV, v_sk, v_brk, v_cnt, v_blk_eq, v_blkM_some, blkM_ite, v_lI, v_lR, v_cI, v_gI, v_gR, v_op1, v_op2, v_arI, v_arR, v_alen,  v_cmp1, v_cmp2, v_cAnd, v_cOr, v_cNot, v_cTern, v_bn_some, bn_ite, v_bn_none, v_outV_r, v_outV_0, v_outV_n, outV_ite, List.getD_cons_zero, List.getD_cons_succ, List.set_cons_zero, List.set_cons_succ, List.take_succ_cons, List.take_zero, List.drop_succ_cons, List.drop_zero, List.nil_append, List.cons_append, Option.map_some, Option.map_none, if_true, if_false, ↓reduceIte, reduceCtorEq, decide_eq_true_eq, Bool.not_eq_true', decide_eq_false_iff_not, decide_eq_true, decide_eq_false, decide_true, decide_false, and_self, and_true, true_and, or_self, stO, v_caV_, v_caV_i, v_caV_ii, v_caV_iii, v_caV_iiii, v_caV_iiiii, v_caV_il, v_caV_iil, v_caV_l, v_caV_ll, v_caV_r, v_caV_ri, v_caV_rii, v_caV_riii, v_caV_riiii, v_caV_ir, v_caV_iri, v_caV_iiri, v_caS_i, v_caS_ii, v_caS_iii, v_caS_iiii, v_caS_iiiiii, v_caS_il, v_caS_li, v_caS_ll, v_caS_lll, v_caS_ri, v_caS_riii, sh_239, sh_240, sh_241, sh_242, sh_243, sh_244, sh_245, sh_246, sh_247, sh_248, sh_249, sh_250, sh_251, sh_252, sh_253, rf_239_4, rf_239_5, rf_239_6, rf_239_7, rf_239_20, rf_239_21, rf_239_22, rf_239_23, rf_239_27, rf_239_28, rf_239_32, rf_239_33, rf_239_34, rf_239_35, Int.reduceLE, Int.reduceLT, Int.reduceToNat, Int.reduceAdd, Int.reduceSub, Int.reduceMul, Int.reduceNeg, Int.reduceEq, Int.reduceNe, Nat.reduceAdd, Nat.reduceMul, Nat.reduceLT, Nat.reduceEqDiff, or_true, true_or, or_false, false_or, and_false, false_and, not_true_eq_false, not_false_eq_true, ne_eq, cN4, cN5, cN6, cN7, cN13, cN30, cN60, cN64, cN100, cN136, cN240, cN384, cN900, cN2040, cN3,  v_swM_0, v_swM_1, v_swM_r, v_swM_n, swM_ite, app_ite, ex_some, bI_0, bI_1, nn_iff, Int.toNat_natCast, Int.toNat_of_nonneg, Int.natCast_add, cN1, wI_id2, wL_id2, ↓if_pos, ↓if_neg, if_pos, if_neg]
  refine Wd_mono mu (fun r3 σ3 h3 => ?_)
  obtain ⟨T3, F3, _⟩ := h3
  have eW : σ3 244 1632 = W := by rw [F3.1 244 (by omega), x4]; exact eW0
  have co := d_count T3 0 (W - 1)
  have xW : c 0 - 1 = W - 1 := by omega
  have xD : c 1 - 1 = D - 1 := by omega
  have key : ∀ σ6 (x y wh : Int), TmS B n (tStd B n c s) σ6 → MbF b σ σ6 → σ6 244 = σ 244 → ((tStd B n c s).2.1 = 0 → k = b ∧ σ6 247 (54 + b) = v0 ∧ x = tNm B n (tNdW B n 11 s).1 ∧ y = tNm B n (tNdN B n 0 (c 0 - 1) (tNdW B n 11 s)).1) → Wd (bTU ([0, (k : Int), x, wh, y], [239, 0, 0, 0, 0], σ6)) (MbO B n c w s b v0 σ) := fun σ6 x y wh h1 h2 h3 h4 => d_bandU hc hw' hw (fun h => hb (tStd_m h)) b6 k6 h1 h2 h3 h4
  have mat : ∀ (σ5 : SS) (x y : Int), σ5 244 = σ 244 → F_X12_bandAt 239 4 x y σ5 = some (atF c x y, σ5) := fun σ5 x y h => by
    have e : cb σ5 4 = c := by rw [← hc]; unfold cb; rw [h]
    have := m_bandAt (σ := σ5) (β := 4) (by omega) (by rw [e]; exact hw) x y
    rw [e] at this
    exact this
  have es : tStd B n c s = tAdv B n (if 0 ≤ atF c (tNm B n (tNdW B n 11 s).1) (tNm B n (tNdN B n 0 (W - 1) (tNdW B n 11 s)).1) then tBlm B n 5 (tNmH B n 0 (D - 1) (tNdN B n 0 (W - 1) (tNdW B n 11 s))) else tNmH B n 0 (D - 1) (tNdN B n 0 (W - 1) (tNdW B n 11 s))) := by
    unfold tStd
    rw [xW, xD]
  rw [xW] at key
  have tv : (tStd B n c s).2.1 = 0 → (tNdN B n 0 (D - 1) (tNdN B n 0 (W - 1) (tNdW B n 11 s))).2.1 = 0 := fun h => by
    rw [es] at h
    have h := tAdv_m h
    unfold tNdN
    rw [tAdv_b]
    split at h
    · exact absurd h (tBlm_1 (by omega))
    · exact h
  have G3 := MbF_f F2 F3
  have y47 : σ3 247 = σ2 247 := F3.1 247 (by omega)
  have y44 : σ3 244 = σ 244 := by rw [F3.1 244 (by omega)]; exact x4
  clear T3 F3 F2 x4 hc hw' hb hW hD eW0
  generalize hs3 : tNdW B n 11 s = s3 at *
  try simp (disch := omega) only [w_iff, iffM_t, iffM_f, iffM_d, iffM_nd, iffM_0, iffM_ite, Wd_iffM, iffM_v, w_tern, ternM_t, ternM_f, ternM_d, ternM_nd, ternM_0, ternM_ite, Wd_ternM, ternM_v, w_sw, swX_1, Wd_swX, Bool.not_true, Bool.not_false, eW, Wd_some, Wd_bn, Wd_sqM, Wd_outV, Wd_blkM, Wd_swM, Wd_ite, Wd_map, v_kS_0, v_kS_b, v_kS_r, v_kO_r, v_kW_0, v_kW_1, v_kW_2, v_kW_r, v_kL_0, v_kL_1, v_kL_2, v_kL_r, v_kU_0, ups_11, upsN, upsA, upA_same, upA_neA, fl_at, fl_neA, v_sq_eq, v_sqM_0, v_sqM_r, v_sqM_b, v_sqM_n, sqM_ite, v_asI, v_asR, v_inc, v_pfI, v_pfZ, v_pfO, v_paI, v_paO, v_exI,  v_rtI, v_rtZ, v_rtV, v_sk, v_brk, v_cnt, v_blk_eq, v_blkM_some, blkM_ite, v_lI, v_lR, v_cI, v_gI, v_gR, v_op1, v_op2, v_arI, v_arR, v_alen,  v_cmp1, v_cmp2, v_cAnd, v_cOr, v_cNot, v_cTern, v_bn_some, bn_ite, v_bn_none, v_outV_r, v_outV_0, v_outV_n, outV_ite, List.getD_cons_zero, List.getD_cons_succ, List.set_cons_zero, List.set_cons_succ, List.take_succ_cons, List.take_zero, List.drop_succ_cons, List.drop_zero, List.nil_append, List.cons_append, Option.map_some, Option.map_none, if_true, if_false, ↓reduceIte, reduceCtorEq, decide_eq_true_eq, Bool.not_eq_true', decide_eq_false_iff_not, decide_eq_true, decide_eq_false, decide_true, decide_false, and_self, and_true, true_and, or_self, stO, v_caV_, v_caV_i, v_caV_ii, v_caV_iii, v_caV_iiii, v_caV_iiiii, v_caV_il, v_caV_iil, v_caV_l, v_caV_ll, v_caV_r, v_caV_ri, v_caV_rii, v_caV_riii, v_caV_riiii, v_caV_ir, v_caV_iri, v_caV_iiri, v_caS_i, v_caS_ii, v_caS_iii, v_caS_iiii, v_caS_iiiiii, v_caS_il, v_caS_li, v_caS_ll, v_caS_lll, v_caS_ri, v_caS_riii, sh_239, sh_240, sh_241, sh_242, sh_243, sh_244, sh_245, sh_246, sh_247, sh_248, sh_249, sh_250, sh_251, sh_252, sh_253, rf_239_4, rf_239_5, rf_239_6, rf_239_7, rf_239_20, rf_239_21, rf_239_22, rf_239_23, rf_239_27, rf_239_28, rf_239_32, rf_239_33, rf_239_34, rf_239_35, Int.reduceLE, Int.reduceLT, Int.reduceToNat, Int.reduceAdd, Int.reduceSub, Int.reduceMul, Int.reduceNeg, Int.reduceEq, Int.reduceNe, Nat.reduceAdd, Nat.reduceMul, Nat.reduceLT, Nat.reduceEqDiff, or_true, true_or, or_false, false_or, and_false, false_and, not_true_eq_false, not_false_eq_true, ne_eq, cN4, cN5, cN6, cN7, cN13, cN30, cN60, cN64, cN100, cN136, cN240, cN384, cN900, cN2040, cN3,  v_swM_0, v_swM_1, v_swM_r, v_swM_n, swM_ite, app_ite, ex_some, bI_0, bI_1, nn_iff, Int.toNat_natCast, Int.toNat_of_nonneg, Int.natCast_add, cN1, wI_id2, wL_id2, ↓if_pos, ↓if_neg, if_pos, if_neg]
  refine Wd_mono co (fun r4 σ4 h4 => ?_)
  obtain ⟨T4, F4, v4⟩ := h4
  have eD : σ4 244 1633 = D := by rw [F4.1 244 (by omega), y44]; exact eD0
  have co := d_count T4 0 (D - 1)
  have at4 : (tNdN B n 0 (W - 1) s3).2.1 = 0 → σ4 239 15 = (tAt B n (tNdN B n 0 (W - 1) s3).1 : Int) := fun h => (T4.2.2.2.2 h).2.2.1
  have G4 := MbF_f G3 F4
  have z47 : σ4 247 = σ2 247 := by rw [F4.1 247 (by omega)]; exact y47
  have z44 : σ4 244 = σ 244 := by rw [F4.1 244 (by omega)]; exact y44
  clear T4 F4 G3 y47 y44 eW eD0
  generalize hs4 : tNdN B n 0 (W - 1) s3 = s4 at *
  try simp (disch := omega) only [w_iff, iffM_t, iffM_f, iffM_d, iffM_nd, iffM_0, iffM_ite, Wd_iffM, iffM_v, w_tern, ternM_t, ternM_f, ternM_d, ternM_nd, ternM_0, ternM_ite, Wd_ternM, ternM_v, w_sw, swX_1, Wd_swX, Bool.not_true, Bool.not_false, eD, Wd_some, Wd_bn, Wd_sqM, Wd_outV, Wd_blkM, Wd_swM, Wd_ite, Wd_map, v_kS_0, v_kS_b, v_kS_r, v_kO_r, v_kW_0, v_kW_1, v_kW_2, v_kW_r, v_kL_0, v_kL_1, v_kL_2, v_kL_r, v_kU_0, ups_11, upsN, upsA, upA_same, upA_neA, fl_at, fl_neA, v_sq_eq, v_sqM_0, v_sqM_r, v_sqM_b, v_sqM_n, sqM_ite, v_asI, v_asR, v_inc, v_pfI, v_pfZ, v_pfO, v_paI, v_paO, v_exI,  v_rtI, v_rtZ, v_rtV, v_sk, v_brk, v_cnt, v_blk_eq, v_blkM_some, blkM_ite, v_lI, v_lR, v_cI, v_gI, v_gR, v_op1, v_op2, v_arI, v_arR, v_alen,  v_cmp1, v_cmp2, v_cAnd, v_cOr, v_cNot, v_cTern, v_bn_some, bn_ite, v_bn_none, v_outV_r, v_outV_0, v_outV_n, outV_ite, List.getD_cons_zero, List.getD_cons_succ, List.set_cons_zero, List.set_cons_succ, List.take_succ_cons, List.take_zero, List.drop_succ_cons, List.drop_zero, List.nil_append, List.cons_append, Option.map_some, Option.map_none, if_true, if_false, ↓reduceIte, reduceCtorEq, decide_eq_true_eq, Bool.not_eq_true', decide_eq_false_iff_not, decide_eq_true, decide_eq_false, decide_true, decide_false, and_self, and_true, true_and, or_self, stO, v_caV_, v_caV_i, v_caV_ii, v_caV_iii, v_caV_iiii, v_caV_iiiii, v_caV_il, v_caV_iil, v_caV_l, v_caV_ll, v_caV_r, v_caV_ri, v_caV_rii, v_caV_riii, v_caV_riiii, v_caV_ir, v_caV_iri, v_caV_iiri, v_caS_i, v_caS_ii, v_caS_iii, v_caS_iiii, v_caS_iiiiii, v_caS_il, v_caS_li, v_caS_ll, v_caS_lll, v_caS_ri, v_caS_riii, sh_239, sh_240, sh_241, sh_242, sh_243, sh_244, sh_245, sh_246, sh_247, sh_248, sh_249, sh_250, sh_251, sh_252, sh_253, rf_239_4, rf_239_5, rf_239_6, rf_239_7, rf_239_20, rf_239_21, rf_239_22, rf_239_23, rf_239_27, rf_239_28, rf_239_32, rf_239_33, rf_239_34, rf_239_35, Int.reduceLE, Int.reduceLT, Int.reduceToNat, Int.reduceAdd, Int.reduceSub, Int.reduceMul, Int.reduceNeg, Int.reduceEq, Int.reduceNe, Nat.reduceAdd, Nat.reduceMul, Nat.reduceLT, Nat.reduceEqDiff, or_true, true_or, or_false, false_or, and_false, false_and, not_true_eq_false, not_false_eq_true, ne_eq, cN4, cN5, cN6, cN7, cN13, cN30, cN60, cN64, cN100, cN136, cN240, cN384, cN900, cN2040, cN3,  v_swM_0, v_swM_1, v_swM_r, v_swM_n, swM_ite, app_ite, ex_some, bI_0, bI_1, nn_iff, Int.toNat_natCast, Int.toNat_of_nonneg, Int.natCast_add, cN1, wI_id2, wL_id2, ↓if_pos, ↓if_neg, if_pos, if_neg]
  generalize σ4 239 15 = wh at *
  refine Wd_mono co (fun r5 σ5 h5 => ?_)
  obtain ⟨T5, F5, v5⟩ := h5
  have G5 := MbF_f G4 F5
  have w47 : σ5 247 = σ2 247 := by rw [F5.1 247 (by omega)]; exact z47
  have w44 : σ5 244 = σ 244 := by rw [F5.1 244 (by omega)]; exact z44
  have ma := mat σ5 r4 r5 w44
  by_cases g5 : (tNdN B n 0 (D - 1) s4).2.1 = 0
  · obtain ⟨n1, n2, n3⟩ := tNdN_k g5
    have x4 := v4 n2
    have x5 := v5 g5
    have e12 := TmS_0 T5 g5
    have ea := at4 n2
    rw [n1, ← x4, ← x5] at es
    by_cases ga : 0 ≤ atF c r4 r5
    · rw [if_pos ga] at es
      have b1 := tBlm_1 (B := B) (n := n) (k := 5) (by omega) (s := s4)
      have eb : tBlm B n 5 s4 = (s4.1, 5, (tAt B n s4.1 : Int)) := by
        show (if s4.2.1 = 0 then _ else _) = _
        rw [if_pos n2, n3, if_neg (by decide)]
      rw [tAdv_0 b1] at es
      have f0 := fail_0 5 wh e12
      have T6 : TmS B n (tStd B n c s) (ups (ups σ5 239 12 5) 239 13 wh) := by
        rw [es, eb]
        refine ⟨TxM_c (TmF_u (TmF_u (TmF_r _) (by omega) _) (by omega) _) T5.1, ⟨?_, by dsimp only; omega, fun h => by dsimp only at h; omega⟩, by try simp (disch := omega) only [ups_11, upsN, upsA, upA_same, upA_neA, fl_at, fl_neA], fun _ => by try simp (disch := omega) only [ups_11, upsN, upsA, upA_same, upA_neA, fl_at, fl_neA]; exact ea, fun h => by dsimp only at h; omega⟩
        have ok := T5.2.1.1
        have : (tNdN B n 0 (D - 1) s4).1 = tEn B n s4.1 := by
          unfold tNdN
          rw [n1]
          show (if s4.2.1 = 0 then ((tEn B n s4.1, s4.2) : TS3) else s4).1 = _
          rw [if_pos n2]
        rw [this] at ok
        have := tEn_lt (B := B) (n := n) (p := s4.1) (by rw [n3]; decide)
        show s4.1 ≤ n
        omega
      have ky := key (ups (ups σ5 239 12 5) 239 13 wh) r4 r5 wh T6 (MbF_f G5 (TmF_u (TmF_u (TmF_r _) (by omega) _) (by omega) _)) (by try simp (disch := omega) only [ups_11, upsN, upsA, upA_same, upA_neA, fl_at, fl_neA]; exact w44) (fun h => by rw [es] at h; exact absurd h b1)
      generalize atF c r4 r5 = av at *
      clear T5 T6 G5 G4 F5 key mat es
      try simp (disch := omega) only [w_iff, iffM_t, iffM_f, iffM_d, iffM_nd, iffM_0, iffM_ite, Wd_iffM, iffM_v, w_tern, ternM_t, ternM_f, ternM_d, ternM_nd, ternM_0, ternM_ite, Wd_ternM, ternM_v, w_sw, swX_1, Wd_swX, Bool.not_true, Bool.not_false, e12, ma, f0, Wd_some, Wd_bn, Wd_sqM, Wd_outV, Wd_blkM, Wd_swM, Wd_ite, Wd_map, v_kS_0, v_kS_b, v_kS_r, v_kO_r, v_kW_0, v_kW_1, v_kW_2, v_kW_r, v_kL_0, v_kL_1, v_kL_2, v_kL_r, v_kU_0, ups_11, upsN, upsA, upA_same, upA_neA, fl_at, fl_neA, v_sq_eq, v_sqM_0, v_sqM_r, v_sqM_b, v_sqM_n, sqM_ite, v_asI, v_asR, v_inc, v_pfI, v_pfZ, v_pfO, v_paI, v_paO, v_exI,  v_rtI, v_rtZ, v_rtV, v_sk, v_brk, v_cnt, v_blk_eq, v_blkM_some, blkM_ite, v_lI, v_lR, v_cI, v_gI, v_gR, v_op1, v_op2, v_arI, v_arR, v_alen,  v_cmp1, v_cmp2, v_cAnd, v_cOr, v_cNot, v_cTern, v_bn_some, bn_ite, v_bn_none, v_outV_r, v_outV_0, v_outV_n, outV_ite, List.getD_cons_zero, List.getD_cons_succ, List.set_cons_zero, List.set_cons_succ, List.take_succ_cons, List.take_zero, List.drop_succ_cons, List.drop_zero, List.nil_append, List.cons_append, Option.map_some, Option.map_none, if_true, if_false, ↓reduceIte, reduceCtorEq, decide_eq_true_eq, Bool.not_eq_true', decide_eq_false_iff_not, decide_eq_true, decide_eq_false, decide_true, decide_false, and_self, and_true, true_and, or_self, stO, v_caV_, v_caV_i, v_caV_ii, v_caV_iii, v_caV_iiii, v_caV_iiiii, v_caV_il, v_caV_iil, v_caV_l, v_caV_ll, v_caV_r, v_caV_ri, v_caV_rii, v_caV_riii, v_caV_riiii, v_caV_ir, v_caV_iri, v_caV_iiri, v_caS_i, v_caS_ii, v_caS_iii, v_caS_iiii, v_caS_iiiiii, v_caS_il, v_caS_li, v_caS_ll, v_caS_lll, v_caS_ri, v_caS_riii, sh_239, sh_240, sh_241, sh_242, sh_243, sh_244, sh_245, sh_246, sh_247, sh_248, sh_249, sh_250, sh_251, sh_252, sh_253, rf_239_4, rf_239_5, rf_239_6, rf_239_7, rf_239_20, rf_239_21, rf_239_22, rf_239_23, rf_239_27, rf_239_28, rf_239_32, rf_239_33, rf_239_34, rf_239_35, Int.reduceLE, Int.reduceLT, Int.reduceToNat, Int.reduceAdd, Int.reduceSub, Int.reduceMul, Int.reduceNeg, Int.reduceEq, Int.reduceNe, Nat.reduceAdd, Nat.reduceMul, Nat.reduceLT, Nat.reduceEqDiff, or_true, true_or, or_false, false_or, and_false, false_and, not_true_eq_false, not_false_eq_true, ne_eq, cN4, cN5, cN6, cN7, cN13, cN30, cN60, cN64, cN100, cN136, cN240, cN384, cN900, cN2040, cN3,  v_swM_0, v_swM_1, v_swM_r, v_swM_n, swM_ite, app_ite, ex_some, bI_0, bI_1, nn_iff, Int.toNat_natCast, Int.toNat_of_nonneg, Int.natCast_add, cN1, wI_id2, wL_id2, ↓if_pos, ↓if_neg, if_pos, if_neg]
      exact ky
    · rw [if_neg ga] at es
      have et : tNdN B n 0 (D - 1) s4 = tStd B n c s := by
        rw [es]
        unfold tNdN
        rw [n1]
      rw [et] at T5
      have ky := key σ5 r4 r5 wh T5 G5 w44 (fun h => by
        obtain ⟨h1, h2⟩ := xv (sm n2)
        exact ⟨h1, by rw [w47]; exact h2, x4, x5⟩)
      generalize atF c r4 r5 = av at *
      clear T5 G5 G4 F5 key mat es
      try simp (disch := omega) only [w_iff, iffM_t, iffM_f, iffM_d, iffM_nd, iffM_0, iffM_ite, Wd_iffM, iffM_v, w_tern, ternM_t, ternM_f, ternM_d, ternM_nd, ternM_0, ternM_ite, Wd_ternM, ternM_v, w_sw, swX_1, Wd_swX, Bool.not_true, Bool.not_false, e12, ma, Wd_some, Wd_bn, Wd_sqM, Wd_outV, Wd_blkM, Wd_swM, Wd_ite, Wd_map, v_kS_0, v_kS_b, v_kS_r, v_kO_r, v_kW_0, v_kW_1, v_kW_2, v_kW_r, v_kL_0, v_kL_1, v_kL_2, v_kL_r, v_kU_0, ups_11, upsN, upsA, upA_same, upA_neA, fl_at, fl_neA, v_sq_eq, v_sqM_0, v_sqM_r, v_sqM_b, v_sqM_n, sqM_ite, v_asI, v_asR, v_inc, v_pfI, v_pfZ, v_pfO, v_paI, v_paO, v_exI,  v_rtI, v_rtZ, v_rtV, v_sk, v_brk, v_cnt, v_blk_eq, v_blkM_some, blkM_ite, v_lI, v_lR, v_cI, v_gI, v_gR, v_op1, v_op2, v_arI, v_arR, v_alen,  v_cmp1, v_cmp2, v_cAnd, v_cOr, v_cNot, v_cTern, v_bn_some, bn_ite, v_bn_none, v_outV_r, v_outV_0, v_outV_n, outV_ite, List.getD_cons_zero, List.getD_cons_succ, List.set_cons_zero, List.set_cons_succ, List.take_succ_cons, List.take_zero, List.drop_succ_cons, List.drop_zero, List.nil_append, List.cons_append, Option.map_some, Option.map_none, if_true, if_false, ↓reduceIte, reduceCtorEq, decide_eq_true_eq, Bool.not_eq_true', decide_eq_false_iff_not, decide_eq_true, decide_eq_false, decide_true, decide_false, and_self, and_true, true_and, or_self, stO, v_caV_, v_caV_i, v_caV_ii, v_caV_iii, v_caV_iiii, v_caV_iiiii, v_caV_il, v_caV_iil, v_caV_l, v_caV_ll, v_caV_r, v_caV_ri, v_caV_rii, v_caV_riii, v_caV_riiii, v_caV_ir, v_caV_iri, v_caV_iiri, v_caS_i, v_caS_ii, v_caS_iii, v_caS_iiii, v_caS_iiiiii, v_caS_il, v_caS_li, v_caS_ll, v_caS_lll, v_caS_ri, v_caS_riii, sh_239, sh_240, sh_241, sh_242, sh_243, sh_244, sh_245, sh_246, sh_247, sh_248, sh_249, sh_250, sh_251, sh_252, sh_253, rf_239_4, rf_239_5, rf_239_6, rf_239_7, rf_239_20, rf_239_21, rf_239_22, rf_239_23, rf_239_27, rf_239_28, rf_239_32, rf_239_33, rf_239_34, rf_239_35, Int.reduceLE, Int.reduceLT, Int.reduceToNat, Int.reduceAdd, Int.reduceSub, Int.reduceMul, Int.reduceNeg, Int.reduceEq, Int.reduceNe, Nat.reduceAdd, Nat.reduceMul, Nat.reduceLT, Nat.reduceEqDiff, or_true, true_or, or_false, false_or, and_false, false_and, not_true_eq_false, not_false_eq_true, ne_eq, cN4, cN5, cN6, cN7, cN13, cN30, cN60, cN64, cN100, cN136, cN240, cN384, cN900, cN2040, cN3,  v_swM_0, v_swM_1, v_swM_r, v_swM_n, swM_ite, app_ite, ex_some, bI_0, bI_1, nn_iff, Int.toNat_natCast, Int.toNat_of_nonneg, Int.natCast_add, cN1, wI_id2, wL_id2, ↓if_pos, ↓if_neg, if_pos, if_neg]
      exact ky
  · obtain ⟨m1, m2⟩ := TmS_1 T5 g5
    have et : tNdN B n 0 (D - 1) s4 = tStd B n c s := by
      have gh : ¬ (tNmH B n 0 (D - 1) s4).2.1 = 0 := fun h => g5 (by unfold tNdN; rw [tAdv_b]; exact h)
      rw [es, tBlm_0 gh, ite_self]
      rfl
    rw [et] at T5
    have ky := key σ5 r4 r5 wh T5 G5 w44 (fun h => absurd (tv h) g5)
    clear T5 G5 G4 F5 key mat es ma
    try simp (disch := omega) only [w_iff, iffM_t, iffM_f, iffM_d, iffM_nd, iffM_0, iffM_ite, Wd_iffM, iffM_v, w_tern, ternM_t, ternM_f, ternM_d, ternM_nd, ternM_0, ternM_ite, Wd_ternM, ternM_v, w_sw, swX_1, Wd_swX, Bool.not_true, Bool.not_false, m1, Wd_some, Wd_bn, Wd_sqM, Wd_outV, Wd_blkM, Wd_swM, Wd_ite, Wd_map, v_kS_0, v_kS_b, v_kS_r, v_kO_r, v_kW_0, v_kW_1, v_kW_2, v_kW_r, v_kL_0, v_kL_1, v_kL_2, v_kL_r, v_kU_0, ups_11, upsN, upsA, upA_same, upA_neA, fl_at, fl_neA, v_sq_eq, v_sqM_0, v_sqM_r, v_sqM_b, v_sqM_n, sqM_ite, v_asI, v_asR, v_inc, v_pfI, v_pfZ, v_pfO, v_paI, v_paO, v_exI,  v_rtI, v_rtZ, v_rtV, v_sk, v_brk, v_cnt, v_blk_eq, v_blkM_some, blkM_ite, v_lI, v_lR, v_cI, v_gI, v_gR, v_op1, v_op2, v_arI, v_arR, v_alen,  v_cmp1, v_cmp2, v_cAnd, v_cOr, v_cNot, v_cTern, v_bn_some, bn_ite, v_bn_none, v_outV_r, v_outV_0, v_outV_n, outV_ite, List.getD_cons_zero, List.getD_cons_succ, List.set_cons_zero, List.set_cons_succ, List.take_succ_cons, List.take_zero, List.drop_succ_cons, List.drop_zero, List.nil_append, List.cons_append, Option.map_some, Option.map_none, if_true, if_false, ↓reduceIte, reduceCtorEq, decide_eq_true_eq, Bool.not_eq_true', decide_eq_false_iff_not, decide_eq_true, decide_eq_false, decide_true, decide_false, and_self, and_true, true_and, or_self, stO, v_caV_, v_caV_i, v_caV_ii, v_caV_iii, v_caV_iiii, v_caV_iiiii, v_caV_il, v_caV_iil, v_caV_l, v_caV_ll, v_caV_r, v_caV_ri, v_caV_rii, v_caV_riii, v_caV_riiii, v_caV_ir, v_caV_iri, v_caV_iiri, v_caS_i, v_caS_ii, v_caS_iii, v_caS_iiii, v_caS_iiiiii, v_caS_il, v_caS_li, v_caS_ll, v_caS_lll, v_caS_ri, v_caS_riii, sh_239, sh_240, sh_241, sh_242, sh_243, sh_244, sh_245, sh_246, sh_247, sh_248, sh_249, sh_250, sh_251, sh_252, sh_253, rf_239_4, rf_239_5, rf_239_6, rf_239_7, rf_239_20, rf_239_21, rf_239_22, rf_239_23, rf_239_27, rf_239_28, rf_239_32, rf_239_33, rf_239_34, rf_239_35, Int.reduceLE, Int.reduceLT, Int.reduceToNat, Int.reduceAdd, Int.reduceSub, Int.reduceMul, Int.reduceNeg, Int.reduceEq, Int.reduceNe, Nat.reduceAdd, Nat.reduceMul, Nat.reduceLT, Nat.reduceEqDiff, or_true, true_or, or_false, false_or, and_false, false_and, not_true_eq_false, not_false_eq_true, ne_eq, cN4, cN5, cN6, cN7, cN13, cN30, cN60, cN64, cN100, cN136, cN240, cN384, cN900, cN2040, cN3,  v_swM_0, v_swM_1, v_swM_r, v_swM_n, swM_ite, app_ite, ex_some, bI_0, bI_1, nn_iff, Int.toNat_natCast, Int.toNat_of_nonneg, Int.natCast_add, cN1, wI_id2, wL_id2, ↓if_pos, ↓if_neg, if_pos, if_neg]
    exact ky
/-- a band, in the reference -/
def MbQ (B : Nat → Int) (n : Nat) (c w : Nat → Int) (o : Int) (s : TS3) (b : Nat) (σ : SS) (r : Int) (σ' : SS) : Prop := MbF b σ σ' ∧ MbE B n c w (tBd0 B n c w o s) b (tWd B n (tAdv B n (tBeh B n o s)).1) σ σ'
theorem d_band {c w : Nat → Int} {s : TS3} (hc : cb σ 4 = c) (hw' : wb σ 4 = w) (hw : WH c) {b : Nat} (hb : c 3 = (b : Int)) (b6 : b < 6) (T : TmS B n s σ) (g : s.2.1 = 0) {f : Int} (ef : σ 239 25 = f) : Wd (F_X12_readBand 239 σ) (MbQ B n c w (hsO f 3) s b σ) := by
  have hh := d_has f 3 σ
  have fin : ∀ (o : Int) (k : Nat) (σ2 : SS), k < 6 → TmS B n (tBd0 B n c w o s) σ2 → MbF b σ σ2 → σ2 244 = σ 244 → ((tBd0 B n c w o s).2.1 = 0 → k = b ∧ σ2 247 (54 + b) = tWd B n (tAdv B n (tBeh B n o s)).1) → Wd (bT ([0, (k : Int), 0, 0, 0], [239, 0, 0, 0, 0], σ2)) (MbO B n c w (tBd0 B n c w o s) b (tWd B n (tAdv B n (tBeh B n o s)).1) σ) := fun o k σ2 k6 h1 h2 h3 h4 => d_bandT hc hw' hw (fun _ => hb) b6 k6 h1 h2 h3 h4
  rcases hsO_01 f 3 with o | o
  · rw [o] at hh ⊢
    have am := d_amiss T
    have te : tBeh B n 0 s = tBlm B n 2 s := by unfold tBeh; rw [if_pos rfl]
    have b1 := tBlm_1 (B := B) (n := n) (k := 2) (by omega) (s := s)
    have t0 : tBd0 B n c w 0 s = tBlm B n 2 s := by
      unfold tBd0
      rw [te, tAdv_0 b1, tNew_0 b1]
    clear T
    try simp (disch := omega) only [w_iff, iffM_t, iffM_f, iffM_d, iffM_nd, iffM_0, iffM_ite, Wd_iffM, iffM_v, w_tern, ternM_t, ternM_f, ternM_d, ternM_nd, ternM_0, ternM_ite, Wd_ternM, ternM_v, w_sw, swX_1, Wd_swX, Bool.not_true, Bool.not_false, F_X12_readBand, E_bT, ef, hh, Wd_some, Wd_bn, Wd_sqM, Wd_outV, Wd_blkM, Wd_swM, Wd_ite, Wd_map, v_kS_0, v_kS_b, v_kS_r, v_kO_r, v_kW_0, v_kW_1, v_kW_2, v_kW_r, v_kL_0, v_kL_1, v_kL_2, v_kL_r, v_kU_0, ups_11, upsN, upsA, upA_same, upA_neA, fl_at, fl_neA, v_sq_eq, v_sqM_0, v_sqM_r, v_sqM_b, v_sqM_n, sqM_ite, v_asI, v_asR, v_inc, v_pfI, v_pfZ, v_pfO, v_paI, v_paO, v_exI,  v_rtI, v_rtZ, v_rtV, v_sk, v_brk, v_cnt, v_blk_eq, v_blkM_some, blkM_ite, v_lI, v_lR, v_cI, v_gI, v_gR, v_op1, v_op2, v_arI, v_arR, v_alen,  v_cmp1, v_cmp2, v_cAnd, v_cOr, v_cNot, v_cTern, v_bn_some, bn_ite, v_bn_none, v_outV_r, v_outV_0, v_outV_n, outV_ite, List.getD_cons_zero, List.getD_cons_succ, List.set_cons_zero, List.set_cons_succ, List.take_succ_cons, List.take_zero, List.drop_succ_cons, List.drop_zero, List.nil_append, List.cons_append, Option.map_some, Option.map_none, if_true, if_false, ↓reduceIte, reduceCtorEq, decide_eq_true_eq, Bool.not_eq_true', decide_eq_false_iff_not, decide_eq_true, decide_eq_false, decide_true, decide_false, and_self, and_true, true_and, or_self, stO, v_caV_, v_caV_i, v_caV_ii, v_caV_iii, v_caV_iiii, v_caV_iiiii, v_caV_il, v_caV_iil, v_caV_l, v_caV_ll, v_caV_r, v_caV_ri, v_caV_rii, v_caV_riii, v_caV_riiii, v_caV_ir, v_caV_iri, v_caV_iiri, v_caS_i, v_caS_ii, v_caS_iii, v_caS_iiii, v_caS_iiiiii, v_caS_il, v_caS_li, v_caS_ll, v_caS_lll, v_caS_ri, v_caS_riii, sh_239, sh_240, sh_241, sh_242, sh_243, sh_244, sh_245, sh_246, sh_247, sh_248, sh_249, sh_250, sh_251, sh_252, sh_253, rf_239_4, rf_239_5, rf_239_6, rf_239_7, rf_239_20, rf_239_21, rf_239_22, rf_239_23, rf_239_27, rf_239_28, rf_239_32, rf_239_33, rf_239_34, rf_239_35, Int.reduceLE, Int.reduceLT, Int.reduceToNat, Int.reduceAdd, Int.reduceSub, Int.reduceMul, Int.reduceNeg, Int.reduceEq, Int.reduceNe, Nat.reduceAdd, Nat.reduceMul, Nat.reduceLT, Nat.reduceEqDiff, or_true, true_or, or_false, false_or, and_false, false_and, not_true_eq_false, not_false_eq_true, ne_eq, cN4, cN5, cN6, cN7, cN13, cN30, cN60, cN64, cN100, cN136, cN240, cN384, cN900, cN2040, cN3,  v_swM_0, v_swM_1, v_swM_r, v_swM_n, swM_ite, app_ite, ex_some, bI_0, bI_1, nn_iff, Int.toNat_natCast, Int.toNat_of_nonneg, Int.natCast_add, cN1, wI_id2, wL_id2, ↓if_pos, ↓if_neg, if_pos, if_neg]
    refine Wd_mono am (fun r σ1 h1 => ?_)
    obtain ⟨T1, F1, _⟩ := h1
    obtain ⟨m1, m2⟩ := TmS_1 T1 b1
    have fi := fin 0 0 σ1 (by omega) (by rw [t0]; exact T1) ⟨Rm_f (Rm_r _) F1, F1.2 25 (by omega), fun j _ => by rw [F1.1 244 (by omega)], fun j _ => by rw [F1.1 247 (by omega)]⟩ (F1.1 244 (by omega)) (fun h => by rw [t0] at h; exact absurd h b1)
    have fi : Wd (bT ([0, 0, 0, 0, 0], [239, 0, 0, 0, 0], σ1)) (MbO B n c w (tBd0 B n c w 0 s) b (tWd B n (tAdv B n (tBeh B n 0 s)).1) σ) := fi
    clear fin T1 F1
    try simp (disch := omega) only [w_iff, iffM_t, iffM_f, iffM_d, iffM_nd, iffM_0, iffM_ite, Wd_iffM, iffM_v, w_tern, ternM_t, ternM_f, ternM_d, ternM_nd, ternM_0, ternM_ite, Wd_ternM, ternM_v, w_sw, swX_1, Wd_swX, Bool.not_true, Bool.not_false, m1, m2, Wd_some, Wd_bn, Wd_sqM, Wd_outV, Wd_blkM, Wd_swM, Wd_ite, Wd_map, v_kS_0, v_kS_b, v_kS_r, v_kO_r, v_kW_0, v_kW_1, v_kW_2, v_kW_r, v_kL_0, v_kL_1, v_kL_2, v_kL_r, v_kU_0, ups_11, upsN, upsA, upA_same, upA_neA, fl_at, fl_neA, v_sq_eq, v_sqM_0, v_sqM_r, v_sqM_b, v_sqM_n, sqM_ite, v_asI, v_asR, v_inc, v_pfI, v_pfZ, v_pfO, v_paI, v_paO, v_exI,  v_rtI, v_rtZ, v_rtV, v_sk, v_brk, v_cnt, v_blk_eq, v_blkM_some, blkM_ite, v_lI, v_lR, v_cI, v_gI, v_gR, v_op1, v_op2, v_arI, v_arR, v_alen,  v_cmp1, v_cmp2, v_cAnd, v_cOr, v_cNot, v_cTern, v_bn_some, bn_ite, v_bn_none, v_outV_r, v_outV_0, v_outV_n, outV_ite, List.getD_cons_zero, List.getD_cons_succ, List.set_cons_zero, List.set_cons_succ, List.take_succ_cons, List.take_zero, List.drop_succ_cons, List.drop_zero, List.nil_append, List.cons_append, Option.map_some, Option.map_none, if_true, if_false, ↓reduceIte, reduceCtorEq, decide_eq_true_eq, Bool.not_eq_true', decide_eq_false_iff_not, decide_eq_true, decide_eq_false, decide_true, decide_false, and_self, and_true, true_and, or_self, stO, v_caV_, v_caV_i, v_caV_ii, v_caV_iii, v_caV_iiii, v_caV_iiiii, v_caV_il, v_caV_iil, v_caV_l, v_caV_ll, v_caV_r, v_caV_ri, v_caV_rii, v_caV_riii, v_caV_riiii, v_caV_ir, v_caV_iri, v_caV_iiri, v_caS_i, v_caS_ii, v_caS_iii, v_caS_iiii, v_caS_iiiiii, v_caS_il, v_caS_li, v_caS_ll, v_caS_lll, v_caS_ri, v_caS_riii, sh_239, sh_240, sh_241, sh_242, sh_243, sh_244, sh_245, sh_246, sh_247, sh_248, sh_249, sh_250, sh_251, sh_252, sh_253, rf_239_4, rf_239_5, rf_239_6, rf_239_7, rf_239_20, rf_239_21, rf_239_22, rf_239_23, rf_239_27, rf_239_28, rf_239_32, rf_239_33, rf_239_34, rf_239_35, Int.reduceLE, Int.reduceLT, Int.reduceToNat, Int.reduceAdd, Int.reduceSub, Int.reduceMul, Int.reduceNeg, Int.reduceEq, Int.reduceNe, Nat.reduceAdd, Nat.reduceMul, Nat.reduceLT, Nat.reduceEqDiff, or_true, true_or, or_false, false_or, and_false, false_and, not_true_eq_false, not_false_eq_true, ne_eq, cN4, cN5, cN6, cN7, cN13, cN30, cN60, cN64, cN100, cN136, cN240, cN384, cN900, cN2040, cN3,  v_swM_0, v_swM_1, v_swM_r, v_swM_n, swM_ite, app_ite, ex_some, bI_0, bI_1, nn_iff, Int.toNat_natCast, Int.toNat_of_nonneg, Int.natCast_add, cN1, wI_id2, wL_id2, ↓if_pos, ↓if_neg, if_pos, if_neg]
    refine Wd_mono fi (fun o z hz => ?_)
    obtain ⟨ho, h1, h2⟩ := hz
    subst ho
    have po : MbQ B n c w 0 s b σ 0 z.2.2 := ⟨h1, h2⟩
    try simp (disch := omega) only [w_iff, iffM_t, iffM_f, iffM_d, iffM_nd, iffM_0, iffM_ite, Wd_iffM, iffM_v, w_tern, ternM_t, ternM_f, ternM_d, ternM_nd, ternM_0, ternM_ite, Wd_ternM, ternM_v, w_sw, swX_1, Wd_swX, Bool.not_true, Bool.not_false, Wd_some, Wd_bn, Wd_sqM, Wd_outV, Wd_blkM, Wd_swM, Wd_ite, Wd_map, v_kS_0, v_kS_b, v_kS_r, v_kO_r, v_kW_0, v_kW_1, v_kW_2, v_kW_r, v_kL_0, v_kL_1, v_kL_2, v_kL_r, v_kU_0, ups_11, upsN, upsA, upA_same, upA_neA, fl_at, fl_neA, v_sq_eq, v_sqM_0, v_sqM_r, v_sqM_b, v_sqM_n, sqM_ite, v_asI, v_asR, v_inc, v_pfI, v_pfZ, v_pfO, v_paI, v_paO, v_exI,  v_rtI, v_rtZ, v_rtV, v_sk, v_brk, v_cnt, v_blk_eq, v_blkM_some, blkM_ite, v_lI, v_lR, v_cI, v_gI, v_gR, v_op1, v_op2, v_arI, v_arR, v_alen,  v_cmp1, v_cmp2, v_cAnd, v_cOr, v_cNot, v_cTern, v_bn_some, bn_ite, v_bn_none, v_outV_r, v_outV_0, v_outV_n, outV_ite, List.getD_cons_zero, List.getD_cons_succ, List.set_cons_zero, List.set_cons_succ, List.take_succ_cons, List.take_zero, List.drop_succ_cons, List.drop_zero, List.nil_append, List.cons_append, Option.map_some, Option.map_none, if_true, if_false, ↓reduceIte, reduceCtorEq, decide_eq_true_eq, Bool.not_eq_true', decide_eq_false_iff_not, decide_eq_true, decide_eq_false, decide_true, decide_false, and_self, and_true, true_and, or_self, stO, v_caV_, v_caV_i, v_caV_ii, v_caV_iii, v_caV_iiii, v_caV_iiiii, v_caV_il, v_caV_iil, v_caV_l, v_caV_ll, v_caV_r, v_caV_ri, v_caV_rii, v_caV_riii, v_caV_riiii, v_caV_ir, v_caV_iri, v_caV_iiri, v_caS_i, v_caS_ii, v_caS_iii, v_caS_iiii, v_caS_iiiiii, v_caS_il, v_caS_li, v_caS_ll, v_caS_lll, v_caS_ri, v_caS_riii, sh_239, sh_240, sh_241, sh_242, sh_243, sh_244, sh_245, sh_246, sh_247, sh_248, sh_249, sh_250, sh_251, sh_252, sh_253, rf_239_4, rf_239_5, rf_239_6, rf_239_7, rf_239_20, rf_239_21, rf_239_22, rf_239_23, rf_239_27, rf_239_28, rf_239_32, rf_239_33, rf_239_34, rf_239_35, Int.reduceLE, Int.reduceLT, Int.reduceToNat, Int.reduceAdd, Int.reduceSub, Int.reduceMul, Int.reduceNeg, Int.reduceEq, Int.reduceNe, Nat.reduceAdd, Nat.reduceMul, Nat.reduceLT, Nat.reduceEqDiff, or_true, true_or, or_false, false_or, and_false, false_and, not_true_eq_false, not_false_eq_true, ne_eq, cN4, cN5, cN6, cN7, cN13, cN30, cN60, cN64, cN100, cN136, cN240, cN384, cN900, cN2040, cN3,  v_swM_0, v_swM_1, v_swM_r, v_swM_n, swM_ite, app_ite, ex_some, bI_0, bI_1, nn_iff, Int.toNat_natCast, Int.toNat_of_nonneg, Int.natCast_add, cN1, wI_id2, wL_id2, ↓if_pos, ↓if_neg, if_pos, if_neg]
    exact po
  · rw [o] at hh ⊢
    have te : tBeh B n 1 s = s := by unfold tBeh; rw [if_neg (by decide)]
    have hb2 : cb σ 4 (2 + 1) = (b : Int) := by rw [hc]; exact hb
    have nw := d_new T g (by rw [hc]; exact hw) (so := 1) (m := b) (by omega) hb2 b6
    rw [hc, hw'] at nw
    have nw : Wd (F_X12_readNew 239 1 σ) (MnQ B n (tBd0 B n c w 1 s) (54 + b) b (tWd B n (tAdv B n (tBeh B n 1 s)).1) σ) := by
      unfold tBd0
      rw [te]
      exact nw
    have e12 := TmS_0 T g
    clear T
    try simp (disch := omega) only [w_iff, iffM_t, iffM_f, iffM_d, iffM_nd, iffM_0, iffM_ite, Wd_iffM, iffM_v, w_tern, ternM_t, ternM_f, ternM_d, ternM_nd, ternM_0, ternM_ite, Wd_ternM, ternM_v, w_sw, swX_1, Wd_swX, Bool.not_true, Bool.not_false, F_X12_readBand, E_bT, ef, hh, e12, Wd_some, Wd_bn, Wd_sqM, Wd_outV, Wd_blkM, Wd_swM, Wd_ite, Wd_map, v_kS_0, v_kS_b, v_kS_r, v_kO_r, v_kW_0, v_kW_1, v_kW_2, v_kW_r, v_kL_0, v_kL_1, v_kL_2, v_kL_r, v_kU_0, ups_11, upsN, upsA, upA_same, upA_neA, fl_at, fl_neA, v_sq_eq, v_sqM_0, v_sqM_r, v_sqM_b, v_sqM_n, sqM_ite, v_asI, v_asR, v_inc, v_pfI, v_pfZ, v_pfO, v_paI, v_paO, v_exI,  v_rtI, v_rtZ, v_rtV, v_sk, v_brk, v_cnt, v_blk_eq, v_blkM_some, blkM_ite, v_lI, v_lR, v_cI, v_gI, v_gR, v_op1, v_op2, v_arI, v_arR, v_alen,  v_cmp1, v_cmp2, v_cAnd, v_cOr, v_cNot, v_cTern, v_bn_some, bn_ite, v_bn_none, v_outV_r, v_outV_0, v_outV_n, outV_ite, List.getD_cons_zero, List.getD_cons_succ, List.set_cons_zero, List.set_cons_succ, List.take_succ_cons, List.take_zero, List.drop_succ_cons, List.drop_zero, List.nil_append, List.cons_append, Option.map_some, Option.map_none, if_true, if_false, ↓reduceIte, reduceCtorEq, decide_eq_true_eq, Bool.not_eq_true', decide_eq_false_iff_not, decide_eq_true, decide_eq_false, decide_true, decide_false, and_self, and_true, true_and, or_self, stO, v_caV_, v_caV_i, v_caV_ii, v_caV_iii, v_caV_iiii, v_caV_iiiii, v_caV_il, v_caV_iil, v_caV_l, v_caV_ll, v_caV_r, v_caV_ri, v_caV_rii, v_caV_riii, v_caV_riiii, v_caV_ir, v_caV_iri, v_caV_iiri, v_caS_i, v_caS_ii, v_caS_iii, v_caS_iiii, v_caS_iiiiii, v_caS_il, v_caS_li, v_caS_ll, v_caS_lll, v_caS_ri, v_caS_riii, sh_239, sh_240, sh_241, sh_242, sh_243, sh_244, sh_245, sh_246, sh_247, sh_248, sh_249, sh_250, sh_251, sh_252, sh_253, rf_239_4, rf_239_5, rf_239_6, rf_239_7, rf_239_20, rf_239_21, rf_239_22, rf_239_23, rf_239_27, rf_239_28, rf_239_32, rf_239_33, rf_239_34, rf_239_35, Int.reduceLE, Int.reduceLT, Int.reduceToNat, Int.reduceAdd, Int.reduceSub, Int.reduceMul, Int.reduceNeg, Int.reduceEq, Int.reduceNe, Nat.reduceAdd, Nat.reduceMul, Nat.reduceLT, Nat.reduceEqDiff, or_true, true_or, or_false, false_or, and_false, false_and, not_true_eq_false, not_false_eq_true, ne_eq, cN4, cN5, cN6, cN7, cN13, cN30, cN60, cN64, cN100, cN136, cN240, cN384, cN900, cN2040, cN3,  v_swM_0, v_swM_1, v_swM_r, v_swM_n, swM_ite, app_ite, ex_some, bI_0, bI_1, nn_iff, Int.toNat_natCast, Int.toNat_of_nonneg, Int.natCast_add, cN1, wI_id2, wL_id2, ↓if_pos, ↓if_neg, if_pos, if_neg]
    refine Wd_mono nw (fun r σ1 h1 => ?_)
    obtain ⟨T1, R1, y4, y25, y7, yv, yf⟩ := h1
    obtain ⟨k, hk, k6⟩ : ∃ k : Nat, r = (k : Int) ∧ k < 6 := by
      by_cases q : (tBd0 B n c w 1 s).2.1 = 0
      · exact ⟨b, (yv q).1, b6⟩
      · exact ⟨0, yf q, by omega⟩
    subst hk
    have fi := fin 1 k σ1 k6 T1 ⟨R1, y25, fun j _ => by rw [y4], y7⟩ y4 (fun h => ⟨by have := (yv h).1; omega, (yv h).2⟩)
    clear fin T1 R1 y4 y25 y7 yv yf
    try simp (disch := omega) only [w_iff, iffM_t, iffM_f, iffM_d, iffM_nd, iffM_0, iffM_ite, Wd_iffM, iffM_v, w_tern, ternM_t, ternM_f, ternM_d, ternM_nd, ternM_0, ternM_ite, Wd_ternM, ternM_v, w_sw, swX_1, Wd_swX, Bool.not_true, Bool.not_false, Wd_some, Wd_bn, Wd_sqM, Wd_outV, Wd_blkM, Wd_swM, Wd_ite, Wd_map, v_kS_0, v_kS_b, v_kS_r, v_kO_r, v_kW_0, v_kW_1, v_kW_2, v_kW_r, v_kL_0, v_kL_1, v_kL_2, v_kL_r, v_kU_0, ups_11, upsN, upsA, upA_same, upA_neA, fl_at, fl_neA, v_sq_eq, v_sqM_0, v_sqM_r, v_sqM_b, v_sqM_n, sqM_ite, v_asI, v_asR, v_inc, v_pfI, v_pfZ, v_pfO, v_paI, v_paO, v_exI,  v_rtI, v_rtZ, v_rtV, v_sk, v_brk, v_cnt, v_blk_eq, v_blkM_some, blkM_ite, v_lI, v_lR, v_cI, v_gI, v_gR, v_op1, v_op2, v_arI, v_arR, v_alen,  v_cmp1, v_cmp2, v_cAnd, v_cOr, v_cNot, v_cTern, v_bn_some, bn_ite, v_bn_none, v_outV_r, v_outV_0, v_outV_n, outV_ite, List.getD_cons_zero, List.getD_cons_succ, List.set_cons_zero, List.set_cons_succ, List.take_succ_cons, List.take_zero, List.drop_succ_cons, List.drop_zero, List.nil_append, List.cons_append, Option.map_some, Option.map_none, if_true, if_false, ↓reduceIte, reduceCtorEq, decide_eq_true_eq, Bool.not_eq_true', decide_eq_false_iff_not, decide_eq_true, decide_eq_false, decide_true, decide_false, and_self, and_true, true_and, or_self, stO, v_caV_, v_caV_i, v_caV_ii, v_caV_iii, v_caV_iiii, v_caV_iiiii, v_caV_il, v_caV_iil, v_caV_l, v_caV_ll, v_caV_r, v_caV_ri, v_caV_rii, v_caV_riii, v_caV_riiii, v_caV_ir, v_caV_iri, v_caV_iiri, v_caS_i, v_caS_ii, v_caS_iii, v_caS_iiii, v_caS_iiiiii, v_caS_il, v_caS_li, v_caS_ll, v_caS_lll, v_caS_ri, v_caS_riii, sh_239, sh_240, sh_241, sh_242, sh_243, sh_244, sh_245, sh_246, sh_247, sh_248, sh_249, sh_250, sh_251, sh_252, sh_253, rf_239_4, rf_239_5, rf_239_6, rf_239_7, rf_239_20, rf_239_21, rf_239_22, rf_239_23, rf_239_27, rf_239_28, rf_239_32, rf_239_33, rf_239_34, rf_239_35, Int.reduceLE, Int.reduceLT, Int.reduceToNat, Int.reduceAdd, Int.reduceSub, Int.reduceMul, Int.reduceNeg, Int.reduceEq, Int.reduceNe, Nat.reduceAdd, Nat.reduceMul, Nat.reduceLT, Nat.reduceEqDiff, or_true, true_or, or_false, false_or, and_false, false_and, not_true_eq_false, not_false_eq_true, ne_eq, cN4, cN5, cN6, cN7, cN13, cN30, cN60, cN64, cN100, cN136, cN240, cN384, cN900, cN2040, cN3,  v_swM_0, v_swM_1, v_swM_r, v_swM_n, swM_ite, app_ite, ex_some, bI_0, bI_1, nn_iff, Int.toNat_natCast, Int.toNat_of_nonneg, Int.natCast_add, cN1, wI_id2, wL_id2, ↓if_pos, ↓if_neg, if_pos, if_neg]
    refine Wd_mono fi (fun o z hz => ?_)
    obtain ⟨ho, h1, h2⟩ := hz
    subst ho
    have po : MbQ B n c w 1 s b σ 0 z.2.2 := ⟨h1, h2⟩
    try simp (disch := omega) only [w_iff, iffM_t, iffM_f, iffM_d, iffM_nd, iffM_0, iffM_ite, Wd_iffM, iffM_v, w_tern, ternM_t, ternM_f, ternM_d, ternM_nd, ternM_0, ternM_ite, Wd_ternM, ternM_v, w_sw, swX_1, Wd_swX, Bool.not_true, Bool.not_false, Wd_some, Wd_bn, Wd_sqM, Wd_outV, Wd_blkM, Wd_swM, Wd_ite, Wd_map, v_kS_0, v_kS_b, v_kS_r, v_kO_r, v_kW_0, v_kW_1, v_kW_2, v_kW_r, v_kL_0, v_kL_1, v_kL_2, v_kL_r, v_kU_0, ups_11, upsN, upsA, upA_same, upA_neA, fl_at, fl_neA, v_sq_eq, v_sqM_0, v_sqM_r, v_sqM_b, v_sqM_n, sqM_ite, v_asI, v_asR, v_inc, v_pfI, v_pfZ, v_pfO, v_paI, v_paO, v_exI,  v_rtI, v_rtZ, v_rtV, v_sk, v_brk, v_cnt, v_blk_eq, v_blkM_some, blkM_ite, v_lI, v_lR, v_cI, v_gI, v_gR, v_op1, v_op2, v_arI, v_arR, v_alen,  v_cmp1, v_cmp2, v_cAnd, v_cOr, v_cNot, v_cTern, v_bn_some, bn_ite, v_bn_none, v_outV_r, v_outV_0, v_outV_n, outV_ite, List.getD_cons_zero, List.getD_cons_succ, List.set_cons_zero, List.set_cons_succ, List.take_succ_cons, List.take_zero, List.drop_succ_cons, List.drop_zero, List.nil_append, List.cons_append, Option.map_some, Option.map_none, if_true, if_false, ↓reduceIte, reduceCtorEq, decide_eq_true_eq, Bool.not_eq_true', decide_eq_false_iff_not, decide_eq_true, decide_eq_false, decide_true, decide_false, and_self, and_true, true_and, or_self, stO, v_caV_, v_caV_i, v_caV_ii, v_caV_iii, v_caV_iiii, v_caV_iiiii, v_caV_il, v_caV_iil, v_caV_l, v_caV_ll, v_caV_r, v_caV_ri, v_caV_rii, v_caV_riii, v_caV_riiii, v_caV_ir, v_caV_iri, v_caV_iiri, v_caS_i, v_caS_ii, v_caS_iii, v_caS_iiii, v_caS_iiiiii, v_caS_il, v_caS_li, v_caS_ll, v_caS_lll, v_caS_ri, v_caS_riii, sh_239, sh_240, sh_241, sh_242, sh_243, sh_244, sh_245, sh_246, sh_247, sh_248, sh_249, sh_250, sh_251, sh_252, sh_253, rf_239_4, rf_239_5, rf_239_6, rf_239_7, rf_239_20, rf_239_21, rf_239_22, rf_239_23, rf_239_27, rf_239_28, rf_239_32, rf_239_33, rf_239_34, rf_239_35, Int.reduceLE, Int.reduceLT, Int.reduceToNat, Int.reduceAdd, Int.reduceSub, Int.reduceMul, Int.reduceNeg, Int.reduceEq, Int.reduceNe, Nat.reduceAdd, Nat.reduceMul, Nat.reduceLT, Nat.reduceEqDiff, or_true, true_or, or_false, false_or, and_false, false_and, not_true_eq_false, not_false_eq_true, ne_eq, cN4, cN5, cN6, cN7, cN13, cN30, cN60, cN64, cN100, cN136, cN240, cN384, cN900, cN2040, cN3,  v_swM_0, v_swM_1, v_swM_r, v_swM_n, swM_ite, app_ite, ex_some, bI_0, bI_1, nn_iff, Int.toNat_natCast, Int.toNat_of_nonneg, Int.natCast_add, cN1, wI_id2, wL_id2, ↓if_pos, ↓if_neg, if_pos, if_neg]
    exact po
theorem d_new6 {s : TS3} (T : TmS B n s σ) (g : s.2.1 = 0) (h4 : ¬ tKd B n s.1 = 4) {so : Nat} (hso : so ≤ 1) (hm : cb σ 4 (2 + so) = 6) : ∃ τ : SS, F_X12_readNew 239 so σ = some (0, τ) ∧ TmQ B n (tBlm B n 6 s) 0 σ 0 τ := by
  have e12 := TmS_0 T g
  have em : σ 244 (1634 + (so : Int)).toNat = 6 := by rw [← hm]; unfold cb; congr 1; omega
  have e15 : σ 239 15 = (tAt B n s.1 : Int) := (T.2.2.2.2 g).2.2.1
  have po := TmS_fail T g (k := 6) (by omega) (v := 6) (by rw [if_neg h4])
  refine ⟨_, ?_, po⟩
  have f1 := fun k w => fail_0 (σ := σ) k w e12
  generalize (tAt B n s.1 : Int) = av at *
  clear T po
  try simp (disch := omega) only [w_iff, iffM_t, iffM_f, iffM_d, iffM_nd, iffM_0, iffM_ite, Wd_iffM, iffM_v, w_tern, ternM_t, ternM_f, ternM_d, ternM_nd, ternM_0, ternM_ite, Wd_ternM, ternM_v, w_sw, swX_1, Wd_swX, Bool.not_true, Bool.not_false, F_X12_readNew, E_nwT, em, f1, e15, Wd_some, Wd_bn, Wd_sqM, Wd_outV, Wd_blkM, Wd_swM, Wd_ite, Wd_map, v_kS_0, v_kS_b, v_kS_r, v_kO_r, v_kW_0, v_kW_1, v_kW_2, v_kW_r, v_kL_0, v_kL_1, v_kL_2, v_kL_r, v_kU_0, ups_11, upsN, upsA, upA_same, upA_neA, fl_at, fl_neA, v_sq_eq, v_sqM_0, v_sqM_r, v_sqM_b, v_sqM_n, sqM_ite, v_asI, v_asR, v_inc, v_pfI, v_pfZ, v_pfO, v_paI, v_paO, v_exI,  v_rtI, v_rtZ, v_rtV, v_sk, v_brk, v_cnt, v_blk_eq, v_blkM_some, blkM_ite, v_lI, v_lR, v_cI, v_gI, v_gR, v_op1, v_op2, v_arI, v_arR, v_alen,  v_cmp1, v_cmp2, v_cAnd, v_cOr, v_cNot, v_cTern, v_bn_some, bn_ite, v_bn_none, v_outV_r, v_outV_0, v_outV_n, outV_ite, List.getD_cons_zero, List.getD_cons_succ, List.set_cons_zero, List.set_cons_succ, List.take_succ_cons, List.take_zero, List.drop_succ_cons, List.drop_zero, List.nil_append, List.cons_append, Option.map_some, Option.map_none, if_true, if_false, ↓reduceIte, reduceCtorEq, decide_eq_true_eq, Bool.not_eq_true', decide_eq_false_iff_not, decide_eq_true, decide_eq_false, decide_true, decide_false, and_self, and_true, true_and, or_self, stO, v_caV_, v_caV_i, v_caV_ii, v_caV_iii, v_caV_iiii, v_caV_iiiii, v_caV_il, v_caV_iil, v_caV_l, v_caV_ll, v_caV_r, v_caV_ri, v_caV_rii, v_caV_riii, v_caV_riiii, v_caV_ir, v_caV_iri, v_caV_iiri, v_caS_i, v_caS_ii, v_caS_iii, v_caS_iiii, v_caS_iiiiii, v_caS_il, v_caS_li, v_caS_ll, v_caS_lll, v_caS_ri, v_caS_riii, sh_239, sh_240, sh_241, sh_242, sh_243, sh_244, sh_245, sh_246, sh_247, sh_248, sh_249, sh_250, sh_251, sh_252, sh_253, rf_239_4, rf_239_5, rf_239_6, rf_239_7, rf_239_20, rf_239_21, rf_239_22, rf_239_23, rf_239_27, rf_239_28, rf_239_32, rf_239_33, rf_239_34, rf_239_35, Int.reduceLE, Int.reduceLT, Int.reduceToNat, Int.reduceAdd, Int.reduceSub, Int.reduceMul, Int.reduceNeg, Int.reduceEq, Int.reduceNe, Nat.reduceAdd, Nat.reduceMul, Nat.reduceLT, Nat.reduceEqDiff, or_true, true_or, or_false, false_or, and_false, false_and, not_true_eq_false, not_false_eq_true, ne_eq, cN4, cN5, cN6, cN7, cN13, cN30, cN60, cN64, cN100, cN136, cN240, cN384, cN900, cN2040, cN3,  v_swM_0, v_swM_1, v_swM_r, v_swM_n, swM_ite, app_ite, ex_some, bI_0, bI_1, nn_iff, Int.toNat_natCast, Int.toNat_of_nonneg, Int.natCast_add, cN1, wI_id2, wL_id2, ↓if_pos, ↓if_neg, if_pos, if_neg]
def Mb6 (B : Nat → Int) (n : Nat) (s : TS3) (σ : SS) (r : Int) (σ' : SS) : Prop := TmS B n s σ' ∧ Rm σ σ' ∧ (∀ j, ¬ (1632 ≤ j ∧ j < 2040) → σ' 244 j = σ 244 j) ∧ ∀ j, ¬ (48 ≤ j ∧ j < 60) → σ' 247 j = σ 247 j
theorem tB3_0 {c : Nat → Int} {s : TS3} (h : ¬ s.2.1 = 0) : tB3 B n c s = s := by
  unfold tB3
  rw [tStd_0 h, tNdW_0 (by decide) h, tNdN_0 h, tNdW_0 (by decide) h, tNdN_0 h]
theorem MbE_0 {c w : Nat → Int} {s : TS3} {b : Nat} {v0 : Int} {σ' : SS} (h : ¬ s.2.1 = 0) (E : MbE B n c w s b v0 σ σ') : TmS B n s σ' := by
  have e := tB3_0 (B := B) (n := n) (c := c) h
  unfold MbE at E
  rw [e] at E
  rcases E with ⟨_, h2, _⟩ | ⟨h1, _⟩
  · exact h2
  · rw [tKw_0 h] at h1
    exact absurd h1 (by decide)
theorem d_band6 {c w : Nat → Int} {s : TS3} (hc : cb σ 4 = c) (hw' : wb σ 4 = w) (hw : WH c) (hb : c 3 = 6) (T : TmS B n s σ) (g : s.2.1 = 0) (h4 : ¬ tKd B n s.1 = 4) {f : Int} (ef : σ 239 25 = f) : Wd (F_X12_readBand 239 σ) (Mb6 B n (tBlm B n 6 (tBeh B n (hsO f 3) s)) σ) := by
  have hh := d_has f 3 σ
  have fin : ∀ (t : TS3) (σ2 : SS), ¬ t.2.1 = 0 → TmS B n t σ2 → TmF σ σ2 → Wd (bT ([0, 0, 0, 0, 0], [239, 0, 0, 0, 0], σ2)) (fun o z => o = .inl 0 ∧ Mb6 B n t σ 0 z.2.2) := fun t σ2 nt T2 F2 => by
    have := d_bandT (σ := σ) (b := 0) (k := 0) (v0 := 0) hc hw' hw (fun h => absurd h nt) (by omega) (by omega) T2 ⟨Rm_f (Rm_r _) F2, F2.2 25 (by omega), fun j _ => by rw [F2.1 244 (by omega)], fun j _ => by rw [F2.1 247 (by omega)]⟩ (F2.1 244 (by omega)) (fun h => absurd h nt)
    refine Wd_mono this (fun o z hz => ?_)
    obtain ⟨ho, h1, h2⟩ := hz
    exact ⟨ho, MbE_0 nt h2, h1.1, h1.2.2.1, fun j hj => h1.2.2.2 j (by omega)⟩
  rcases hsO_01 f 3 with o | o
  · rw [o] at hh ⊢
    have am := d_amiss T
    have te : tBeh B n 0 s = tBlm B n 2 s := by unfold tBeh; rw [if_pos rfl]
    have b1 := tBlm_1 (B := B) (n := n) (k := 2) (by omega) (s := s)
    rw [te, tBlm_0 b1]
    clear T
    try simp (disch := omega) only [w_iff, iffM_t, iffM_f, iffM_d, iffM_nd, iffM_0, iffM_ite, Wd_iffM, iffM_v, w_tern, ternM_t, ternM_f, ternM_d, ternM_nd, ternM_0, ternM_ite, Wd_ternM, ternM_v, w_sw, swX_1, Wd_swX, Bool.not_true, Bool.not_false, F_X12_readBand, E_bT, ef, hh, Wd_some, Wd_bn, Wd_sqM, Wd_outV, Wd_blkM, Wd_swM, Wd_ite, Wd_map, v_kS_0, v_kS_b, v_kS_r, v_kO_r, v_kW_0, v_kW_1, v_kW_2, v_kW_r, v_kL_0, v_kL_1, v_kL_2, v_kL_r, v_kU_0, ups_11, upsN, upsA, upA_same, upA_neA, fl_at, fl_neA, v_sq_eq, v_sqM_0, v_sqM_r, v_sqM_b, v_sqM_n, sqM_ite, v_asI, v_asR, v_inc, v_pfI, v_pfZ, v_pfO, v_paI, v_paO, v_exI,  v_rtI, v_rtZ, v_rtV, v_sk, v_brk, v_cnt, v_blk_eq, v_blkM_some, blkM_ite, v_lI, v_lR, v_cI, v_gI, v_gR, v_op1, v_op2, v_arI, v_arR, v_alen,  v_cmp1, v_cmp2, v_cAnd, v_cOr, v_cNot, v_cTern, v_bn_some, bn_ite, v_bn_none, v_outV_r, v_outV_0, v_outV_n, outV_ite, List.getD_cons_zero, List.getD_cons_succ, List.set_cons_zero, List.set_cons_succ, List.take_succ_cons, List.take_zero, List.drop_succ_cons, List.drop_zero, List.nil_append, List.cons_append, Option.map_some, Option.map_none, if_true, if_false, ↓reduceIte, reduceCtorEq, decide_eq_true_eq, Bool.not_eq_true', decide_eq_false_iff_not, decide_eq_true, decide_eq_false, decide_true, decide_false, and_self, and_true, true_and, or_self, stO, v_caV_, v_caV_i, v_caV_ii, v_caV_iii, v_caV_iiii, v_caV_iiiii, v_caV_il, v_caV_iil, v_caV_l, v_caV_ll, v_caV_r, v_caV_ri, v_caV_rii, v_caV_riii, v_caV_riiii, v_caV_ir, v_caV_iri, v_caV_iiri, v_caS_i, v_caS_ii, v_caS_iii, v_caS_iiii, v_caS_iiiiii, v_caS_il, v_caS_li, v_caS_ll, v_caS_lll, v_caS_ri, v_caS_riii, sh_239, sh_240, sh_241, sh_242, sh_243, sh_244, sh_245, sh_246, sh_247, sh_248, sh_249, sh_250, sh_251, sh_252, sh_253, rf_239_4, rf_239_5, rf_239_6, rf_239_7, rf_239_20, rf_239_21, rf_239_22, rf_239_23, rf_239_27, rf_239_28, rf_239_32, rf_239_33, rf_239_34, rf_239_35, Int.reduceLE, Int.reduceLT, Int.reduceToNat, Int.reduceAdd, Int.reduceSub, Int.reduceMul, Int.reduceNeg, Int.reduceEq, Int.reduceNe, Nat.reduceAdd, Nat.reduceMul, Nat.reduceLT, Nat.reduceEqDiff, or_true, true_or, or_false, false_or, and_false, false_and, not_true_eq_false, not_false_eq_true, ne_eq, cN4, cN5, cN6, cN7, cN13, cN30, cN60, cN64, cN100, cN136, cN240, cN384, cN900, cN2040, cN3,  v_swM_0, v_swM_1, v_swM_r, v_swM_n, swM_ite, app_ite, ex_some, bI_0, bI_1, nn_iff, Int.toNat_natCast, Int.toNat_of_nonneg, Int.natCast_add, cN1, wI_id2, wL_id2, ↓if_pos, ↓if_neg, if_pos, if_neg]
    refine Wd_mono am (fun r σ1 h1 => ?_)
    obtain ⟨T1, F1, _⟩ := h1
    obtain ⟨m1, m2⟩ := TmS_1 T1 b1
    have fi := fin _ σ1 b1 T1 F1
    clear fin T1 F1
    try simp (disch := omega) only [w_iff, iffM_t, iffM_f, iffM_d, iffM_nd, iffM_0, iffM_ite, Wd_iffM, iffM_v, w_tern, ternM_t, ternM_f, ternM_d, ternM_nd, ternM_0, ternM_ite, Wd_ternM, ternM_v, w_sw, swX_1, Wd_swX, Bool.not_true, Bool.not_false, m1, m2, Wd_some, Wd_bn, Wd_sqM, Wd_outV, Wd_blkM, Wd_swM, Wd_ite, Wd_map, v_kS_0, v_kS_b, v_kS_r, v_kO_r, v_kW_0, v_kW_1, v_kW_2, v_kW_r, v_kL_0, v_kL_1, v_kL_2, v_kL_r, v_kU_0, ups_11, upsN, upsA, upA_same, upA_neA, fl_at, fl_neA, v_sq_eq, v_sqM_0, v_sqM_r, v_sqM_b, v_sqM_n, sqM_ite, v_asI, v_asR, v_inc, v_pfI, v_pfZ, v_pfO, v_paI, v_paO, v_exI,  v_rtI, v_rtZ, v_rtV, v_sk, v_brk, v_cnt, v_blk_eq, v_blkM_some, blkM_ite, v_lI, v_lR, v_cI, v_gI, v_gR, v_op1, v_op2, v_arI, v_arR, v_alen,  v_cmp1, v_cmp2, v_cAnd, v_cOr, v_cNot, v_cTern, v_bn_some, bn_ite, v_bn_none, v_outV_r, v_outV_0, v_outV_n, outV_ite, List.getD_cons_zero, List.getD_cons_succ, List.set_cons_zero, List.set_cons_succ, List.take_succ_cons, List.take_zero, List.drop_succ_cons, List.drop_zero, List.nil_append, List.cons_append, Option.map_some, Option.map_none, if_true, if_false, ↓reduceIte, reduceCtorEq, decide_eq_true_eq, Bool.not_eq_true', decide_eq_false_iff_not, decide_eq_true, decide_eq_false, decide_true, decide_false, and_self, and_true, true_and, or_self, stO, v_caV_, v_caV_i, v_caV_ii, v_caV_iii, v_caV_iiii, v_caV_iiiii, v_caV_il, v_caV_iil, v_caV_l, v_caV_ll, v_caV_r, v_caV_ri, v_caV_rii, v_caV_riii, v_caV_riiii, v_caV_ir, v_caV_iri, v_caV_iiri, v_caS_i, v_caS_ii, v_caS_iii, v_caS_iiii, v_caS_iiiiii, v_caS_il, v_caS_li, v_caS_ll, v_caS_lll, v_caS_ri, v_caS_riii, sh_239, sh_240, sh_241, sh_242, sh_243, sh_244, sh_245, sh_246, sh_247, sh_248, sh_249, sh_250, sh_251, sh_252, sh_253, rf_239_4, rf_239_5, rf_239_6, rf_239_7, rf_239_20, rf_239_21, rf_239_22, rf_239_23, rf_239_27, rf_239_28, rf_239_32, rf_239_33, rf_239_34, rf_239_35, Int.reduceLE, Int.reduceLT, Int.reduceToNat, Int.reduceAdd, Int.reduceSub, Int.reduceMul, Int.reduceNeg, Int.reduceEq, Int.reduceNe, Nat.reduceAdd, Nat.reduceMul, Nat.reduceLT, Nat.reduceEqDiff, or_true, true_or, or_false, false_or, and_false, false_and, not_true_eq_false, not_false_eq_true, ne_eq, cN4, cN5, cN6, cN7, cN13, cN30, cN60, cN64, cN100, cN136, cN240, cN384, cN900, cN2040, cN3,  v_swM_0, v_swM_1, v_swM_r, v_swM_n, swM_ite, app_ite, ex_some, bI_0, bI_1, nn_iff, Int.toNat_natCast, Int.toNat_of_nonneg, Int.natCast_add, cN1, wI_id2, wL_id2, ↓if_pos, ↓if_neg, if_pos, if_neg]
    refine Wd_mono fi (fun o z hz => ?_)
    obtain ⟨ho, po⟩ := hz
    subst ho
    try simp (disch := omega) only [w_iff, iffM_t, iffM_f, iffM_d, iffM_nd, iffM_0, iffM_ite, Wd_iffM, iffM_v, w_tern, ternM_t, ternM_f, ternM_d, ternM_nd, ternM_0, ternM_ite, Wd_ternM, ternM_v, w_sw, swX_1, Wd_swX, Bool.not_true, Bool.not_false, Wd_some, Wd_bn, Wd_sqM, Wd_outV, Wd_blkM, Wd_swM, Wd_ite, Wd_map, v_kS_0, v_kS_b, v_kS_r, v_kO_r, v_kW_0, v_kW_1, v_kW_2, v_kW_r, v_kL_0, v_kL_1, v_kL_2, v_kL_r, v_kU_0, ups_11, upsN, upsA, upA_same, upA_neA, fl_at, fl_neA, v_sq_eq, v_sqM_0, v_sqM_r, v_sqM_b, v_sqM_n, sqM_ite, v_asI, v_asR, v_inc, v_pfI, v_pfZ, v_pfO, v_paI, v_paO, v_exI,  v_rtI, v_rtZ, v_rtV, v_sk, v_brk, v_cnt, v_blk_eq, v_blkM_some, blkM_ite, v_lI, v_lR, v_cI, v_gI, v_gR, v_op1, v_op2, v_arI, v_arR, v_alen,  v_cmp1, v_cmp2, v_cAnd, v_cOr, v_cNot, v_cTern, v_bn_some, bn_ite, v_bn_none, v_outV_r, v_outV_0, v_outV_n, outV_ite, List.getD_cons_zero, List.getD_cons_succ, List.set_cons_zero, List.set_cons_succ, List.take_succ_cons, List.take_zero, List.drop_succ_cons, List.drop_zero, List.nil_append, List.cons_append, Option.map_some, Option.map_none, if_true, if_false, ↓reduceIte, reduceCtorEq, decide_eq_true_eq, Bool.not_eq_true', decide_eq_false_iff_not, decide_eq_true, decide_eq_false, decide_true, decide_false, and_self, and_true, true_and, or_self, stO, v_caV_, v_caV_i, v_caV_ii, v_caV_iii, v_caV_iiii, v_caV_iiiii, v_caV_il, v_caV_iil, v_caV_l, v_caV_ll, v_caV_r, v_caV_ri, v_caV_rii, v_caV_riii, v_caV_riiii, v_caV_ir, v_caV_iri, v_caV_iiri, v_caS_i, v_caS_ii, v_caS_iii, v_caS_iiii, v_caS_iiiiii, v_caS_il, v_caS_li, v_caS_ll, v_caS_lll, v_caS_ri, v_caS_riii, sh_239, sh_240, sh_241, sh_242, sh_243, sh_244, sh_245, sh_246, sh_247, sh_248, sh_249, sh_250, sh_251, sh_252, sh_253, rf_239_4, rf_239_5, rf_239_6, rf_239_7, rf_239_20, rf_239_21, rf_239_22, rf_239_23, rf_239_27, rf_239_28, rf_239_32, rf_239_33, rf_239_34, rf_239_35, Int.reduceLE, Int.reduceLT, Int.reduceToNat, Int.reduceAdd, Int.reduceSub, Int.reduceMul, Int.reduceNeg, Int.reduceEq, Int.reduceNe, Nat.reduceAdd, Nat.reduceMul, Nat.reduceLT, Nat.reduceEqDiff, or_true, true_or, or_false, false_or, and_false, false_and, not_true_eq_false, not_false_eq_true, ne_eq, cN4, cN5, cN6, cN7, cN13, cN30, cN60, cN64, cN100, cN136, cN240, cN384, cN900, cN2040, cN3,  v_swM_0, v_swM_1, v_swM_r, v_swM_n, swM_ite, app_ite, ex_some, bI_0, bI_1, nn_iff, Int.toNat_natCast, Int.toNat_of_nonneg, Int.natCast_add, cN1, wI_id2, wL_id2, ↓if_pos, ↓if_neg, if_pos, if_neg]
    exact po
  · rw [o] at hh ⊢
    have te : tBeh B n 1 s = s := by unfold tBeh; rw [if_neg (by decide)]
    rw [te]
    obtain ⟨τ, nw, h1⟩ := d_new6 T g h4 (so := 1) (by omega) (by rw [hc]; exact hb)
    have nw : F_X12_readNew 239 1 σ = some (0, τ) := nw
    have e12 := TmS_0 T g
    obtain ⟨T1, F1, _⟩ := h1
    have fi := fin _ τ (tBlm_1 (by omega)) T1 F1
    clear T T1 F1 fin
    try simp (disch := omega) only [w_iff, iffM_t, iffM_f, iffM_d, iffM_nd, iffM_0, iffM_ite, Wd_iffM, iffM_v, w_tern, ternM_t, ternM_f, ternM_d, ternM_nd, ternM_0, ternM_ite, Wd_ternM, ternM_v, w_sw, swX_1, Wd_swX, Bool.not_true, Bool.not_false, F_X12_readBand, E_bT, ef, hh, e12, nw, Wd_some, Wd_bn, Wd_sqM, Wd_outV, Wd_blkM, Wd_swM, Wd_ite, Wd_map, v_kS_0, v_kS_b, v_kS_r, v_kO_r, v_kW_0, v_kW_1, v_kW_2, v_kW_r, v_kL_0, v_kL_1, v_kL_2, v_kL_r, v_kU_0, ups_11, upsN, upsA, upA_same, upA_neA, fl_at, fl_neA, v_sq_eq, v_sqM_0, v_sqM_r, v_sqM_b, v_sqM_n, sqM_ite, v_asI, v_asR, v_inc, v_pfI, v_pfZ, v_pfO, v_paI, v_paO, v_exI,  v_rtI, v_rtZ, v_rtV, v_sk, v_brk, v_cnt, v_blk_eq, v_blkM_some, blkM_ite, v_lI, v_lR, v_cI, v_gI, v_gR, v_op1, v_op2, v_arI, v_arR, v_alen,  v_cmp1, v_cmp2, v_cAnd, v_cOr, v_cNot, v_cTern, v_bn_some, bn_ite, v_bn_none, v_outV_r, v_outV_0, v_outV_n, outV_ite, List.getD_cons_zero, List.getD_cons_succ, List.set_cons_zero, List.set_cons_succ, List.take_succ_cons, List.take_zero, List.drop_succ_cons, List.drop_zero, List.nil_append, List.cons_append, Option.map_some, Option.map_none, if_true, if_false, ↓reduceIte, reduceCtorEq, decide_eq_true_eq, Bool.not_eq_true', decide_eq_false_iff_not, decide_eq_true, decide_eq_false, decide_true, decide_false, and_self, and_true, true_and, or_self, stO, v_caV_, v_caV_i, v_caV_ii, v_caV_iii, v_caV_iiii, v_caV_iiiii, v_caV_il, v_caV_iil, v_caV_l, v_caV_ll, v_caV_r, v_caV_ri, v_caV_rii, v_caV_riii, v_caV_riiii, v_caV_ir, v_caV_iri, v_caV_iiri, v_caS_i, v_caS_ii, v_caS_iii, v_caS_iiii, v_caS_iiiiii, v_caS_il, v_caS_li, v_caS_ll, v_caS_lll, v_caS_ri, v_caS_riii, sh_239, sh_240, sh_241, sh_242, sh_243, sh_244, sh_245, sh_246, sh_247, sh_248, sh_249, sh_250, sh_251, sh_252, sh_253, rf_239_4, rf_239_5, rf_239_6, rf_239_7, rf_239_20, rf_239_21, rf_239_22, rf_239_23, rf_239_27, rf_239_28, rf_239_32, rf_239_33, rf_239_34, rf_239_35, Int.reduceLE, Int.reduceLT, Int.reduceToNat, Int.reduceAdd, Int.reduceSub, Int.reduceMul, Int.reduceNeg, Int.reduceEq, Int.reduceNe, Nat.reduceAdd, Nat.reduceMul, Nat.reduceLT, Nat.reduceEqDiff, or_true, true_or, or_false, false_or, and_false, false_and, not_true_eq_false, not_false_eq_true, ne_eq, cN4, cN5, cN6, cN7, cN13, cN30, cN60, cN64, cN100, cN136, cN240, cN384, cN900, cN2040, cN3,  v_swM_0, v_swM_1, v_swM_r, v_swM_n, swM_ite, app_ite, ex_some, bI_0, bI_1, nn_iff, Int.toNat_natCast, Int.toNat_of_nonneg, Int.natCast_add, cN1, wI_id2, wL_id2, ↓if_pos, ↓if_neg, if_pos, if_neg]
    refine Wd_mono fi (fun o z hz => ?_)
    obtain ⟨ho, po⟩ := hz
    subst ho
    try simp (disch := omega) only [w_iff, iffM_t, iffM_f, iffM_d, iffM_nd, iffM_0, iffM_ite, Wd_iffM, iffM_v, w_tern, ternM_t, ternM_f, ternM_d, ternM_nd, ternM_0, ternM_ite, Wd_ternM, ternM_v, w_sw, swX_1, Wd_swX, Bool.not_true, Bool.not_false, Wd_some, Wd_bn, Wd_sqM, Wd_outV, Wd_blkM, Wd_swM, Wd_ite, Wd_map, v_kS_0, v_kS_b, v_kS_r, v_kO_r, v_kW_0, v_kW_1, v_kW_2, v_kW_r, v_kL_0, v_kL_1, v_kL_2, v_kL_r, v_kU_0, ups_11, upsN, upsA, upA_same, upA_neA, fl_at, fl_neA, v_sq_eq, v_sqM_0, v_sqM_r, v_sqM_b, v_sqM_n, sqM_ite, v_asI, v_asR, v_inc, v_pfI, v_pfZ, v_pfO, v_paI, v_paO, v_exI,  v_rtI, v_rtZ, v_rtV, v_sk, v_brk, v_cnt, v_blk_eq, v_blkM_some, blkM_ite, v_lI, v_lR, v_cI, v_gI, v_gR, v_op1, v_op2, v_arI, v_arR, v_alen,  v_cmp1, v_cmp2, v_cAnd, v_cOr, v_cNot, v_cTern, v_bn_some, bn_ite, v_bn_none, v_outV_r, v_outV_0, v_outV_n, outV_ite, List.getD_cons_zero, List.getD_cons_succ, List.set_cons_zero, List.set_cons_succ, List.take_succ_cons, List.take_zero, List.drop_succ_cons, List.drop_zero, List.nil_append, List.cons_append, Option.map_some, Option.map_none, if_true, if_false, ↓reduceIte, reduceCtorEq, decide_eq_true_eq, Bool.not_eq_true', decide_eq_false_iff_not, decide_eq_true, decide_eq_false, decide_true, decide_false, and_self, and_true, true_and, or_self, stO, v_caV_, v_caV_i, v_caV_ii, v_caV_iii, v_caV_iiii, v_caV_iiiii, v_caV_il, v_caV_iil, v_caV_l, v_caV_ll, v_caV_r, v_caV_ri, v_caV_rii, v_caV_riii, v_caV_riiii, v_caV_ir, v_caV_iri, v_caV_iiri, v_caS_i, v_caS_ii, v_caS_iii, v_caS_iiii, v_caS_iiiiii, v_caS_il, v_caS_li, v_caS_ll, v_caS_lll, v_caS_ri, v_caS_riii, sh_239, sh_240, sh_241, sh_242, sh_243, sh_244, sh_245, sh_246, sh_247, sh_248, sh_249, sh_250, sh_251, sh_252, sh_253, rf_239_4, rf_239_5, rf_239_6, rf_239_7, rf_239_20, rf_239_21, rf_239_22, rf_239_23, rf_239_27, rf_239_28, rf_239_32, rf_239_33, rf_239_34, rf_239_35, Int.reduceLE, Int.reduceLT, Int.reduceToNat, Int.reduceAdd, Int.reduceSub, Int.reduceMul, Int.reduceNeg, Int.reduceEq, Int.reduceNe, Nat.reduceAdd, Nat.reduceMul, Nat.reduceLT, Nat.reduceEqDiff, or_true, true_or, or_false, false_or, and_false, false_and, not_true_eq_false, not_false_eq_true, ne_eq, cN4, cN5, cN6, cN7, cN13, cN30, cN60, cN64, cN100, cN136, cN240, cN384, cN900, cN2040, cN3,  v_swM_0, v_swM_1, v_swM_r, v_swM_n, swM_ite, app_ite, ex_some, bI_0, bI_1, nn_iff, Int.toNat_natCast, Int.toNat_of_nonneg, Int.natCast_add, cN1, wI_id2, wL_id2, ↓if_pos, ↓if_neg, if_pos, if_neg]
    exact po
theorem must_f (h : 0 < σ 239 12) (b : Int) : F_X12_must 239 b σ = some (0, σ) := by
  try simp (disch := omega) only [w_iff, iffM_t, iffM_f, iffM_d, iffM_nd, iffM_0, iffM_ite, Wd_iffM, iffM_v, w_tern, ternM_t, ternM_f, ternM_d, ternM_nd, ternM_0, ternM_ite, Wd_ternM, ternM_v, w_sw, swX_1, Wd_swX, Bool.not_true, Bool.not_false, F_X12_must, B_X12_must, h, Wd_some, Wd_bn, Wd_sqM, Wd_outV, Wd_blkM, Wd_swM, Wd_ite, Wd_map, v_kS_0, v_kS_b, v_kS_r, v_kO_r, v_kW_0, v_kW_1, v_kW_2, v_kW_r, v_kL_0, v_kL_1, v_kL_2, v_kL_r, v_kU_0, ups_11, upsN, upsA, upA_same, upA_neA, fl_at, fl_neA, v_sq_eq, v_sqM_0, v_sqM_r, v_sqM_b, v_sqM_n, sqM_ite, v_asI, v_asR, v_inc, v_pfI, v_pfZ, v_pfO, v_paI, v_paO, v_exI,  v_rtI, v_rtZ, v_rtV, v_sk, v_brk, v_cnt, v_blk_eq, v_blkM_some, blkM_ite, v_lI, v_lR, v_cI, v_gI, v_gR, v_op1, v_op2, v_arI, v_arR, v_alen,  v_cmp1, v_cmp2, v_cAnd, v_cOr, v_cNot, v_cTern, v_bn_some, bn_ite, v_bn_none, v_outV_r, v_outV_0, v_outV_n, outV_ite, List.getD_cons_zero, List.getD_cons_succ, List.set_cons_zero, List.set_cons_succ, List.take_succ_cons, List.take_zero, List.drop_succ_cons, List.drop_zero, List.nil_append, List.cons_append, Option.map_some, Option.map_none, if_true, if_false, ↓reduceIte, reduceCtorEq, decide_eq_true_eq, Bool.not_eq_true', decide_eq_false_iff_not, decide_eq_true, decide_eq_false, decide_true, decide_false, and_self, and_true, true_and, or_self, stO, v_caV_, v_caV_i, v_caV_ii, v_caV_iii, v_caV_iiii, v_caV_iiiii, v_caV_il, v_caV_iil, v_caV_l, v_caV_ll, v_caV_r, v_caV_ri, v_caV_rii, v_caV_riii, v_caV_riiii, v_caV_ir, v_caV_iri, v_caV_iiri, v_caS_i, v_caS_ii, v_caS_iii, v_caS_iiii, v_caS_iiiiii, v_caS_il, v_caS_li, v_caS_ll, v_caS_lll, v_caS_ri, v_caS_riii, sh_239, sh_240, sh_241, sh_242, sh_243, sh_244, sh_245, sh_246, sh_247, sh_248, sh_249, sh_250, sh_251, sh_252, sh_253, rf_239_4, rf_239_5, rf_239_6, rf_239_7, rf_239_20, rf_239_21, rf_239_22, rf_239_23, rf_239_27, rf_239_28, rf_239_32, rf_239_33, rf_239_34, rf_239_35, Int.reduceLE, Int.reduceLT, Int.reduceToNat, Int.reduceAdd, Int.reduceSub, Int.reduceMul, Int.reduceNeg, Int.reduceEq, Int.reduceNe, Nat.reduceAdd, Nat.reduceMul, Nat.reduceLT, Nat.reduceEqDiff, or_true, true_or, or_false, false_or, and_false, false_and, not_true_eq_false, not_false_eq_true, ne_eq, cN4, cN5, cN6, cN7, cN13, cN30, cN60, cN64, cN100, cN136, cN240, cN384, cN900, cN2040, cN3,  v_swM_0, v_swM_1, v_swM_r, v_swM_n, swM_ite, app_ite, ex_some, bI_0, bI_1, nn_iff, Int.toNat_natCast, Int.toNat_of_nonneg, Int.natCast_add, cN1, wI_id2, wL_id2, ↓if_pos, ↓if_neg, if_pos, if_neg]
theorem count_f (h : 0 < σ 239 12) (n0 : ¬ σ 239 12 = 0) (lo hi : Int) : F_X12_count 239 lo hi σ = some (0, σ) := by
  try simp (disch := omega) only [w_iff, iffM_t, iffM_f, iffM_d, iffM_nd, iffM_0, iffM_ite, Wd_iffM, iffM_v, w_tern, ternM_t, ternM_f, ternM_d, ternM_nd, ternM_0, ternM_ite, Wd_ternM, ternM_v, w_sw, swX_1, Wd_swX, Bool.not_true, Bool.not_false, F_X12_count, B_X12_count, h, n0, Wd_some, Wd_bn, Wd_sqM, Wd_outV, Wd_blkM, Wd_swM, Wd_ite, Wd_map, v_kS_0, v_kS_b, v_kS_r, v_kO_r, v_kW_0, v_kW_1, v_kW_2, v_kW_r, v_kL_0, v_kL_1, v_kL_2, v_kL_r, v_kU_0, ups_11, upsN, upsA, upA_same, upA_neA, fl_at, fl_neA, v_sq_eq, v_sqM_0, v_sqM_r, v_sqM_b, v_sqM_n, sqM_ite, v_asI, v_asR, v_inc, v_pfI, v_pfZ, v_pfO, v_paI, v_paO, v_exI,  v_rtI, v_rtZ, v_rtV, v_sk, v_brk, v_cnt, v_blk_eq, v_blkM_some, blkM_ite, v_lI, v_lR, v_cI, v_gI, v_gR, v_op1, v_op2, v_arI, v_arR, v_alen,  v_cmp1, v_cmp2, v_cAnd, v_cOr, v_cNot, v_cTern, v_bn_some, bn_ite, v_bn_none, v_outV_r, v_outV_0, v_outV_n, outV_ite, List.getD_cons_zero, List.getD_cons_succ, List.set_cons_zero, List.set_cons_succ, List.take_succ_cons, List.take_zero, List.drop_succ_cons, List.drop_zero, List.nil_append, List.cons_append, Option.map_some, Option.map_none, if_true, if_false, ↓reduceIte, reduceCtorEq, decide_eq_true_eq, Bool.not_eq_true', decide_eq_false_iff_not, decide_eq_true, decide_eq_false, decide_true, decide_false, and_self, and_true, true_and, or_self, stO, v_caV_, v_caV_i, v_caV_ii, v_caV_iii, v_caV_iiii, v_caV_iiiii, v_caV_il, v_caV_iil, v_caV_l, v_caV_ll, v_caV_r, v_caV_ri, v_caV_rii, v_caV_riii, v_caV_riiii, v_caV_ir, v_caV_iri, v_caV_iiri, v_caS_i, v_caS_ii, v_caS_iii, v_caS_iiii, v_caS_iiiiii, v_caS_il, v_caS_li, v_caS_ll, v_caS_lll, v_caS_ri, v_caS_riii, sh_239, sh_240, sh_241, sh_242, sh_243, sh_244, sh_245, sh_246, sh_247, sh_248, sh_249, sh_250, sh_251, sh_252, sh_253, rf_239_4, rf_239_5, rf_239_6, rf_239_7, rf_239_20, rf_239_21, rf_239_22, rf_239_23, rf_239_27, rf_239_28, rf_239_32, rf_239_33, rf_239_34, rf_239_35, Int.reduceLE, Int.reduceLT, Int.reduceToNat, Int.reduceAdd, Int.reduceSub, Int.reduceMul, Int.reduceNeg, Int.reduceEq, Int.reduceNe, Nat.reduceAdd, Nat.reduceMul, Nat.reduceLT, Nat.reduceEqDiff, or_true, true_or, or_false, false_or, and_false, false_and, not_true_eq_false, not_false_eq_true, ne_eq, cN4, cN5, cN6, cN7, cN13, cN30, cN60, cN64, cN100, cN136, cN240, cN384, cN900, cN2040, cN3,  v_swM_0, v_swM_1, v_swM_r, v_swM_n, swM_ite, app_ite, ex_some, bI_0, bI_1, nn_iff, Int.toNat_natCast, Int.toNat_of_nonneg, Int.natCast_add, cN1, wI_id2, wL_id2, ↓if_pos, ↓if_neg, if_pos, if_neg]
theorem beh_f (h : 0 < σ 239 12) (b lo hi : Int) : F_X12_behindWord 239 b lo hi σ = some (0, σ) := by
  have c1 := count_f h (by omega) lo hi
  have c2 := must_f h b
  try simp (disch := omega) only [w_iff, iffM_t, iffM_f, iffM_d, iffM_nd, iffM_0, iffM_ite, Wd_iffM, iffM_v, w_tern, ternM_t, ternM_f, ternM_d, ternM_nd, ternM_0, ternM_ite, Wd_ternM, ternM_v, w_sw, swX_1, Wd_swX, Bool.not_true, Bool.not_false, F_X12_behindWord, B_X12_behindWord, c1, c2, Wd_some, Wd_bn, Wd_sqM, Wd_outV, Wd_blkM, Wd_swM, Wd_ite, Wd_map, v_kS_0, v_kS_b, v_kS_r, v_kO_r, v_kW_0, v_kW_1, v_kW_2, v_kW_r, v_kL_0, v_kL_1, v_kL_2, v_kL_r, v_kU_0, ups_11, upsN, upsA, upA_same, upA_neA, fl_at, fl_neA, v_sq_eq, v_sqM_0, v_sqM_r, v_sqM_b, v_sqM_n, sqM_ite, v_asI, v_asR, v_inc, v_pfI, v_pfZ, v_pfO, v_paI, v_paO, v_exI,  v_rtI, v_rtZ, v_rtV, v_sk, v_brk, v_cnt, v_blk_eq, v_blkM_some, blkM_ite, v_lI, v_lR, v_cI, v_gI, v_gR, v_op1, v_op2, v_arI, v_arR, v_alen,  v_cmp1, v_cmp2, v_cAnd, v_cOr, v_cNot, v_cTern, v_bn_some, bn_ite, v_bn_none, v_outV_r, v_outV_0, v_outV_n, outV_ite, List.getD_cons_zero, List.getD_cons_succ, List.set_cons_zero, List.set_cons_succ, List.take_succ_cons, List.take_zero, List.drop_succ_cons, List.drop_zero, List.nil_append, List.cons_append, Option.map_some, Option.map_none, if_true, if_false, ↓reduceIte, reduceCtorEq, decide_eq_true_eq, Bool.not_eq_true', decide_eq_false_iff_not, decide_eq_true, decide_eq_false, decide_true, decide_false, and_self, and_true, true_and, or_self, stO, v_caV_, v_caV_i, v_caV_ii, v_caV_iii, v_caV_iiii, v_caV_iiiii, v_caV_il, v_caV_iil, v_caV_l, v_caV_ll, v_caV_r, v_caV_ri, v_caV_rii, v_caV_riii, v_caV_riiii, v_caV_ir, v_caV_iri, v_caV_iiri, v_caS_i, v_caS_ii, v_caS_iii, v_caS_iiii, v_caS_iiiiii, v_caS_il, v_caS_li, v_caS_ll, v_caS_lll, v_caS_ri, v_caS_riii, sh_239, sh_240, sh_241, sh_242, sh_243, sh_244, sh_245, sh_246, sh_247, sh_248, sh_249, sh_250, sh_251, sh_252, sh_253, rf_239_4, rf_239_5, rf_239_6, rf_239_7, rf_239_20, rf_239_21, rf_239_22, rf_239_23, rf_239_27, rf_239_28, rf_239_32, rf_239_33, rf_239_34, rf_239_35, Int.reduceLE, Int.reduceLT, Int.reduceToNat, Int.reduceAdd, Int.reduceSub, Int.reduceMul, Int.reduceNeg, Int.reduceEq, Int.reduceNe, Nat.reduceAdd, Nat.reduceMul, Nat.reduceLT, Nat.reduceEqDiff, or_true, true_or, or_false, false_or, and_false, false_and, not_true_eq_false, not_false_eq_true, ne_eq, cN4, cN5, cN6, cN7, cN13, cN30, cN60, cN64, cN100, cN136, cN240, cN384, cN900, cN2040, cN3,  v_swM_0, v_swM_1, v_swM_r, v_swM_n, swM_ite, app_ite, ex_some, bI_0, bI_1, nn_iff, Int.toNat_natCast, Int.toNat_of_nonneg, Int.natCast_add, cN1, wI_id2, wL_id2, ↓if_pos, ↓if_neg, if_pos, if_neg]
theorem d_tune6 {s : TS3} (T : TmS B n s σ) (g : s.2.1 = 0) (h4 : ¬ tKd B n s.1 = 4) (hm : cb σ 4 2 = 6) : Wd (F_X12_readTune 239 σ) (Mb6 B n (tBlm B n 6 s) σ) := by
  obtain ⟨τ, nw, h1⟩ := d_new6 T g h4 (so := 0) (by omega) hm
  have nw : F_X12_readNew 239 0 σ = some (0, τ) := nw
  obtain ⟨T1, F1, _⟩ := h1
  have b1 := tBlm_1 (B := B) (n := n) (k := 6) (by omega) (s := s)
  obtain ⟨m1, m2⟩ := TmS_1 T1 b1
  have l1 := d_isLoud τ
  have q1 := fun b => beh_f (σ := τ) m2 b 0 20
  have l2 := d_isToll (ups τ 244 1642 0)
  have q2 := fun b => beh_f (σ := ups τ 244 1642 0) (by try simp (disch := omega) only [ups_11, upsN, upsA, upA_same, upA_neA, fl_at, fl_neA]; exact m2) b 0 9
  have m3 : ¬ ups (ups τ 244 1642 0) 244 1648 0 239 12 = 0 := by try simp (disch := omega) only [ups_11, upsN, upsA, upA_same, upA_neA, fl_at, fl_neA]; exact m1
  have po : Mb6 B n (tBlm B n 6 s) σ 0 (ups (ups (ups τ 244 1642 0) 244 1648 0) 244 1654 4) := ⟨TmS_4 (TmS_4 (TmS_4 T1 _ _) _ _) _ _, Rm_4 (Rm_4 (Rm_4 (Rm_f (Rm_r _) F1) _ _) _ _) _ _, fun j hj => by rw [upsN (by omega), upsN (by omega), upsN (by omega), F1.1 244 (by omega)], fun j _ => by try simp (disch := omega) only [ups_11, upsN, upsA, upA_same, upA_neA, fl_at, fl_neA]; rw [F1.1 247 (by omega)]⟩
  clear T T1 F1
  try simp (disch := omega) only [w_iff, iffM_t, iffM_f, iffM_d, iffM_nd, iffM_0, iffM_ite, Wd_iffM, iffM_v, w_tern, ternM_t, ternM_f, ternM_d, ternM_nd, ternM_0, ternM_ite, Wd_ternM, ternM_v, w_sw, swX_1, Wd_swX, Bool.not_true, Bool.not_false, F_X12_readTune, E_tuA, nw, Wd_some, Wd_bn, Wd_sqM, Wd_outV, Wd_blkM, Wd_swM, Wd_ite, Wd_map, v_kS_0, v_kS_b, v_kS_r, v_kO_r, v_kW_0, v_kW_1, v_kW_2, v_kW_r, v_kL_0, v_kL_1, v_kL_2, v_kL_r, v_kU_0, ups_11, upsN, upsA, upA_same, upA_neA, fl_at, fl_neA, v_sq_eq, v_sqM_0, v_sqM_r, v_sqM_b, v_sqM_n, sqM_ite, v_asI, v_asR, v_inc, v_pfI, v_pfZ, v_pfO, v_paI, v_paO, v_exI,  v_rtI, v_rtZ, v_rtV, v_sk, v_brk, v_cnt, v_blk_eq, v_blkM_some, blkM_ite, v_lI, v_lR, v_cI, v_gI, v_gR, v_op1, v_op2, v_arI, v_arR, v_alen,  v_cmp1, v_cmp2, v_cAnd, v_cOr, v_cNot, v_cTern, v_bn_some, bn_ite, v_bn_none, v_outV_r, v_outV_0, v_outV_n, outV_ite, List.getD_cons_zero, List.getD_cons_succ, List.set_cons_zero, List.set_cons_succ, List.take_succ_cons, List.take_zero, List.drop_succ_cons, List.drop_zero, List.nil_append, List.cons_append, Option.map_some, Option.map_none, if_true, if_false, ↓reduceIte, reduceCtorEq, decide_eq_true_eq, Bool.not_eq_true', decide_eq_false_iff_not, decide_eq_true, decide_eq_false, decide_true, decide_false, and_self, and_true, true_and, or_self, stO, v_caV_, v_caV_i, v_caV_ii, v_caV_iii, v_caV_iiii, v_caV_iiiii, v_caV_il, v_caV_iil, v_caV_l, v_caV_ll, v_caV_r, v_caV_ri, v_caV_rii, v_caV_riii, v_caV_riiii, v_caV_ir, v_caV_iri, v_caV_iiri, v_caS_i, v_caS_ii, v_caS_iii, v_caS_iiii, v_caS_iiiiii, v_caS_il, v_caS_li, v_caS_ll, v_caS_lll, v_caS_ri, v_caS_riii, sh_239, sh_240, sh_241, sh_242, sh_243, sh_244, sh_245, sh_246, sh_247, sh_248, sh_249, sh_250, sh_251, sh_252, sh_253, rf_239_4, rf_239_5, rf_239_6, rf_239_7, rf_239_20, rf_239_21, rf_239_22, rf_239_23, rf_239_27, rf_239_28, rf_239_32, rf_239_33, rf_239_34, rf_239_35, Int.reduceLE, Int.reduceLT, Int.reduceToNat, Int.reduceAdd, Int.reduceSub, Int.reduceMul, Int.reduceNeg, Int.reduceEq, Int.reduceNe, Nat.reduceAdd, Nat.reduceMul, Nat.reduceLT, Nat.reduceEqDiff, or_true, true_or, or_false, false_or, and_false, false_and, not_true_eq_false, not_false_eq_true, ne_eq, cN4, cN5, cN6, cN7, cN13, cN30, cN60, cN64, cN100, cN136, cN240, cN384, cN900, cN2040, cN3,  v_swM_0, v_swM_1, v_swM_r, v_swM_n, swM_ite, app_ite, ex_some, bI_0, bI_1, nn_iff, Int.toNat_natCast, Int.toNat_of_nonneg, Int.natCast_add, cN1, wI_id2, wL_id2, ↓if_pos, ↓if_neg, if_pos, if_neg]
  try simp (disch := omega) only [w_iff, iffM_t, iffM_f, iffM_d, iffM_nd, iffM_0, iffM_ite, Wd_iffM, iffM_v, w_tern, ternM_t, ternM_f, ternM_d, ternM_nd, ternM_0, ternM_ite, Wd_ternM, ternM_v, w_sw, swX_1, Wd_swX, Bool.not_true, Bool.not_false, tuA, l1, q1, Wd_some, Wd_bn, Wd_sqM, Wd_outV, Wd_blkM, Wd_swM, Wd_ite, Wd_map, v_kS_0, v_kS_b, v_kS_r, v_kO_r, v_kW_0, v_kW_1, v_kW_2, v_kW_r, v_kL_0, v_kL_1, v_kL_2, v_kL_r, v_kU_0, ups_11, upsN, upsA, upA_same, upA_neA, fl_at, fl_neA, v_sq_eq, v_sqM_0, v_sqM_r, v_sqM_b, v_sqM_n, sqM_ite, v_asI, v_asR, v_inc, v_pfI, v_pfZ, v_pfO, v_paI, v_paO, v_exI,  v_rtI, v_rtZ, v_rtV, v_sk, v_brk, v_cnt, v_blk_eq, v_blkM_some, blkM_ite, v_lI, v_lR, v_cI, v_gI, v_gR, v_op1, v_op2, v_arI, v_arR, v_alen,  v_cmp1, v_cmp2, v_cAnd, v_cOr, v_cNot, v_cTern, v_bn_some, bn_ite, v_bn_none, v_outV_r, v_outV_0, v_outV_n, outV_ite, List.getD_cons_zero, List.getD_cons_succ, List.set_cons_zero, List.set_cons_succ, List.take_succ_cons, List.take_zero, List.drop_succ_cons, List.drop_zero, List.nil_append, List.cons_append, Option.map_some, Option.map_none, if_true, if_false, ↓reduceIte, reduceCtorEq, decide_eq_true_eq, Bool.not_eq_true', decide_eq_false_iff_not, decide_eq_true, decide_eq_false, decide_true, decide_false, and_self, and_true, true_and, or_self, stO, v_caV_, v_caV_i, v_caV_ii, v_caV_iii, v_caV_iiii, v_caV_iiiii, v_caV_il, v_caV_iil, v_caV_l, v_caV_ll, v_caV_r, v_caV_ri, v_caV_rii, v_caV_riii, v_caV_riiii, v_caV_ir, v_caV_iri, v_caV_iiri, v_caS_i, v_caS_ii, v_caS_iii, v_caS_iiii, v_caS_iiiiii, v_caS_il, v_caS_li, v_caS_ll, v_caS_lll, v_caS_ri, v_caS_riii, sh_239, sh_240, sh_241, sh_242, sh_243, sh_244, sh_245, sh_246, sh_247, sh_248, sh_249, sh_250, sh_251, sh_252, sh_253, rf_239_4, rf_239_5, rf_239_6, rf_239_7, rf_239_20, rf_239_21, rf_239_22, rf_239_23, rf_239_27, rf_239_28, rf_239_32, rf_239_33, rf_239_34, rf_239_35, Int.reduceLE, Int.reduceLT, Int.reduceToNat, Int.reduceAdd, Int.reduceSub, Int.reduceMul, Int.reduceNeg, Int.reduceEq, Int.reduceNe, Nat.reduceAdd, Nat.reduceMul, Nat.reduceLT, Nat.reduceEqDiff, or_true, true_or, or_false, false_or, and_false, false_and, not_true_eq_false, not_false_eq_true, ne_eq, cN4, cN5, cN6, cN7, cN13, cN30, cN60, cN64, cN100, cN136, cN240, cN384, cN900, cN2040, cN3,  v_swM_0, v_swM_1, v_swM_r, v_swM_n, swM_ite, app_ite, ex_some, bI_0, bI_1, nn_iff, Int.toNat_natCast, Int.toNat_of_nonneg, Int.natCast_add, cN1, wI_id2, wL_id2, ↓if_pos, ↓if_neg, if_pos, if_neg]
  try simp (disch := omega) only [w_iff, iffM_t, iffM_f, iffM_d, iffM_nd, iffM_0, iffM_ite, Wd_iffM, iffM_v, w_tern, ternM_t, ternM_f, ternM_d, ternM_nd, ternM_0, ternM_ite, Wd_ternM, ternM_v, w_sw, swX_1, Wd_swX, Bool.not_true, Bool.not_false, tuB, l2, q2, Wd_some, Wd_bn, Wd_sqM, Wd_outV, Wd_blkM, Wd_swM, Wd_ite, Wd_map, v_kS_0, v_kS_b, v_kS_r, v_kO_r, v_kW_0, v_kW_1, v_kW_2, v_kW_r, v_kL_0, v_kL_1, v_kL_2, v_kL_r, v_kU_0, ups_11, upsN, upsA, upA_same, upA_neA, fl_at, fl_neA, v_sq_eq, v_sqM_0, v_sqM_r, v_sqM_b, v_sqM_n, sqM_ite, v_asI, v_asR, v_inc, v_pfI, v_pfZ, v_pfO, v_paI, v_paO, v_exI,  v_rtI, v_rtZ, v_rtV, v_sk, v_brk, v_cnt, v_blk_eq, v_blkM_some, blkM_ite, v_lI, v_lR, v_cI, v_gI, v_gR, v_op1, v_op2, v_arI, v_arR, v_alen,  v_cmp1, v_cmp2, v_cAnd, v_cOr, v_cNot, v_cTern, v_bn_some, bn_ite, v_bn_none, v_outV_r, v_outV_0, v_outV_n, outV_ite, List.getD_cons_zero, List.getD_cons_succ, List.set_cons_zero, List.set_cons_succ, List.take_succ_cons, List.take_zero, List.drop_succ_cons, List.drop_zero, List.nil_append, List.cons_append, Option.map_some, Option.map_none, if_true, if_false, ↓reduceIte, reduceCtorEq, decide_eq_true_eq, Bool.not_eq_true', decide_eq_false_iff_not, decide_eq_true, decide_eq_false, decide_true, decide_false, and_self, and_true, true_and, or_self, stO, v_caV_, v_caV_i, v_caV_ii, v_caV_iii, v_caV_iiii, v_caV_iiiii, v_caV_il, v_caV_iil, v_caV_l, v_caV_ll, v_caV_r, v_caV_ri, v_caV_rii, v_caV_riii, v_caV_riiii, v_caV_ir, v_caV_iri, v_caV_iiri, v_caS_i, v_caS_ii, v_caS_iii, v_caS_iiii, v_caS_iiiiii, v_caS_il, v_caS_li, v_caS_ll, v_caS_lll, v_caS_ri, v_caS_riii, sh_239, sh_240, sh_241, sh_242, sh_243, sh_244, sh_245, sh_246, sh_247, sh_248, sh_249, sh_250, sh_251, sh_252, sh_253, rf_239_4, rf_239_5, rf_239_6, rf_239_7, rf_239_20, rf_239_21, rf_239_22, rf_239_23, rf_239_27, rf_239_28, rf_239_32, rf_239_33, rf_239_34, rf_239_35, Int.reduceLE, Int.reduceLT, Int.reduceToNat, Int.reduceAdd, Int.reduceSub, Int.reduceMul, Int.reduceNeg, Int.reduceEq, Int.reduceNe, Nat.reduceAdd, Nat.reduceMul, Nat.reduceLT, Nat.reduceEqDiff, or_true, true_or, or_false, false_or, and_false, false_and, not_true_eq_false, not_false_eq_true, ne_eq, cN4, cN5, cN6, cN7, cN13, cN30, cN60, cN64, cN100, cN136, cN240, cN384, cN900, cN2040, cN3,  v_swM_0, v_swM_1, v_swM_r, v_swM_n, swM_ite, app_ite, ex_some, bI_0, bI_1, nn_iff, Int.toNat_natCast, Int.toNat_of_nonneg, Int.natCast_add, cN1, wI_id2, wL_id2, ↓if_pos, ↓if_neg, if_pos, if_neg]
  try simp (disch := omega) only [w_iff, iffM_t, iffM_f, iffM_d, iffM_nd, iffM_0, iffM_ite, Wd_iffM, iffM_v, w_tern, ternM_t, ternM_f, ternM_d, ternM_nd, ternM_0, ternM_ite, Wd_ternM, ternM_v, w_sw, swX_1, Wd_swX, Bool.not_true, Bool.not_false, tuE, m1, Wd_some, Wd_bn, Wd_sqM, Wd_outV, Wd_blkM, Wd_swM, Wd_ite, Wd_map, v_kS_0, v_kS_b, v_kS_r, v_kO_r, v_kW_0, v_kW_1, v_kW_2, v_kW_r, v_kL_0, v_kL_1, v_kL_2, v_kL_r, v_kU_0, ups_11, upsN, upsA, upA_same, upA_neA, fl_at, fl_neA, v_sq_eq, v_sqM_0, v_sqM_r, v_sqM_b, v_sqM_n, sqM_ite, v_asI, v_asR, v_inc, v_pfI, v_pfZ, v_pfO, v_paI, v_paO, v_exI,  v_rtI, v_rtZ, v_rtV, v_sk, v_brk, v_cnt, v_blk_eq, v_blkM_some, blkM_ite, v_lI, v_lR, v_cI, v_gI, v_gR, v_op1, v_op2, v_arI, v_arR, v_alen,  v_cmp1, v_cmp2, v_cAnd, v_cOr, v_cNot, v_cTern, v_bn_some, bn_ite, v_bn_none, v_outV_r, v_outV_0, v_outV_n, outV_ite, List.getD_cons_zero, List.getD_cons_succ, List.set_cons_zero, List.set_cons_succ, List.take_succ_cons, List.take_zero, List.drop_succ_cons, List.drop_zero, List.nil_append, List.cons_append, Option.map_some, Option.map_none, if_true, if_false, ↓reduceIte, reduceCtorEq, decide_eq_true_eq, Bool.not_eq_true', decide_eq_false_iff_not, decide_eq_true, decide_eq_false, decide_true, decide_false, and_self, and_true, true_and, or_self, stO, v_caV_, v_caV_i, v_caV_ii, v_caV_iii, v_caV_iiii, v_caV_iiiii, v_caV_il, v_caV_iil, v_caV_l, v_caV_ll, v_caV_r, v_caV_ri, v_caV_rii, v_caV_riii, v_caV_riiii, v_caV_ir, v_caV_iri, v_caV_iiri, v_caS_i, v_caS_ii, v_caS_iii, v_caS_iiii, v_caS_iiiiii, v_caS_il, v_caS_li, v_caS_ll, v_caS_lll, v_caS_ri, v_caS_riii, sh_239, sh_240, sh_241, sh_242, sh_243, sh_244, sh_245, sh_246, sh_247, sh_248, sh_249, sh_250, sh_251, sh_252, sh_253, rf_239_4, rf_239_5, rf_239_6, rf_239_7, rf_239_20, rf_239_21, rf_239_22, rf_239_23, rf_239_27, rf_239_28, rf_239_32, rf_239_33, rf_239_34, rf_239_35, Int.reduceLE, Int.reduceLT, Int.reduceToNat, Int.reduceAdd, Int.reduceSub, Int.reduceMul, Int.reduceNeg, Int.reduceEq, Int.reduceNe, Nat.reduceAdd, Nat.reduceMul, Nat.reduceLT, Nat.reduceEqDiff, or_true, true_or, or_false, false_or, and_false, false_and, not_true_eq_false, not_false_eq_true, ne_eq, cN4, cN5, cN6, cN7, cN13, cN30, cN60, cN64, cN100, cN136, cN240, cN384, cN900, cN2040, cN3,  v_swM_0, v_swM_1, v_swM_r, v_swM_n, swM_ite, app_ite, ex_some, bI_0, bI_1, nn_iff, Int.toNat_natCast, Int.toNat_of_nonneg, Int.natCast_add, cN1, wI_id2, wL_id2, ↓if_pos, ↓if_neg, if_pos, if_neg]
  exact po
end PL
/-! a PARK, part by part, purely -/
abbrev PX : Type := TS3 × Int × (Nat → Int) × (Nat → Int)
def szC (c : Nat → Int) (vw vd : Int) : Nat → Int := upc (upc c 0 vw) 1 vd
def tuC (c : Nat → Int) (m : Nat) (v1 v2 v3 : Int) : Nat → Int := upc (upc (upc (upc c (10 + m) v1) (16 + m) v2) (22 + m) v3) 2 ((m : Int) + 1)
def baC (c : Nat → Int) (b : Nat) (x y st li : Int) (len : Nat) (ent : Nat → Int) : Nat → Int := fun k => if k = 3 then (b : Int) + 1 else if k = 28 + b then x else if k = 34 + b then y else if k = 40 + b then st else if k = 46 + b then li else if k = 52 + b then li else if k = 64 + b then (len : Int) else if 70 + 6 * b ≤ k ∧ k < 70 + 6 * b + len then ent (k - (70 + 6 * b)) else c k
theorem szC_ne {c : Nat → Int} {vw vd : Int} {j : Nat} (h : 2 ≤ j) : szC c vw vd j = c j := by
  unfold szC
  rw [upc_ne (by omega), upc_ne (by omega)]
theorem szC_0 {c : Nat → Int} {vw vd : Int} : szC c vw vd 0 = vw := by
  unfold szC
  rw [upc_ne (by omega), upc_same]
theorem szC_1 {c : Nat → Int} {vw vd : Int} : szC c vw vd 1 = vd := upc_same _ _ _
theorem tuC_ne {c : Nat → Int} {m : Nat} {v1 v2 v3 : Int} {j : Nat} (h1 : j ≠ 10 + m) (h2 : j ≠ 16 + m) (h3 : j ≠ 22 + m) (h4 : j ≠ 2) : tuC c m v1 v2 v3 j = c j := by
  unfold tuC
  rw [upc_ne h4, upc_ne h3, upc_ne h2, upc_ne h1]
theorem tuC_1 {c : Nat → Int} {m : Nat} {v1 v2 v3 : Int} : tuC c m v1 v2 v3 (10 + m) = v1 := by
  unfold tuC
  rw [upc_ne (by omega), upc_ne (by omega), upc_ne (by omega), upc_same]
theorem tuC_2 {c : Nat → Int} {m : Nat} {v1 v2 v3 : Int} : tuC c m v1 v2 v3 (16 + m) = v2 := by
  unfold tuC
  rw [upc_ne (by omega), upc_ne (by omega), upc_same]
theorem tuC_3 {c : Nat → Int} {m : Nat} {v1 v2 v3 : Int} : tuC c m v1 v2 v3 (22 + m) = v3 := by
  unfold tuC
  rw [upc_ne (by omega), upc_same]
theorem tuC_m {c : Nat → Int} {m : Nat} {v1 v2 v3 : Int} : tuC c m v1 v2 v3 2 = (m : Int) + 1 := upc_same _ _ _
section BC
variable {c : Nat → Int} {b : Nat} {x y st li : Int} {len : Nat} {ent : Nat → Int}
theorem baC_ne {k : Nat} (h0 : k ≠ 3) (h1 : k ≠ 28 + b) (h2 : k ≠ 34 + b) (h3 : k ≠ 40 + b) (h4 : k ≠ 46 + b) (h5 : k ≠ 52 + b) (h6 : k ≠ 64 + b) (h7 : ¬ (70 + 6 * b ≤ k ∧ k < 70 + 6 * b + len)) : baC c b x y st li len ent k = c k := by
  unfold baC
  rw [if_neg h0, if_neg h1, if_neg h2, if_neg h3, if_neg h4, if_neg h5, if_neg h6, if_neg h7]
theorem baC_3 : baC c b x y st li len ent 3 = (b : Int) + 1 := if_pos rfl
theorem baC_x (hb : b < 6) : baC c b x y st li len ent (28 + b) = x := by
  unfold baC
  rw [if_neg (by omega), if_pos rfl]
theorem baC_y (hb : b < 6) : baC c b x y st li len ent (34 + b) = y := by
  unfold baC
  rw [if_neg (by omega), if_neg (by omega), if_pos rfl]
theorem baC_s (hb : b < 6) : baC c b x y st li len ent (40 + b) = st := by
  unfold baC
  rw [if_neg (by omega), if_neg (by omega), if_neg (by omega), if_pos rfl]
theorem baC_l (hb : b < 6) : baC c b x y st li len ent (46 + b) = li := by
  unfold baC
  rw [if_neg (by omega), if_neg (by omega), if_neg (by omega), if_neg (by omega), if_pos rfl]
theorem baC_m (hb : b < 6) : baC c b x y st li len ent (52 + b) = li := by
  unfold baC
  rw [if_neg (by omega), if_neg (by omega), if_neg (by omega), if_neg (by omega), if_neg (by omega), if_pos rfl]
theorem baC_n (hb : b < 6) : baC c b x y st li len ent (64 + b) = (len : Int) := by
  unfold baC
  rw [if_neg (by omega), if_neg (by omega), if_neg (by omega), if_neg (by omega), if_neg (by omega), if_neg (by omega), if_pos rfl]
theorem baC_e (hb : b < 6) {k : Nat} (hk : k < len) : baC c b x y st li len ent (70 + 6 * b + k) = ent k := by
  unfold baC
  rw [if_neg (by omega), if_neg (by omega), if_neg (by omega), if_neg (by omega), if_neg (by omega), if_neg (by omega), if_neg (by omega), if_pos (by omega), show 70 + 6 * b + k - (70 + 6 * b) = k by omega]
end BC
section PM
variable {B : Nat → Int} {n : Nat}
theorem pJ_s (F : Int → Int) (s : TS3) : ∀ m : Nat, (∀ i, 1 ≤ i → i ≤ m → cM B n (pS B n F i s)) ∨ ∃ j, (1 ≤ j ∧ j ≤ m) ∧ ¬ cM B n (pS B n F j s) ∧ ∀ i, 1 ≤ i → i < j → cM B n (pS B n F i s)
  | 0 => Or.inl (fun i h1 h2 => by omega)
  | m + 1 => by
    rcases pJ_s F s m with h | ⟨j, h1, h2, h3⟩
    · by_cases g : cM B n (pS B n F (m + 1) s)
      · refine Or.inl (fun i h1 h2 => ?_)
        by_cases e : i = m + 1
        · subst e; exact g
        · exact h i h1 (by omega)
      · exact Or.inr ⟨m + 1, by omega, g, fun i h1 h2 => h i h1 (by omega)⟩
    · exact Or.inr ⟨j, by omega, h2, h3⟩
theorem pJ_ex (F : Int → Int) (s : TS3) : ∃ j, (1 ≤ j ∧ j ≤ 7) ∧ ¬ cM B n (pS B n F j s) ∧ ∀ i, 1 ≤ i → i < j → cM B n (pS B n F i s) := by
  rcases pJ_s (B := B) (n := n) F s 7 with h | h
  · exact absurd (h 7 (by omega) (by omega)).1 pS_7
  · exact h
noncomputable def pJ (B : Nat → Int) (n : Nat) (F : Int → Int) (s : TS3) : Nat := Classical.choose (pJ_ex (B := B) (n := n) F s)
theorem pJ_p (F : Int → Int) (s : TS3) : (1 ≤ pJ B n F s ∧ pJ B n F s ≤ 7) ∧ ¬ cM B n (pS B n F (pJ B n F s) s) ∧ ∀ i, 1 ≤ i → i < pJ B n F s → cM B n (pS B n F i s) := Classical.choose_spec (pJ_ex (B := B) (n := n) F s)
theorem pJ_u {F : Int → Int} {s : TS3} {j : Nat} (h1 : 1 ≤ j) (h2 : ¬ cM B n (pS B n F j s)) (h3 : ∀ i, 1 ≤ i → i < j → cM B n (pS B n F i s)) : j = pJ B n F s := by
  obtain ⟨p1, p2, p3⟩ := pJ_p (B := B) (n := n) F s
  by_cases g : j < pJ B n F s
  · exact absurd (p3 j h1 g) h2
  · by_cases g2 : pJ B n F s < j
    · exact absurd (h3 _ p1.1 g2) p2
    · omega
theorem pS_le {F : Int → Int} {s : TS3} {i : Nat} : ∀ {j : Nat}, i ≤ j → (pS B n F j s).2.1 = 0 → (pS B n F i s).2.1 = 0
  | 0, h, g => by
    have : i = 0 := by omega
    subst this; exact g
  | j + 1, h, g => by
    by_cases e : i = j + 1
    · subst e; exact g
    · exact pS_le (j := j) (by omega) (pSt_m g).1
/-- one part -/
noncomputable def bdS (B : Nat → Int) (n : Nat) (c w : Nat → Int) (o : Int) (s : TS3) : TS3 := if tKw B n (tB3 B n c (tBd0 B n c w o s)) = 14 then tNdE B n (pS B n (nmF w 0 (c 2).toNat) (pJ B n (nmF w 0 (c 2).toNat) (tAdv B n (tB3 B n c (tBd0 B n c w o s)))) (tAdv B n (tB3 B n c (tBd0 B n c w o s)))) else tNdE B n (tB3 B n c (tBd0 B n c w o s))
noncomputable def bdN (B : Nat → Int) (n : Nat) (c w : Nat → Int) (o : Int) (s : TS3) : Nat := if tKw B n (tB3 B n c (tBd0 B n c w o s)) = 14 then pJ B n (nmF w 0 (c 2).toNat) (tAdv B n (tB3 B n c (tBd0 B n c w o s))) else 0
noncomputable def bdC (B : Nat → Int) (n : Nat) (c w : Nat → Int) (o : Int) (s : TS3) : Nat → Int := baC c (c 3).toNat (tNm B n (tNdW B n 11 (tBd0 B n c w o s)).1) (tNm B n (tNdN B n 0 (c 0 - 1) (tNdW B n 11 (tBd0 B n c w o s))).1) (tNm B n (tNdW B n 12 (tStd B n c (tBd0 B n c w o s))).1) (tNm B n (tNdW B n 13 (tNdN B n 0 20 (tNdW B n 12 (tStd B n c (tBd0 B n c w o s))))).1) (bdN B n c w o s) (fun k => vEnt B n (nmF w 0 (c 2).toNat) (pS B n (nmF w 0 (c 2).toNat) k (tAdv B n (tB3 B n c (tBd0 B n c w o s)))))
noncomputable def stZ (B : Nat → Int) (n : Nat) (s : TS3) (f : Int) (c w : Nat → Int) : PX := (tSize B n (hsO f 3) s, orI f (shlI 1 3), szC c (tNm B n (tOnce B n (hsO f 3) s).1) (tNm B n (tNdW B n 1 (tNdN B n 1 6 (tOnce B n (hsO f 3) s))).1), w)
noncomputable def stRu (B : Nat → Int) (n : Nat) (i : Nat) (hi : Int) (s : TS3) (f : Int) (c w : Nat → Int) : PX := (tRule B n (hsO f i) hi s, orI f (shlI 1 i), upc c (4 + i) (tNm B n (tOnce B n (hsO f i) s).1), w)
noncomputable def stPo (B : Nat → Int) (n : Nat) (s : TS3) (f : Int) (c w : Nat → Int) : PX := (tPond B n (hsO f 3) (c 0) (c 1) s, f, upc c (106 + 6 * tNm B n (tNdN B n 0 (c 0 - 1) (tAdv B n (tBeh B n (hsO f 3) s))).1 + tNm B n (tAdv B n (tBeh B n (hsO f 3) s)).1).toNat 1, w)
noncomputable def stT (B : Nat → Int) (n : Nat) (s : TS3) (f : Int) (c w : Nat → Int) : PX := if c 2 = 6 then (tBlm B n 6 s, f, c, w) else (tTune B n (nwG c w) s, f, tuC c (c 2).toNat (vLoud B n (nwG c w) s) (vToll B n (nwG c w) s) (vBeat B n (nwG c w) s), upc w (c 2).toNat (tWd B n (tAdv B n s).1))
noncomputable def stB (B : Nat → Int) (n : Nat) (s : TS3) (f : Int) (c w : Nat → Int) : PX := if c 3 = 6 then (tBlm B n 6 (tBeh B n (hsO f 3) s), f, c, w) else (bdS B n c w (hsO f 3) s, f, bdC B n c w (hsO f 3) s, upc w (6 + (c 3).toNat) (tWd B n (tAdv B n (tBeh B n (hsO f 3) s)).1))
noncomputable def stp (B : Nat → Int) (n : Nat) (X : PX) : PX := if tKw B n X.1 = 0 then stZ B n X.1 X.2.1 X.2.2.1 X.2.2.2 else if tKw B n X.1 = 2 then stRu B n 0 9 X.1 X.2.1 X.2.2.1 X.2.2.2 else if tKw B n X.1 = 3 then stRu B n 1 9 X.1 X.2.1 X.2.2.1 X.2.2.2 else if tKw B n X.1 = 4 then stRu B n 2 16 X.1 X.2.1 X.2.2.1 X.2.2.2 else if tKw B n X.1 = 5 then stPo B n X.1 X.2.1 X.2.2.1 X.2.2.2 else if tKw B n X.1 = 6 then stT B n X.1 X.2.1 X.2.2.1 X.2.2.2 else if tKw B n X.1 = 10 then stB B n X.1 X.2.1 X.2.2.1 X.2.2.2 else (tBlm B n 2 X.1, X.2)
def DrC (f : Int) (c : Nat → Int) : Prop := (0 ≤ f ∧ f < 16) ∧ WB c ∧ (c 7 = 0 ∧ c 8 = 4 ∧ c 9 = 0) ∧ (∀ b : Nat, b < 6 → c (58 + b) = 0) ∧ (c 136 = 0 ∧ c 137 = 0) ∧ (f < 8 → c 0 = 0 ∧ c 1 = 0)
def DrX (X : PX) : Prop := DrC X.2.1 X.2.2.1
theorem dr_size {s : TS3} {f : Int} {c w : Nat → Int} (C : DrC f c) (h : (stZ B n s f c w).1.2.1 = 0) : DrX (stZ B n s f c w) := by
  obtain ⟨h16, hw, c7, cp, ce, c8⟩ := C
  have h : (tSize B n (hsO f 3) s).2.1 = 0 := h
  unfold tSize at h
  have h5 := tNdE_m h
  have v5 := (tNdN_v h5).2
  have h4 : (tNdN B n 1 6 (tOnce B n (hsO f 3) s)).2.1 = 0 := tNdW_m (i := 1) (by decide) (tNdN_m h5)
  have v4 := (tNdN_v h4).2
  have h3 := tOnce_m (tNdN_m h4)
  obtain ⟨f1, _, _, _, f5, f6⟩ := flg h16
  obtain ⟨_, _, f3, f4⟩ := flP_1 f1
  have lt := f6.mp h3.2
  obtain ⟨z0, z1⟩ := c8 lt
  have hH := hw.1
  show DrC (orI f (shlI 1 3)) (szC c (tNm B n (tOnce B n (hsO f 3) s).1) (tNm B n (tNdW B n 1 (tNdN B n 1 6 (tOnce B n (hsO f 3) s))).1))
  generalize tNm B n (tOnce B n (hsO f 3) s).1 = vw at *
  generalize tNm B n (tNdW B n 1 (tNdN B n 1 6 (tOnce B n (hsO f 3) s))).1 = vd at *
  refine ⟨f3, ⟨?_, fun t t0 t1 => ?_, fun b b0 b1 => ?_, fun k k0 k1 => ?_⟩, ⟨by rw [szC_ne (by omega)]; exact c7.1, by rw [szC_ne (by omega)]; exact c7.2.1, by rw [szC_ne (by omega)]; exact c7.2.2⟩, fun b hb => by rw [szC_ne (by omega)]; exact cp b hb, ⟨by rw [szC_ne (by omega)]; exact ce.1, by rw [szC_ne (by omega)]; exact ce.2⟩, fun q => ?_⟩
  · unfold WH
    rw [szC_0, szC_1, szC_ne (j := 2) (by omega), szC_ne (j := 3) (by omega), szC_ne (j := 4) (by omega), szC_ne (j := 5) (by omega), szC_ne (j := 6) (by omega), szC_ne (j := 7) (by omega), szC_ne (j := 8) (by omega), szC_ne (j := 9) (by omega)]
    exact ⟨by omega, by omega, hH.2.2⟩
  · rw [szC_ne (by omega)] at t1
    unfold WTi
    rw [szC_ne (j := (10 + t).toNat) (by omega), szC_ne (j := (16 + t).toNat) (by omega), szC_ne (j := (22 + t).toNat) (by omega)]
    exact hw.2.1 t t0 t1
  · rw [szC_ne (by omega)] at b1
    have d := (hw.2.2.1 b b0 b1).1.1
    omega
  · have q := (hw.2.2.2 k k0 k1).2 (by omega)
    rw [szC_ne (j := (106 + k).toNat) (by omega), q]
    exact ⟨by omega, fun _ => rfl⟩
  · have := f4.mp q
    omega
theorem dr_rule {i : Nat} (i3 : i < 3) {hi : Int} (hh : hi ≤ if i = 2 then 16 else 9) {s : TS3} {f : Int} {c w : Nat → Int} (C : DrC f c) (h : (stRu B n i hi s f c w).1.2.1 = 0) : DrX (stRu B n i hi s f c w) := by
  obtain ⟨h16, hw, c7, cp, ce, c8⟩ := C
  have h : (tRule B n (hsO f i) hi s).2.1 = 0 := h
  unfold tRule at h
  have h5 := tNdE_m h
  have v5 := (tNdN_v h5).2
  obtain ⟨_, f1, f2, f3, f5, f6⟩ := flg h16
  have ff : (0 ≤ orI f (shlI 1 i) ∧ orI f (shlI 1 i) < 16) ∧ (orI f (shlI 1 i) < 8 → f < 8) := by
    have : i = 0 ∨ i = 1 ∨ i = 2 := by omega
    rcases this with e | e | e <;> subst e
    · obtain ⟨_, _, a3, a4⟩ := flP_1 f1; exact ⟨a3, fun q => (a4.mp q).1⟩
    · obtain ⟨_, _, a3, a4⟩ := flP_1 f2; exact ⟨a3, fun q => (a4.mp q).1⟩
    · obtain ⟨_, _, a3, a4⟩ := flP_1 f3; exact ⟨a3, fun q => (a4.mp q).1⟩
  have hH := hw.1
  show DrC (orI f (shlI 1 i)) (upc c (4 + i) (tNm B n (tOnce B n (hsO f i) s).1))
  generalize tNm B n (tOnce B n (hsO f i) s).1 = v at *
  have u : ∀ j, j < 4 ∨ 7 ≤ j → upc c (4 + i) v j = c j := fun j hj => upc_ne (by omega)
  refine ⟨ff.1, ⟨?_, fun t t0 t1 => ?_, fun b b0 b1 => ?_, fun k k0 k1 => ?_⟩, ⟨by rw [u 7 (by omega)]; exact c7.1, by rw [u 8 (by omega)]; exact c7.2.1, by rw [u 9 (by omega)]; exact c7.2.2⟩, fun b hb => by rw [u _ (by omega)]; exact cp b hb, ⟨by rw [u 136 (by omega)]; exact ce.1, by rw [u 137 (by omega)]; exact ce.2⟩, fun q => ?_⟩
  · have : i = 0 ∨ i = 1 ∨ i = 2 := by omega
    unfold WH
    rw [u 0 (by omega), u 1 (by omega), u 2 (by omega), u 3 (by omega), u 7 (by omega), u 8 (by omega), u 9 (by omega)]
    rcases this with e | e | e <;> subst e
    · rw [if_neg (by omega)] at hh
      rw [show upc c (4 + 0) v 4 = v from upc_same _ _ _, upc_ne (j := 5) (by omega), upc_ne (j := 6) (by omega)]
      exact ⟨hH.1, hH.2.1, hH.2.2.1, hH.2.2.2.1, by omega, hH.2.2.2.2.2⟩
    · rw [if_neg (by omega)] at hh
      rw [show upc c (4 + 1) v 5 = v from upc_same _ _ _, upc_ne (j := 4) (by omega), upc_ne (j := 6) (by omega)]
      exact ⟨hH.1, hH.2.1, hH.2.2.1, hH.2.2.2.1, hH.2.2.2.2.1, by omega, hH.2.2.2.2.2.2⟩
    · rw [if_pos rfl] at hh
      rw [show upc c (4 + 2) v 6 = v from upc_same _ _ _, upc_ne (j := 4) (by omega), upc_ne (j := 5) (by omega)]
      exact ⟨hH.1, hH.2.1, hH.2.2.1, hH.2.2.2.1, hH.2.2.2.2.1, hH.2.2.2.2.2.1, by omega, hH.2.2.2.2.2.2.2⟩
  · rw [u 2 (by omega)] at t1
    unfold WTi
    rw [u (10 + t).toNat (by omega), u (16 + t).toNat (by omega), u (22 + t).toNat (by omega)]
    exact hw.2.1 t t0 t1
  · rw [u 3 (by omega)] at b1
    have d := hw.2.2.1 b b0 b1
    refine ⟨?_, fun k k0 k1 => ?_⟩
    · unfold WDi
      rw [u (28 + b).toNat (by omega), u (34 + b).toNat (by omega), u (40 + b).toNat (by omega), u (46 + b).toNat (by omega), u (52 + b).toNat (by omega), u (58 + b).toNat (by omega), u (64 + b).toNat (by omega), u 0 (by omega), u 1 (by omega)]
      exact d.1
    · rw [u (64 + b).toNat (by omega)] at k1
      unfold enB
      rw [u (70 + 6 * b + k).toNat (by omega), u 2 (by omega)]
      exact d.2 k k0 k1
  · rw [u (106 + k).toNat (by omega), u 0 (by omega), u 1 (by omega)]
    exact hw.2.2.2 k k0 k1
  · rw [u 0 (by omega), u 1 (by omega)]
    exact c8 (ff.2 q)
theorem dr_pond {s : TS3} {f : Int} {c w : Nat → Int} (C : DrC f c) (h : (stPo B n s f c w).1.2.1 = 0) : DrX (stPo B n s f c w) := by
  obtain ⟨h16, hw, c7, cp, ce, c8⟩ := C
  have h : (tPond B n (hsO f 3) (c 0) (c 1) s).2.1 = 0 := h
  unfold tPond at h
  have h5 := tNdE_m h
  have v5 := (tNdN_v h5).2
  have h4 := tNdN_m h5
  have v4 := (tNdN_v h4).2
  have h3 := tBeh_m (tAdv_m (tNdN_m h4))
  obtain ⟨_, _, _, _, f5, f6⟩ := flg h16
  have nlt : ¬ f < 8 := fun q => h3.2 (f6.mpr q)
  have hH := hw.1
  show DrC f (upc c (106 + 6 * tNm B n (tNdN B n 0 (c 0 - 1) (tAdv B n (tBeh B n (hsO f 3) s))).1 + tNm B n (tAdv B n (tBeh B n (hsO f 3) s)).1).toNat 1)
  generalize tNm B n (tNdN B n 0 (c 0 - 1) (tAdv B n (tBeh B n (hsO f 3) s))).1 = y at *
  generalize tNm B n (tAdv B n (tBeh B n (hsO f 3) s)).1 = x at *
  have u : ∀ j, j < 106 ∨ 136 ≤ j → upc c (106 + 6 * y + x).toNat 1 j = c j := fun j hj => upc_ne (by omega)
  refine ⟨h16, ⟨?_, fun t t0 t1 => ?_, fun b b0 b1 => ?_, fun k k0 k1 => ?_⟩, ⟨by rw [u 7 (by omega)]; exact c7.1, by rw [u 8 (by omega)]; exact c7.2.1, by rw [u 9 (by omega)]; exact c7.2.2⟩, fun b hb => by rw [u _ (by omega)]; exact cp b hb, ⟨by rw [u 136 (by omega)]; exact ce.1, by rw [u 137 (by omega)]; exact ce.2⟩, fun q => absurd q nlt⟩
  · exact WH_cc (fun k hk => u k (by omega)) hH
  · rw [u 2 (by omega)] at t1
    unfold WTi
    rw [u (10 + t).toNat (by omega), u (16 + t).toNat (by omega), u (22 + t).toNat (by omega)]
    exact hw.2.1 t t0 t1
  · rw [u 3 (by omega)] at b1
    have d := hw.2.2.1 b b0 b1
    refine ⟨?_, fun k k0 k1 => ?_⟩
    · unfold WDi
      rw [u (28 + b).toNat (by omega), u (34 + b).toNat (by omega), u (40 + b).toNat (by omega), u (46 + b).toNat (by omega), u (52 + b).toNat (by omega), u (58 + b).toNat (by omega), u (64 + b).toNat (by omega), u 0 (by omega), u 1 (by omega)]
      exact d.1
    · rw [u (64 + b).toNat (by omega)] at k1
      unfold enB
      rw [u (70 + 6 * b + k).toNat (by omega), u 2 (by omega)]
      exact d.2 k k0 k1
  · rw [u 0 (by omega), u 1 (by omega)]
    have q := hw.2.2.2 k k0 k1
    by_cases e : (106 + k).toNat = (106 + 6 * y + x).toNat
    · rw [e, upc_same]
      have e1 : k = 6 * y + x := by omega
      have a1 : (6 * y + x) % 6 = x := by omega
      have a2 : (6 * y + x) / 6 = y := by omega
      refine ⟨by omega, fun nn => ?_⟩
      exfalso
      apply nn
      rw [e1, a1, a2]
      omega
    · rw [upc_ne e]
      exact q
theorem vEnt_en {F : Int → Int} {s : TS3} (h : (tEnt B n F s).2.1 = 0) : vEnt B n F s = 6 ∨ (vEnt B n F s = F (tWd B n s.1) ∧ F (tWd B n s.1) ≠ -1) := by
  unfold tEnt at h
  unfold vEnt
  by_cases g : tKw B n s = 15
  · rw [if_pos g]; exact Or.inl rfl
  · rw [if_neg g] at h
    rw [if_neg g]
    exact Or.inr ⟨rfl, (tTold_v h).2.2⟩
theorem tBts_v {s : TS3} (h : (tBts B n s).2.1 = 0) : s.2.1 = 0 ∧ 1 ≤ vBts B n s ∧ vBts B n s ≤ 99 := by
  refine ⟨tBts_m h, ?_⟩
  unfold tBts at h
  unfold vBts
  by_cases g : tKw B n s = 9
  · rw [if_pos g] at h
    rw [if_pos g]
    exact (tNdN_v h).2
  · rw [if_neg g]
    omega
theorem dr_tune {s : TS3} {f : Int} {c w : Nat → Int} (C : DrC f c) (h : (stT B n s f c w).1.2.1 = 0) : DrX (stT B n s f c w) := by
  obtain ⟨h16, hw, c7, cp, ce, c8⟩ := C
  have hH := hw.1
  unfold stT at h ⊢
  by_cases g6 : c 2 = 6
  · rw [if_pos g6] at h
    exact absurd h (tBlm_1 (by omega))
  · rw [if_neg g6] at h ⊢
    have h : (tTune B n (nwG c w) s).2.1 = 0 := h
    unfold tTune at h
    have b1 := tBts_v (tNdE_m h)
    have b2 := tNdN_v b1.1
    have b3 := tNdN_v (tNdW_m (i := 8) (by decide) b2.1)
    have v1 : 1 ≤ vBeat B n (nwG c w) s ∧ vBeat B n (nwG c w) s ≤ 99 := b1.2
    have v2 : 0 ≤ vToll B n (nwG c w) s ∧ vToll B n (nwG c w) s ≤ 9 := b2.2
    have v3 : 0 ≤ vLoud B n (nwG c w) s ∧ vLoud B n (nwG c w) s ≤ 20 := b3.2
    show DrC f (tuC c (c 2).toNat (vLoud B n (nwG c w) s) (vToll B n (nwG c w) s) (vBeat B n (nwG c w) s))
    generalize vLoud B n (nwG c w) s = lo at *
    generalize vToll B n (nwG c w) s = tl at *
    generalize vBeat B n (nwG c w) s = be at *
    obtain ⟨m, hm⟩ : ∃ m : Nat, c 2 = (m : Int) := ⟨(c 2).toNat, by omega⟩
    have hm2 : (c 2).toNat = m := by omega
    rw [hm2]
    have m6 : m < 6 := by omega
    have u : ∀ j, j < 10 ∨ 28 ≤ j → j ≠ 2 → tuC c m lo tl be j = c j := fun j hj h2 => tuC_ne (by omega) (by omega) (by omega) h2
    refine ⟨h16, ⟨?_, fun t t0 t1 => ?_, fun b b0 b1 => ?_, fun k k0 k1 => ?_⟩, ⟨by rw [u 7 (by omega) (by omega)]; exact c7.1, by rw [u 8 (by omega) (by omega)]; exact c7.2.1, by rw [u 9 (by omega) (by omega)]; exact c7.2.2⟩, fun b hb => by rw [u _ (by omega) (by omega)]; exact cp b hb, ⟨by rw [u 136 (by omega) (by omega)]; exact ce.1, by rw [u 137 (by omega) (by omega)]; exact ce.2⟩, fun q => by rw [u 0 (by omega) (by omega), u 1 (by omega) (by omega)]; exact c8 q⟩
    · unfold WH
      rw [u 0 (by omega) (by omega), u 1 (by omega) (by omega), tuC_m, u 3 (by omega) (by omega), u 4 (by omega) (by omega), u 5 (by omega) (by omega), u 6 (by omega) (by omega), u 7 (by omega) (by omega), u 8 (by omega) (by omega), u 9 (by omega) (by omega)]
      exact ⟨hH.1, hH.2.1, by omega, hH.2.2.2⟩
    · rw [tuC_m] at t1
      unfold WTi
      by_cases e : t = (m : Int)
      · subst e
        rw [show (10 + (m : Int)).toNat = 10 + m by omega, show (16 + (m : Int)).toNat = 16 + m by omega, show (22 + (m : Int)).toNat = 22 + m by omega, tuC_1, tuC_2, tuC_3]
        exact ⟨v3, v2, v1⟩
      · rw [tuC_ne (j := (10 + t).toNat) (by omega) (by omega) (by omega) (by omega), tuC_ne (j := (16 + t).toNat) (by omega) (by omega) (by omega) (by omega), tuC_ne (j := (22 + t).toNat) (by omega) (by omega) (by omega) (by omega)]
        exact hw.2.1 t t0 (by omega)
    · rw [u 3 (by omega) (by omega)] at b1
      have d := hw.2.2.1 b b0 b1
      refine ⟨?_, fun k k0 k1 => ?_⟩
      · unfold WDi
        rw [u (28 + b).toNat (by omega) (by omega), u (34 + b).toNat (by omega) (by omega), u (40 + b).toNat (by omega) (by omega), u (46 + b).toNat (by omega) (by omega), u (52 + b).toNat (by omega) (by omega), u (58 + b).toNat (by omega) (by omega), u (64 + b).toNat (by omega) (by omega), u 0 (by omega) (by omega), u 1 (by omega) (by omega)]
        exact d.1
      · rw [u (64 + b).toNat (by omega) (by omega)] at k1
        have d2 := d.2 k k0 k1
        unfold enB at d2 ⊢
        rw [u (70 + 6 * b + k).toNat (by omega) (by omega), tuC_m]
        omega
    · rw [u (106 + k).toNat (by omega) (by omega), u 0 (by omega) (by omega), u 1 (by omega) (by omega)]
      exact hw.2.2.2 k k0 k1
/-- what a band that is read well tells -/
theorem bd_v {c w : Nat → Int} {o : Int} {s : TS3} (h : (bdS B n c w o s).2.1 = 0) : (tB3 B n c (tBd0 B n c w o s)).2.1 = 0 ∧ (tBd0 B n c w o s).2.1 = 0 ∧ (s.2.1 = 0 ∧ ¬ o = 0) ∧ (0 ≤ tNm B n (tNdW B n 11 (tBd0 B n c w o s)).1 ∧ tNm B n (tNdW B n 11 (tBd0 B n c w o s)).1 ≤ c 0 - 1) ∧ (0 ≤ tNm B n (tNdN B n 0 (c 0 - 1) (tNdW B n 11 (tBd0 B n c w o s))).1 ∧ tNm B n (tNdN B n 0 (c 0 - 1) (tNdW B n 11 (tBd0 B n c w o s))).1 ≤ c 1 - 1) ∧ (0 ≤ tNm B n (tNdW B n 12 (tStd B n c (tBd0 B n c w o s))).1 ∧ tNm B n (tNdW B n 12 (tStd B n c (tBd0 B n c w o s))).1 ≤ 20) ∧ (0 ≤ tNm B n (tNdW B n 13 (tNdN B n 0 20 (tNdW B n 12 (tStd B n c (tBd0 B n c w o s))))).1 ∧ tNm B n (tNdW B n 13 (tNdN B n 0 20 (tNdW B n 12 (tStd B n c (tBd0 B n c w o s))))).1 ≤ 99) ∧ bdN B n c w o s ≤ 6 ∧ ∀ k, k < bdN B n c w o s → (pS B n (nmF w 0 (c 2).toNat) (k + 1) (tAdv B n (tB3 B n c (tBd0 B n c w o s)))).2.1 = 0 := by
  have h3 : (tB3 B n c (tBd0 B n c w o s)).2.1 = 0 ∧ bdN B n c w o s ≤ 6 ∧ ∀ k, k < bdN B n c w o s → (pS B n (nmF w 0 (c 2).toNat) (k + 1) (tAdv B n (tB3 B n c (tBd0 B n c w o s)))).2.1 = 0 := by
    unfold bdS at h
    unfold bdN
    by_cases g : tKw B n (tB3 B n c (tBd0 B n c w o s)) = 14
    · rw [if_pos g] at h
      rw [if_pos g]
      have h1 := tNdE_m h
      have pp := pJ_p (B := B) (n := n) (nmF w 0 (c 2).toNat) (tAdv B n (tB3 B n c (tBd0 B n c w o s)))
      refine ⟨tAdv_m (pS_m h1), ?_, fun k hk => pS_le (by omega) h1⟩
      by_cases e : pJ B n (nmF w 0 (c 2).toNat) (tAdv B n (tB3 B n c (tBd0 B n c w o s))) = 7
      · rw [e] at h1
        exact absurd h1 pS_7
      · omega
    · rw [if_neg g] at h
      rw [if_neg g]
      exact ⟨tNdE_m h, by omega, fun k hk => by omega⟩
  obtain ⟨h3, h6, h7⟩ := h3
  have a1 : (tNdN B n 0 99 (tNdW B n 13 (tNdN B n 0 20 (tNdW B n 12 (tStd B n c (tBd0 B n c w o s)))))).2.1 = 0 := h3
  have a2 := tNdN_v a1
  have a3 := tNdN_v (tNdW_m (i := 13) (by decide) a2.1)
  have a4 : (tStd B n c (tBd0 B n c w o s)).2.1 = 0 := tNdW_m (i := 12) (by decide) a3.1
  have a5 := tStd_m a4
  have a6 : (tNmH B n 0 (c 1 - 1) (tNdN B n 0 (c 0 - 1) (tNdW B n 11 (tBd0 B n c w o s)))).2.1 = 0 := by
    unfold tStd at a4
    have a4 := tAdv_m a4
    split at a4
    · exact absurd a4 (tBlm_1 (by omega))
    · exact a4
  have a7 := tNmH_v a6
  have a8 := tNdN_v a7.2.1
  have a9 : (tBeh B n o s).2.1 = 0 := by
    unfold tBd0 at a5
    exact tAdv_m (tNew_m a5)
  exact ⟨h3, a5, tBeh_m a9, a8.2, a7.2.2, a3.2, a2.2, h6, h7⟩
theorem dr_band {s : TS3} {f : Int} {c w : Nat → Int} (C : DrC f c) (h : (stB B n s f c w).1.2.1 = 0) : DrX (stB B n s f c w) := by
  obtain ⟨h16, hw, c7, cp, ce, c8⟩ := C
  have hH := hw.1
  unfold stB at h ⊢
  by_cases g6 : c 3 = 6
  · rw [if_pos g6] at h
    exact absurd h (tBlm_1 (by omega))
  · rw [if_neg g6] at h ⊢
    have h : (bdS B n c w (hsO f 3) s).2.1 = 0 := h
    obtain ⟨_, _, h2, vx, vy, vs, vl, v6, ve⟩ := bd_v h
    obtain ⟨_, _, _, _, f5, f6⟩ := flg h16
    have nlt : ¬ f < 8 := fun q => h2.2 (f6.mpr q)
    show DrC f (bdC B n c w (hsO f 3) s)
    unfold bdC
    have en : ∀ k, k < bdN B n c w (hsO f 3) s → vEnt B n (nmF w 0 (c 2).toNat) (pS B n (nmF w 0 (c 2).toNat) k (tAdv B n (tB3 B n c (tBd0 B n c w (hsO f 3) s)))) = 6 ∨ (0 ≤ vEnt B n (nmF w 0 (c 2).toNat) (pS B n (nmF w 0 (c 2).toNat) k (tAdv B n (tB3 B n c (tBd0 B n c w (hsO f 3) s)))) ∧ vEnt B n (nmF w 0 (c 2).toNat) (pS B n (nmF w 0 (c 2).toNat) k (tAdv B n (tB3 B n c (tBd0 B n c w (hsO f 3) s)))) < c 2) := fun k hk => by
      have h1 : (pSt B n (nmF w 0 (c 2).toNat) k (pS B n (nmF w 0 (c 2).toNat) k (tAdv B n (tB3 B n c (tBd0 B n c w (hsO f 3) s))))).2.1 = 0 := ve k hk
      have h3 : (tEnt B n (nmF w 0 (c 2).toNat) (pS B n (nmF w 0 (c 2).toNat) k (tAdv B n (tB3 B n c (tBd0 B n c w (hsO f 3) s))))).2.1 = 0 := by
        have q := (pSt_m h1).2
        unfold pSt at h1
        rw [if_neg q] at h1
        exact tAdv_m h1
      rcases vEnt_en h3 with q | ⟨q, q2⟩
      · exact Or.inl q
      · have rg := nmF_rng w 0 (c 2).toNat (tWd B n (pS B n (nmF w 0 (c 2).toNat) k (tAdv B n (tB3 B n c (tBd0 B n c w (hsO f 3) s)))).1)
        rw [← q] at rg q2
        refine Or.inr ⟨by omega, ?_⟩
        have := hH.2.2.1
        omega
    generalize bdN B n c w (hsO f 3) s = len at *
    generalize tNm B n (tNdW B n 13 (tNdN B n 0 20 (tNdW B n 12 (tStd B n c (tBd0 B n c w (hsO f 3) s))))).1 = li at *
    generalize tNm B n (tNdW B n 12 (tStd B n c (tBd0 B n c w (hsO f 3) s))).1 = st at *
    generalize tNm B n (tNdN B n 0 (c 0 - 1) (tNdW B n 11 (tBd0 B n c w (hsO f 3) s))).1 = y at *
    generalize tNm B n (tNdW B n 11 (tBd0 B n c w (hsO f 3) s)).1 = x at *
    obtain ⟨ent, he⟩ : ∃ ent : Nat → Int, ent = fun k => vEnt B n (nmF w 0 (c 2).toNat) (pS B n (nmF w 0 (c 2).toNat) k (tAdv B n (tB3 B n c (tBd0 B n c w (hsO f 3) s)))) := ⟨_, rfl⟩
    have en : ∀ k, k < len → ent k = 6 ∨ (0 ≤ ent k ∧ ent k < c 2) := fun k hk => by rw [he]; exact en k hk
    rw [← he]
    obtain ⟨b, hb⟩ : ∃ b : Nat, c 3 = (b : Int) := ⟨(c 3).toNat, by omega⟩
    have hb2 : (c 3).toNat = b := by omega
    rw [hb2]
    have b6 : b < 6 := by omega
    clear ve h he
    have u : ∀ j, (j ≠ 3 ∧ j < 28) ∨ (58 ≤ j ∧ j < 64) ∨ 106 ≤ j → baC c b x y st li len ent j = c j := fun j hj => baC_ne (by omega) (by omega) (by omega) (by omega) (by omega) (by omega) (by omega) (by omega)
    refine ⟨h16, ⟨?_, fun t t0 t1 => ?_, fun d d0 d1 => ?_, fun k k0 k1 => ?_⟩, ⟨by rw [u 7 (by omega)]; exact c7.1, by rw [u 8 (by omega)]; exact c7.2.1, by rw [u 9 (by omega)]; exact c7.2.2⟩, fun d hd => by rw [u _ (by omega)]; exact cp d hd, ⟨by rw [u 136 (by omega)]; exact ce.1, by rw [u 137 (by omega)]; exact ce.2⟩, fun q => absurd q nlt⟩
    · unfold WH
      rw [u 0 (by omega), u 1 (by omega), u 2 (by omega), baC_3, u 4 (by omega), u 5 (by omega), u 6 (by omega), u 7 (by omega), u 8 (by omega), u 9 (by omega)]
      exact ⟨hH.1, hH.2.1, hH.2.2.1, by omega, hH.2.2.2.2⟩
    · rw [u 2 (by omega)] at t1
      unfold WTi
      rw [u (10 + t).toNat (by omega), u (16 + t).toNat (by omega), u (22 + t).toNat (by omega)]
      exact hw.2.1 t t0 t1
    · rw [baC_3] at d1
      by_cases e : d = (b : Int)
      · subst e
        have p0 := cp b b6
        refine ⟨?_, fun k k0 k1 => ?_⟩
        · unfold WDi
          rw [show (28 + (b : Int)).toNat = 28 + b by omega, show (34 + (b : Int)).toNat = 34 + b by omega, show (40 + (b : Int)).toNat = 40 + b by omega, show (46 + (b : Int)).toNat = 46 + b by omega, show (52 + (b : Int)).toNat = 52 + b by omega, show (58 + (b : Int)).toNat = 58 + b by omega, show (64 + (b : Int)).toNat = 64 + b by omega, baC_x b6, baC_y b6, baC_s b6, baC_l b6, baC_m b6, baC_n b6, u (58 + b) (by omega), u 0 (by omega), u 1 (by omega), p0]
          omega
        · rw [show (64 + (b : Int)).toNat = 64 + b by omega, baC_n b6] at k1
          obtain ⟨i, hi⟩ : ∃ i : Nat, k = (i : Int) := ⟨k.toNat, by omega⟩
          subst hi
          have q := en i (by omega)
          unfold enB
          rw [show (70 + 6 * (b : Int) + (i : Int)).toNat = 70 + 6 * b + i by omega, baC_e b6 (by omega), u 2 (by omega)]
          omega
      · have dd := hw.2.2.1 d d0 (by omega)
        have d1' := dd.1
        have v : ∀ j, (28 ≤ j ∧ j < 70) → j ≠ 28 + b → j ≠ 34 + b → j ≠ 40 + b → j ≠ 46 + b → j ≠ 52 + b → j ≠ 64 + b → baC c b x y st li len ent j = c j := fun j h0 h1 h2 h3 h4 h5 h6 => baC_ne (by omega) h1 h2 h3 h4 h5 h6 (by omega)
        refine ⟨?_, fun k k0 k1 => ?_⟩
        · unfold WDi
          rw [v (28 + d).toNat (by omega) (by omega) (by omega) (by omega) (by omega) (by omega) (by omega), v (34 + d).toNat (by omega) (by omega) (by omega) (by omega) (by omega) (by omega) (by omega), v (40 + d).toNat (by omega) (by omega) (by omega) (by omega) (by omega) (by omega) (by omega), v (46 + d).toNat (by omega) (by omega) (by omega) (by omega) (by omega) (by omega) (by omega), v (52 + d).toNat (by omega) (by omega) (by omega) (by omega) (by omega) (by omega) (by omega), u (58 + d).toNat (by omega), v (64 + d).toNat (by omega) (by omega) (by omega) (by omega) (by omega) (by omega) (by omega), u 0 (by omega), u 1 (by omega)]
          exact dd.1
        · rw [v (64 + d).toNat (by omega) (by omega) (by omega) (by omega) (by omega) (by omega) (by omega)] at k1
          unfold enB
          rw [baC_ne (k := (70 + 6 * d + k).toNat) (by omega) (by omega) (by omega) (by omega) (by omega) (by omega) (by omega) (by omega), u 2 (by omega)]
          exact dd.2 k k0 k1
    · rw [u (106 + k).toNat (by omega), u 0 (by omega), u 1 (by omega)]
      exact hw.2.2.2 k k0 k1
theorem dr_stp {X : PX} (C : DrX X) (h : (stp B n X).1.2.1 = 0) : DrX (stp B n X) := by
  unfold stp at h ⊢
  by_cases g0 : tKw B n X.1 = 0
  · rw [if_pos g0] at h ⊢; exact dr_size C h
  · rw [if_neg g0] at h ⊢
    by_cases g2 : tKw B n X.1 = 2
    · rw [if_pos g2] at h ⊢; exact dr_rule (i := 0) (by omega) (by decide) C h
    · rw [if_neg g2] at h ⊢
      by_cases g3 : tKw B n X.1 = 3
      · rw [if_pos g3] at h ⊢; exact dr_rule (i := 1) (by omega) (by decide) C h
      · rw [if_neg g3] at h ⊢
        by_cases g4 : tKw B n X.1 = 4
        · rw [if_pos g4] at h ⊢; exact dr_rule (i := 2) (by omega) (by decide) C h
        · rw [if_neg g4] at h ⊢
          by_cases g5 : tKw B n X.1 = 5
          · rw [if_pos g5] at h ⊢; exact dr_pond C h
          · rw [if_neg g5] at h ⊢
            by_cases g6 : tKw B n X.1 = 6
            · rw [if_pos g6] at h ⊢; exact dr_tune C h
            · rw [if_neg g6] at h ⊢
              by_cases g10 : tKw B n X.1 = 10
              · rw [if_pos g10] at h ⊢; exact dr_band C h
              · rw [if_neg g10] at h ⊢
                exact absurd h (tBlm_1 (by omega))
/-! the place rises -/
theorem pl_adv (s : TS3) : s.1 ≤ (tAdv B n s).1 := by
  unfold tAdv
  by_cases g : s.2.1 = 0
  · rw [if_pos g]
    show s.1 ≤ tEn B n s.1
    by_cases k : tKd B n s.1 = 0
    · have a := tAt_le (B := B) (n := n) s.1
      unfold tKd at k
      unfold tEn
      by_cases q : n ≤ tAt B n s.1
      · rw [if_pos q]; exact a
      · rw [if_neg q] at k
        exfalso
        split at k
        · exact absurd k (by decide)
        · split at k
          · split at k <;> exact absurd k (by decide)
          · split at k <;> exact absurd k (by decide)
    · exact Nat.le_of_lt (tEn_lt k)
  · rw [if_neg g]
    exact Nat.le_refl _
theorem pl_blm (k : Int) (s : TS3) : (tBlm B n k s).1 = s.1 := by
  unfold tBlm
  split <;> rfl
theorem pl_ndW (i : Int) (s : TS3) : s.1 ≤ (tNdW B n i s).1 := by
  unfold tNdW
  split
  · exact pl_adv s
  · rw [pl_blm]; exact Nat.le_refl _
theorem pl_nmH (lo hi : Int) (s : TS3) : (tNmH B n lo hi s).1 = s.1 := by
  unfold tNmH
  split
  · exact pl_blm _ _
  · split
    · exact pl_blm _ _
    · rfl
theorem pl_ndN (lo hi : Int) (s : TS3) : s.1 ≤ (tNdN B n lo hi s).1 := by
  have := pl_adv (B := B) (n := n) (tNmH B n lo hi s)
  rw [pl_nmH] at this
  exact this
theorem pl_naH (s : TS3) : (tNaH B n s).1 = s.1 := by
  unfold tNaH
  split
  · rfl
  · exact pl_blm _ _
theorem pl_ent (F : Int → Int) (s : TS3) : (tEnt B n F s).1 = s.1 := by
  unfold tEnt tTold
  split
  · rfl
  · split
    · rw [pl_blm, pl_naH]
    · rw [pl_naH]
theorem pl_once (o : Int) (s : TS3) : s.1 ≤ (tOnce B n o s).1 := by
  unfold tOnce
  split
  · exact pl_adv s
  · have := pl_adv (B := B) (n := n) (tBlm B n 5 s)
    rw [pl_blm] at this
    exact this
theorem pl_beh (o : Int) (s : TS3) : (tBeh B n o s).1 = s.1 := by
  unfold tBeh
  split
  · exact pl_blm _ _
  · rfl
theorem pl_new (G : Int → Int) (s : TS3) : s.1 ≤ (tNew B n G s).1 := by
  unfold tNew
  split
  · have := pl_adv (B := B) (n := n) (tNaH B n s)
    rw [pl_naH] at this
    exact this
  · have := pl_adv (B := B) (n := n) (tBlm B n 3 (tNaH B n s))
    rw [pl_blm, pl_naH] at this
    exact this
theorem pl_bts (s : TS3) : s.1 ≤ (tBts B n s).1 := by
  unfold tBts
  split
  · exact Nat.le_trans (pl_adv s) (pl_ndN _ _ _)
  · exact Nat.le_refl _
theorem pl_std (c : Nat → Int) (s : TS3) : s.1 ≤ (tStd B n c s).1 := by
  have a1 := pl_ndW (B := B) (n := n) 11 s
  have a2 := pl_ndN (B := B) (n := n) 0 (c 0 - 1) (tNdW B n 11 s)
  unfold tStd
  split
  · have := pl_adv (B := B) (n := n) (tBlm B n 5 (tNmH B n 0 (c 1 - 1) (tNdN B n 0 (c 0 - 1) (tNdW B n 11 s))))
    rw [pl_blm, pl_nmH] at this
    omega
  · have := pl_adv (B := B) (n := n) (tNmH B n 0 (c 1 - 1) (tNdN B n 0 (c 0 - 1) (tNdW B n 11 s)))
    rw [pl_nmH] at this
    omega
theorem pl_pS (F : Int → Int) (s : TS3) : ∀ j, s.1 ≤ (pS B n F j s).1
  | 0 => Nat.le_refl _
  | j + 1 => by
    have ih := pl_pS F s j
    show s.1 ≤ (pSt B n F j (pS B n F j s)).1
    unfold pSt
    split
    · have := pl_adv (B := B) (n := n) (tBlm B n 6 (tEnt B n F (pS B n F j s)))
      rw [pl_blm, pl_ent] at this
      omega
    · have := pl_adv (B := B) (n := n) (tEnt B n F (pS B n F j s))
      rw [pl_ent] at this
      omega
theorem pl_end {s : TS3} (h : (tNdE B n s).2.1 = 0) : s.1 < (tNdE B n s).1 := by
  unfold tNdE at h ⊢
  by_cases g : tSg B n 59 s = 1
  · rw [if_pos g]
    unfold tSg at g
    by_cases q : (s.2.1 = 0 ∧ tKd B n s.1 = 3) ∧ B (tAt B n s.1) = 59
    · unfold tAdv
      rw [if_pos q.1.1]
      exact tEn_lt (by rw [q.1.2]; decide)
    · rw [if_neg q] at g
      exact absurd g (by decide)
  · rw [if_neg g] at h
    exact absurd h (tBlm_1 (by omega))
theorem pl_stp {X : PX} (h : (stp B n X).1.2.1 = 0) : X.1.1 < (stp B n X).1.1 := by
  obtain ⟨s, f, c, w⟩ := X
  unfold stp at h ⊢
  dsimp only at h ⊢
  have rr : ∀ (i : Nat) (hi : Int), (stRu B n i hi s f c w).1.2.1 = 0 → s.1 < (stRu B n i hi s f c w).1.1 := fun i hi h => by
    have h : (tRule B n (hsO f i) hi s).2.1 = 0 := h
    show s.1 < (tRule B n (hsO f i) hi s).1
    unfold tRule at h ⊢
    have a1 := pl_end h
    have a2 := pl_ndN (B := B) (n := n) 0 hi (tOnce B n (hsO f i) s)
    have a3 := pl_once (B := B) (n := n) (hsO f i) s
    omega
  by_cases g0 : tKw B n s = 0
  · rw [if_pos g0] at h ⊢
    have h : (tSize B n (hsO f 3) s).2.1 = 0 := h
    show s.1 < (tSize B n (hsO f 3) s).1
    unfold tSize at h ⊢
    have a1 := pl_end h
    have a2 := pl_ndN (B := B) (n := n) 1 5 (tNdW B n 1 (tNdN B n 1 6 (tOnce B n (hsO f 3) s)))
    have a3 := pl_ndW (B := B) (n := n) 1 (tNdN B n 1 6 (tOnce B n (hsO f 3) s))
    have a4 := pl_ndN (B := B) (n := n) 1 6 (tOnce B n (hsO f 3) s)
    have a5 := pl_once (B := B) (n := n) (hsO f 3) s
    omega
  · rw [if_neg g0] at h ⊢
    by_cases g2 : tKw B n s = 2
    · rw [if_pos g2] at h ⊢; exact rr _ _ h
    · rw [if_neg g2] at h ⊢
      by_cases g3 : tKw B n s = 3
      · rw [if_pos g3] at h ⊢; exact rr _ _ h
      · rw [if_neg g3] at h ⊢
        by_cases g4 : tKw B n s = 4
        · rw [if_pos g4] at h ⊢; exact rr _ _ h
        · rw [if_neg g4] at h ⊢
          by_cases g5 : tKw B n s = 5
          · rw [if_pos g5] at h ⊢
            have h : (tPond B n (hsO f 3) (c 0) (c 1) s).2.1 = 0 := h
            show s.1 < (tPond B n (hsO f 3) (c 0) (c 1) s).1
            unfold tPond at h ⊢
            have a1 := pl_end h
            have a2 := pl_ndN (B := B) (n := n) 0 (c 1 - 1) (tNdN B n 0 (c 0 - 1) (tAdv B n (tBeh B n (hsO f 3) s)))
            have a3 := pl_ndN (B := B) (n := n) 0 (c 0 - 1) (tAdv B n (tBeh B n (hsO f 3) s))
            have a4 := pl_adv (B := B) (n := n) (tBeh B n (hsO f 3) s)
            rw [pl_beh] at a4
            omega
          · rw [if_neg g5] at h ⊢
            by_cases g6 : tKw B n s = 6
            · rw [if_pos g6] at h ⊢
              unfold stT at h ⊢
              by_cases e : c 2 = 6
              · rw [if_pos e] at h
                exact absurd h (tBlm_1 (by omega))
              · rw [if_neg e] at h ⊢
                have h : (tTune B n (nwG c w) s).2.1 = 0 := h
                show s.1 < (tTune B n (nwG c w) s).1
                unfold tTune at h ⊢
                have a1 := pl_end h
                generalize hs6 : tNdN B n 0 9 (tNdW B n 8 (tNdN B n 0 20 (tNdW B n 7 (tNew B n (nwG c w) (tAdv B n s))))) = s6 at *
                have a2 := pl_bts (B := B) (n := n) s6
                have a3 := pl_ndN (B := B) (n := n) 0 9 (tNdW B n 8 (tNdN B n 0 20 (tNdW B n 7 (tNew B n (nwG c w) (tAdv B n s)))))
                have a4 := pl_ndW (B := B) (n := n) 8 (tNdN B n 0 20 (tNdW B n 7 (tNew B n (nwG c w) (tAdv B n s))))
                have a5 := pl_ndN (B := B) (n := n) 0 20 (tNdW B n 7 (tNew B n (nwG c w) (tAdv B n s)))
                have a6 := pl_ndW (B := B) (n := n) 7 (tNew B n (nwG c w) (tAdv B n s))
                have a7 := pl_new (B := B) (n := n) (nwG c w) (tAdv B n s)
                have a8 := pl_adv (B := B) (n := n) s
                rw [hs6] at a3
                omega
            · rw [if_neg g6] at h ⊢
              by_cases g10 : tKw B n s = 10
              · rw [if_pos g10] at h ⊢
                unfold stB at h ⊢
                by_cases e : c 3 = 6
                · rw [if_pos e] at h
                  exact absurd h (tBlm_1 (by omega))
                · rw [if_neg e] at h ⊢
                  have h : (bdS B n c w (hsO f 3) s).2.1 = 0 := h
                  show s.1 < (bdS B n c w (hsO f 3) s).1
                  have a0 : s.1 ≤ (tBd0 B n c w (hsO f 3) s).1 := by
                    unfold tBd0
                    have b1 := pl_new (B := B) (n := n) (nwG c w) (tAdv B n (tBeh B n (hsO f 3) s))
                    have b2 := pl_adv (B := B) (n := n) (tBeh B n (hsO f 3) s)
                    rw [pl_beh] at b2
                    omega
                  have a3 : (tBd0 B n c w (hsO f 3) s).1 ≤ (tB3 B n c (tBd0 B n c w (hsO f 3) s)).1 := by
                    generalize tBd0 B n c w (hsO f 3) s = t
                    unfold tB3
                    have b1 := pl_std (B := B) (n := n) c t
                    have b2 := pl_ndW (B := B) (n := n) 12 (tStd B n c t)
                    have b3 := pl_ndN (B := B) (n := n) 0 20 (tNdW B n 12 (tStd B n c t))
                    have b4 := pl_ndW (B := B) (n := n) 13 (tNdN B n 0 20 (tNdW B n 12 (tStd B n c t)))
                    have b5 := pl_ndN (B := B) (n := n) 0 99 (tNdW B n 13 (tNdN B n 0 20 (tNdW B n 12 (tStd B n c t))))
                    omega
                  unfold bdS at h ⊢
                  split at h
                  · rename_i q
                    rw [if_pos q]
                    have b1 := pl_end h
                    have b2 := pl_pS (B := B) (n := n) (nmF w 0 (c 2).toNat) (tAdv B n (tB3 B n c (tBd0 B n c w (hsO f 3) s))) (pJ B n (nmF w 0 (c 2).toNat) (tAdv B n (tB3 B n c (tBd0 B n c w (hsO f 3) s))))
                    have b3 := pl_adv (B := B) (n := n) (tB3 B n c (tBd0 B n c w (hsO f 3) s))
                    omega
                  · rename_i q
                    rw [if_neg q]
                    have b1 := pl_end h
                    omega
              · rw [if_neg g10] at h ⊢
                exact absurd h (tBlm_1 (by omega))
end PM
/-! a PARK, part by part: the class -/
theorem P48 : isP 48 := Or.inr (Or.inl rfl)
section PN
variable {B : Nat → Int} {n : Nat} {σ : SS}
def CsF (σ σ' : SS) : Prop := (∀ x, x ≠ 2 → x ≠ 47 → ¬ (48 ≤ x ∧ x ≤ 76) → σ' x = σ x) ∧ (∀ k, k ≤ 1 ∨ k = 4 ∨ k = 5 ∨ 12 ≤ k → σ' 2 k = σ 2 k) ∧ σ' 48 14 = σ 48 14
theorem CsF_r (σ : SS) : CsF σ σ := ⟨fun _ _ _ _ => rfl, fun _ _ => rfl, rfl⟩
theorem CsF_t {σ1 σ2 : SS} (h : CsF σ σ1) (h2 : CsF σ1 σ2) : CsF σ σ2 := ⟨fun x a b d => by rw [h2.1 x a b d, h.1 x a b d], fun k hk => by rw [h2.2.1 k hk, h.2.1 k hk], by rw [h2.2.2, h.2.2]⟩
theorem CsF_p {σ1 : SS} (h : TpF σ σ1) : CsF σ σ1 := ⟨fun x a _ _ => h.1 x a, h.2, by rw [h.1 48 (by omega)]⟩
def DrS (f : Int) (c w : Nat → Int) (σ : SS) : Prop := σ 47 2 = tcF f ∧ PkS σ 48 c w ∧ (f < 8 → ∀ k, k < 30 → σ 49 k = 0) ∧ σ 52 0 = 0 ∧ σ 52 1 = 0
def CsP (B : Nat → Int) (n : Nat) (X : PX) (σ σ' : SS) : Prop := TpS B n X.1 σ' ∧ CsF σ σ' ∧ (X.1.2.1 = 0 → DrS X.2.1 X.2.2.1 X.2.2.2 σ')
variable {s : TS3} {f : Int} {c w : Nat → Int}
theorem cs_size (T : TpS B n s σ) (D : DrS f c w σ) (C : DrC f c) : Wd (F_X4_readSize 47 σ) (fun _ σ' => CsP B n (stZ B n s f c w) σ σ') := by
  have sz := c_size P48 rfl rf_47_0 T D.1
  have dz := dr_size (B := B) (n := n) (s := s) (w := w) C
  obtain ⟨h16, hw, c7, cp, ce, c8⟩ := C
  obtain ⟨f1, _, _, _, f5, f6⟩ := flg h16
  obtain ⟨fa, fo, f3, f4⟩ := flP_1 f1
  have te := tOnce_o (B := B) (n := n) fa s
  have tz : tSize B n (andI (tcF f) (shlI 1 0)) s = tSize B n (hsO f 3) s := by unfold tSize; rw [te]
  rw [tz, te, fo] at sz
  refine Wd_mono sz (fun r σ1 h => ?_)
  obtain ⟨T1, x1, x2, x3, x4, x5⟩ := h
  refine ⟨T1, ⟨fun x a b d => x1 x a b (by omega), x2, x4 14 (by omega)⟩, fun g => ?_⟩
  have W2 := (dz g).2.1
  obtain ⟨y0, y1⟩ := x5 g
  have h : (tSize B n (hsO f 3) s).2.1 = 0 := g
  unfold tSize at h
  have h4 : (tNdN B n 1 6 (tOnce B n (hsO f 3) s)).2.1 = 0 := tNdW_m (i := 1) (by decide) (tNdN_m (tNdE_m h))
  have h3 := tOnce_m (tNdN_m h4)
  have lt := f6.mp h3.2
  obtain ⟨z0, z1⟩ := c8 lt
  obtain ⟨D1, P, D3, D4, D5⟩ := D
  have W2 : WB (szC c (tNm B n (tOnce B n (hsO f 3) s).1) (tNm B n (tNdW B n 1 (tNdN B n 1 6 (tOnce B n (hsO f 3) s))).1)) := W2
  show DrS (orI f (shlI 1 3)) (szC c (tNm B n (tOnce B n (hsO f 3) s).1) (tNm B n (tNdW B n 1 (tNdN B n 1 6 (tOnce B n (hsO f 3) s))).1)) w σ1
  generalize tNm B n (tNdW B n 1 (tNdN B n 1 6 (tOnce B n (hsO f 3) s))).1 = vd at *
  generalize tNm B n (tOnce B n (hsO f 3) s).1 = vw at *
  refine ⟨x3, ⟨?_, fun t ht => ?_, fun b hb => ?_, fun k hk => ?_⟩, fun q => ?_, ?_, ?_⟩
  · unfold kH
    rw [szC_0, szC_1, szC_ne (j := 4) (by omega), szC_ne (j := 5) (by omega), szC_ne (j := 6) (by omega), szC_ne (j := 7) (by omega), szC_ne (j := 8) (by omega), szC_ne (j := 9) (by omega), szC_ne (j := 2) (by omega), szC_ne (j := 3) (by omega), x4 2 (by omega), x4 3 (by omega), x4 4 (by omega), x4 5 (by omega), x4 6 (by omega), x4 7 (by omega), x4 9 (by omega), x4 11 (by omega)]
    exact ⟨y0, y1, P.1.2.2⟩
  · rw [szC_ne (by omega)] at ht
    rw [x1 (48 + 11 + t) (by omega) (by omega) (by omega), szC_ne (j := (10 + (t : Int)).toNat) (by omega), szC_ne (j := (16 + (t : Int)).toNat) (by omega), szC_ne (j := (22 + (t : Int)).toNat) (by omega)]
    exact P.2.1 t ht
  · exfalso
    rw [szC_ne (by omega)] at hb
    have d := (hw.2.2.1 b (by omega) hb).1.1
    omega
  · obtain ⟨v1, v2, v3, v4⟩ := cell_rng W2.1 hk
    unfold pondB
    rw [szC_0] at v1 v2 v3 ⊢
    rw [szC_1] at v3
    rw [x1 (48 + 1) (by omega) (by omega) (by omega), D3 lt k v4]
    have q := (hw.2.2.2 (6 * ((k : Int) / vw) + (k : Int) % vw) (by omega) (by have := W2.1.1; have := W2.1.2.1; rw [szC_0] at *; rw [szC_1] at *; omega)).2 (by omega)
    rw [szC_ne (by omega), show (106 + 6 * ((k : Int) / vw) + (k : Int) % vw).toNat = (106 + (6 * ((k : Int) / vw) + (k : Int) % vw)).toNat by omega, q]
  · have := f4.mp q
    omega
  · rw [x1 52 (by omega) (by omega) (by omega)]; exact D4
  · rw [x1 52 (by omega) (by omega) (by omega)]; exact D5
theorem cs_rule {i : Nat} (i3 : i < 3) {iw : Int} (hiw : iw = 2 + (i : Int)) (hi : Int) (T : TpS B n s σ) (D : DrS f c w σ) (C : DrC f c) : Wd (F_X4_readRule 47 iw hi σ) (fun r σ1 => CsP B n (stRu B n i hi s f c w) σ (ups σ1 48 (2 + i) r)) := by
  have ru := c_rule T D.1 iw hi
  obtain ⟨h16, hw, c7, cp, ce, c8⟩ := C
  obtain ⟨_, f1, f2, f3, f5, f6⟩ := flg h16
  have ff : (andI (tcF f) (shlI 1 iw) = 0 ↔ hsO f i = 0) ∧ orI (tcF f) (shlI 1 iw) = tcF (orI f (shlI 1 i)) ∧ (orI f (shlI 1 i) < 8 → f < 8) := by
    have : i = 0 ∨ i = 1 ∨ i = 2 := by omega
    rcases this with e | e | e <;> subst e <;> subst hiw
    · obtain ⟨a1, a2, a3, a4⟩ := flP_1 f1; exact ⟨a1, a2, fun q => (a4.mp q).1⟩
    · obtain ⟨a1, a2, a3, a4⟩ := flP_1 f2; exact ⟨a1, a2, fun q => (a4.mp q).1⟩
    · obtain ⟨a1, a2, a3, a4⟩ := flP_1 f3; exact ⟨a1, a2, fun q => (a4.mp q).1⟩
  have te := tOnce_o (B := B) (n := n) ff.1 s
  have tz : tRule B n (andI (tcF f) (shlI 1 iw)) hi s = tRule B n (hsO f i) hi s := by unfold tRule; rw [te]
  rw [tz, te, ff.2.1] at ru
  refine Wd_mono ru (fun r σ1 h => ?_)
  obtain ⟨⟨T1, x1, x2, x3⟩, x4⟩ := h
  obtain ⟨D1, P, D3, D4, D5⟩ := D
  refine ⟨TpS_u T1 (by omega) _ _, ⟨fun x a b d => ?_, fun k hk => ?_, ?_⟩, fun g => ?_⟩
  · rw [upsA (by omega)]; exact x1 x a b
  · rw [upsA (by omega)]; exact x2 k hk
  · rw [upsN (by omega)]; rw [x1 48 (by omega) (by omega)]
  · have er := x4 g
    show DrS (orI f (shlI 1 i)) (upc c (4 + i) (tNm B n (tOnce B n (hsO f i) s).1)) w (ups σ1 48 (2 + i) r)
    rw [← er]
    have u : ∀ j, j < 4 ∨ 7 ≤ j → upc c (4 + i) r j = c j := fun j hj => upc_ne (by omega)
    have hH := hw.1
    have o : ∀ x, x ≠ 2 → x ≠ 47 → x ≠ 48 → ups σ1 48 (2 + i) r x = σ x := fun x a b d => by rw [upsA d]; exact x1 x a b
    have o8 : ∀ k, k ≠ 2 + i → ups σ1 48 (2 + i) r 48 k = σ 48 k := fun k hk => by rw [upsN hk, x1 48 (by omega) (by omega)]
    refine ⟨?_, ⟨?_, fun t ht => ?_, fun b hb => ?_, fun k hk => ?_⟩, fun q k hk => ?_, ?_, ?_⟩
    · rw [upsA (by omega)]; exact x3
    · have : i = 0 ∨ i = 1 ∨ i = 2 := by omega
      unfold kH
      rw [u 0 (by omega), u 1 (by omega), u 2 (by omega), u 3 (by omega), u 7 (by omega), u 8 (by omega), u 9 (by omega), o8 0 (by omega), o8 1 (by omega), o8 5 (by omega), o8 6 (by omega), o8 7 (by omega), o8 9 (by omega), o8 11 (by omega)]
      have pp := P.1
      rcases this with e | e | e <;> subst e
      · rw [o8 3 (by omega), o8 4 (by omega), show upc c (4 + 0) r 4 = r from upc_same _ _ _, upc_ne (j := 5) (by omega), upc_ne (j := 6) (by omega), show ups σ1 48 (2 + 0) r 48 2 = r from ups_11]
        exact ⟨pp.1, pp.2.1, rfl, pp.2.2.2⟩
      · rw [o8 2 (by omega), o8 4 (by omega), show upc c (4 + 1) r 5 = r from upc_same _ _ _, upc_ne (j := 4) (by omega), upc_ne (j := 6) (by omega), show ups σ1 48 (2 + 1) r 48 3 = r from ups_11]
        exact ⟨pp.1, pp.2.1, pp.2.2.1, rfl, pp.2.2.2.2⟩
      · rw [o8 2 (by omega), o8 3 (by omega), show upc c (4 + 2) r 6 = r from upc_same _ _ _, upc_ne (j := 4) (by omega), upc_ne (j := 5) (by omega), show ups σ1 48 (2 + 2) r 48 4 = r from ups_11]
        exact ⟨pp.1, pp.2.1, pp.2.2.1, pp.2.2.2.1, rfl, pp.2.2.2.2.2⟩
    · rw [u 2 (by omega)] at ht
      rw [o (48 + 11 + t) (by omega) (by omega) (by omega), u (10 + (t : Int)).toNat (by omega), u (16 + (t : Int)).toNat (by omega), u (22 + (t : Int)).toNat (by omega)]
      exact P.2.1 t ht
    · rw [u 3 (by omega)] at hb
      rw [o (48 + 17 + 2 * b) (by omega) (by omega) (by omega), o (48 + 18 + 2 * b) (by omega) (by omega) (by omega), u (28 + (b : Int)).toNat (by omega), u (34 + (b : Int)).toNat (by omega), u (40 + (b : Int)).toNat (by omega), u (46 + (b : Int)).toNat (by omega), u (52 + (b : Int)).toNat (by omega), u (58 + (b : Int)).toNat (by omega), u (64 + (b : Int)).toNat (by omega)]
      refine ⟨(P.2.2.1 b hb).1, fun k hk => ?_⟩
      rw [u _ (by omega)]
      exact (P.2.2.1 b hb).2 k hk
    · rw [u 0 (by omega), u 1 (by omega)] at hk
      obtain ⟨v1, v2, v3, v4⟩ := cell_rng hH hk
      unfold pondB
      rw [u 0 (by omega), o (48 + 1) (by omega) (by omega) (by omega), u _ (by omega)]
      exact P.2.2.2 k hk
    · rw [o 49 (by omega) (by omega) (by omega)]
      exact D3 (ff.2.2 q) k hk
    · rw [o 52 (by omega) (by omega) (by omega)]; exact D4
    · rw [o 52 (by omega) (by omega) (by omega)]; exact D5
theorem fl_beh (h : 0 ≤ f ∧ f < 16) : andI (tcF f) 1 = 0 ↔ hsO f 3 = 0 := by
  obtain ⟨_, _, _, _, f5, f6⟩ := flg h
  rw [f5, f6]
theorem cs_pond (T : TpS B n s σ) (D : DrS f c w σ) (C : DrC f c) : Wd (F_X4_readPond 47 σ) (fun _ σ' => CsP B n (stPo B n s f c w) σ σ') := by
  obtain ⟨h16, hw, c7, cp, ce, c8⟩ := C
  have pd := c_pond P48 rfl rf_47_0 D.2.1 hw.1 T D.1
  have te := tBeh_o (B := B) (n := n) (fl_beh h16) s
  have tz : tPond B n (andI (tcF f) 1) (c 0) (c 1) s = tPond B n (hsO f 3) (c 0) (c 1) s := by unfold tPond; rw [te]
  rw [tz, te] at pd
  refine Wd_mono pd (fun r σ1 h => ?_)
  obtain ⟨T1, x1, x2, x3⟩ := h
  refine ⟨T1, ⟨fun x a b d => x1 x a (by omega), x2, by rw [x1 48 (by omega) (by omega)]⟩, fun g => ?_⟩
  have y := x3 g
  have h : (tPond B n (hsO f 3) (c 0) (c 1) s).2.1 = 0 := g
  unfold tPond at h
  have h5 := tNdE_m h
  have v5 := (tNdN_v h5).2
  have h4 := tNdN_m h5
  have v4 := (tNdN_v h4).2
  have h3 := tBeh_m (tAdv_m (tNdN_m h4))
  have nlt : ¬ f < 8 := fun q => h3.2 ((flg h16).2.2.2.2.2.mpr q)
  obtain ⟨D1, P, D3, D4, D5⟩ := D
  show DrS f (upc c (106 + 6 * tNm B n (tNdN B n 0 (c 0 - 1) (tAdv B n (tBeh B n (hsO f 3) s))).1 + tNm B n (tAdv B n (tBeh B n (hsO f 3) s)).1).toNat 1) w σ1
  generalize tNm B n (tNdN B n 0 (c 0 - 1) (tAdv B n (tBeh B n (hsO f 3) s))).1 = yy at *
  generalize tNm B n (tAdv B n (tBeh B n (hsO f 3) s)).1 = xx at *
  obtain ⟨k, k1, k2, k3, k4⟩ := field_cell hw.1 (x := xx) (y := yy) (by omega)
  rw [k1] at y
  have y : σ1 (48 + 1) = ups σ (48 + 1) k 1 (48 + 1) := y
  have PP := PkS_upP hw.1 hw.2.2.1 P k2 k3 k4 1
  have WW : WH (upc c (106 + 6 * yy + xx).toNat 1) := WH_cc (fun j hj => upc_ne (by omega)) hw.1
  refine ⟨by rw [x1 47 (by omega) (by omega)]; exact D1, PkS_c WW (fun j _ => ?_) (fun x h1 h2 => ?_) PP, fun q => absurd q nlt, by rw [x1 52 (by omega) (by omega)]; exact D4, by rw [x1 52 (by omega) (by omega)]; exact D5⟩
  · rw [x1 48 (by omega) (by omega)]; try simp (disch := omega) only [ups_11, upsN, upsA, upA_same, upA_neA, fl_at, fl_neA]
  · by_cases e : x = 48 + 1
    · subst e; exact y
    · rw [x1 x (by omega) e]
      try simp (disch := omega) only [ups_11, upsN, upsA, upA_same, upA_neA, fl_at, fl_neA]
theorem cs_tune (T : TpS B n s σ) (D : DrS f c w σ) (C : DrC f c) : Wd (F_X4_readTune 47 σ) (fun _ σ' => CsP B n (stT B n s f c w) σ σ') := by
  obtain ⟨h16, hw, c7, cp, ce, c8⟩ := C
  have hH := hw.1
  obtain ⟨D1, P, D3, D4, D5⟩ := D
  unfold stT
  by_cases g6 : c 2 = 6
  · rw [if_pos g6]
    have e9 : σ 48 9 = 6 := by rw [← g6]; exact P.1.2.2.2.2.2.2.2.2.1
    refine Wd_mono (c_tune6 P48 rfl rf_47_0 e9 T) (fun r σ1 h => ?_)
    exact ⟨h.1, CsF_p h.2.1, fun g => absurd g (tBlm_1 (by omega))⟩
  · rw [if_neg g6]
    obtain ⟨m, hm⟩ : ∃ m : Nat, c 2 = (m : Int) := ⟨(c 2).toNat, by omega⟩
    have hm2 : (c 2).toNat = m := by omega
    have m6 : m < 6 := by omega
    have tu := c_tune P48 rfl rf_47_0 P hH hm m6 T
    rw [hm2]
    refine Wd_mono tu (fun r σ1 h => ?_)
    obtain ⟨T1, x1, x2, x3, x4, x5⟩ := h
    refine ⟨T1, ⟨fun x a b d => x1 x a (by omega) (by omega), x2, x3 14 (by omega)⟩, fun g => ?_⟩
    obtain ⟨y0, y1, y2, y3⟩ := x5 g
    show DrS f (tuC c m (vLoud B n (nwG c w) s) (vToll B n (nwG c w) s) (vBeat B n (nwG c w) s)) (upc w m (tWd B n (tAdv B n s).1)) σ1
    generalize vLoud B n (nwG c w) s = lo at *
    generalize vToll B n (nwG c w) s = tl at *
    generalize vBeat B n (nwG c w) s = be at *
    generalize tWd B n (tAdv B n s).1 = v0 at *
    have u : ∀ j, j < 10 ∨ 28 ≤ j → j ≠ 2 → tuC c m lo tl be j = c j := fun j hj h2 => tuC_ne (by omega) (by omega) (by omega) h2
    refine ⟨by rw [x1 47 (by omega) (by omega) (by omega)]; exact D1, ⟨?_, fun t ht => ?_, fun b hb => ?_, fun k hk => ?_⟩, fun q k hk => by rw [x1 49 (by omega) (by omega) (by omega)]; exact D3 q k hk, by rw [x1 52 (by omega) (by omega) (by omega)]; exact D4, by rw [x1 52 (by omega) (by omega) (by omega)]; exact D5⟩
    · unfold kH
      rw [u 0 (by omega) (by omega), u 1 (by omega) (by omega), tuC_m, u 3 (by omega) (by omega), u 4 (by omega) (by omega), u 5 (by omega) (by omega), u 6 (by omega) (by omega), u 7 (by omega) (by omega), u 8 (by omega) (by omega), u 9 (by omega) (by omega), x3 0 (by omega), x3 1 (by omega), x3 2 (by omega), x3 3 (by omega), x3 4 (by omega), x3 5 (by omega), x3 6 (by omega), x3 7 (by omega), x3 11 (by omega), x4]
      have pp := P.1
      exact ⟨pp.1, pp.2.1, pp.2.2.1, pp.2.2.2.1, pp.2.2.2.2.1, pp.2.2.2.2.2.1, pp.2.2.2.2.2.2.1, pp.2.2.2.2.2.2.2.1, rfl, pp.2.2.2.2.2.2.2.2.2⟩
    · rw [tuC_m] at ht
      by_cases e : t = m
      · subst e
        rw [show (10 + (t : Int)).toNat = 10 + t by omega, show (16 + (t : Int)).toNat = 16 + t by omega, show (22 + (t : Int)).toNat = 22 + t by omega, tuC_1, tuC_2, tuC_3, upc_same]
        exact ⟨y0, y1, y2, y3⟩
      · rw [x1 (48 + 11 + t) (by omega) (by omega) (by omega), tuC_ne (j := (10 + (t : Int)).toNat) (by omega) (by omega) (by omega) (by omega), tuC_ne (j := (16 + (t : Int)).toNat) (by omega) (by omega) (by omega) (by omega), tuC_ne (j := (22 + (t : Int)).toNat) (by omega) (by omega) (by omega) (by omega), upc_ne e]
        exact P.2.1 t (by omega)
    · rw [u 3 (by omega) (by omega)] at hb
      rw [x1 (48 + 17 + 2 * b) (by omega) (by omega) (by omega), x1 (48 + 18 + 2 * b) (by omega) (by omega) (by omega), u (28 + (b : Int)).toNat (by omega) (by omega), u (34 + (b : Int)).toNat (by omega) (by omega), u (40 + (b : Int)).toNat (by omega) (by omega), u (46 + (b : Int)).toNat (by omega) (by omega), u (52 + (b : Int)).toNat (by omega) (by omega), u (58 + (b : Int)).toNat (by omega) (by omega), u (64 + (b : Int)).toNat (by omega) (by omega), upc_ne (j := 6 + b) (by omega)]
      refine ⟨(P.2.2.1 b hb).1, fun k hk => ?_⟩
      rw [u _ (by omega) (by omega)]
      exact (P.2.2.1 b hb).2 k hk
    · rw [u 0 (by omega) (by omega), u 1 (by omega) (by omega)] at hk
      obtain ⟨v1, v2, v3, v4⟩ := cell_rng hH hk
      unfold pondB
      rw [u 0 (by omega) (by omega), x1 (48 + 1) (by omega) (by omega) (by omega), u _ (by omega) (by omega)]
      exact P.2.2.2 k hk
theorem c_band6 {t : Int} (e11 : σ 48 11 = 6) (T : TpS B n s σ) (et : σ 47 2 = t) : Wd (F_X4_readBand 47 σ) (TpQ B n (tBlm B n 6 (tBeh B n (andI t 1) s)) 0 σ) := by
  have be := c_beh T et
  have pa := P_a P48
  clear T
  try simp (disch := omega) only [w_iff, iffM_t, iffM_f, iffM_d, iffM_nd, iffM_0, iffM_ite, Wd_iffM, iffM_v, w_tern, ternM_t, ternM_f, ternM_d, ternM_nd, ternM_0, ternM_ite, Wd_ternM, ternM_v, w_sw, swX_1, Wd_swX, Bool.not_true, Bool.not_false, F_X4_readBand, B_X4_readBand, sh_47, rf_47_1, sh_2, Wd_some, Wd_bn, Wd_sqM, Wd_outV, Wd_blkM, Wd_swM, Wd_ite, Wd_map, v_kS_0, v_kS_b, v_kS_r, v_kO_r, v_kW_0, v_kW_1, v_kW_2, v_kW_r, v_kL_0, v_kL_1, v_kL_2, v_kL_r, v_kU_0, ups_11, upsN, upsA, upA_same, upA_neA, fl_at, fl_neA, v_sq_eq, v_sqM_0, v_sqM_r, v_sqM_b, v_sqM_n, sqM_ite, v_asI, v_asR, v_inc, v_pfI, v_pfZ, v_pfO, v_paI, v_paO, v_exI,  v_rtI, v_rtZ, v_rtV, v_sk, v_brk, v_cnt, v_blk_eq, v_blkM_some, blkM_ite, v_lI, v_lR, v_cI, v_gI, v_gR, v_op1, v_op2, v_arI, v_arR, v_alen,  v_cmp1, v_cmp2, v_cAnd, v_cOr, v_cNot, v_cTern, v_bn_some, bn_ite, v_bn_none, v_outV_r, v_outV_0, v_outV_n, outV_ite, List.getD_cons_zero, List.getD_cons_succ, List.set_cons_zero, List.set_cons_succ, List.take_succ_cons, List.take_zero, List.drop_succ_cons, List.drop_zero, List.nil_append, List.cons_append, Option.map_some, Option.map_none, if_true, if_false, ↓reduceIte, reduceCtorEq, decide_eq_true_eq, Bool.not_eq_true', decide_eq_false_iff_not, decide_eq_true, decide_eq_false, decide_true, decide_false, and_self, and_true, true_and, or_self, stO, v_caV_, v_caV_i, v_caV_ii, v_caV_iii, v_caV_iiii, v_caV_iiiii, v_caV_il, v_caV_iil, v_caV_l, v_caV_ll, v_caV_r, v_caV_ri, v_caV_rii, v_caV_riii, v_caV_riiii, v_caV_ir, v_caV_iri, v_caV_iiri, v_caS_i, v_caS_ii, v_caS_iii, v_caS_iiii, v_caS_iiiiii, v_caS_il, v_caS_li, v_caS_ll, v_caS_lll, v_caS_ri, v_caS_riii, sh_239, sh_240, sh_241, sh_242, sh_243, sh_244, sh_245, sh_246, sh_247, sh_248, sh_249, sh_250, sh_251, sh_252, sh_253, rf_239_4, rf_239_5, rf_239_6, rf_239_7, rf_239_20, rf_239_21, rf_239_22, rf_239_23, rf_239_27, rf_239_28, rf_239_32, rf_239_33, rf_239_34, rf_239_35, Int.reduceLE, Int.reduceLT, Int.reduceToNat, Int.reduceAdd, Int.reduceSub, Int.reduceMul, Int.reduceNeg, Int.reduceEq, Int.reduceNe, Nat.reduceAdd, Nat.reduceMul, Nat.reduceLT, Nat.reduceEqDiff, or_true, true_or, or_false, false_or, and_false, false_and, not_true_eq_false, not_false_eq_true, ne_eq, cN4, cN5, cN6, cN7, cN13, cN30, cN60, cN64, cN100, cN136, cN240, cN384, cN900, cN2040, cN3,  v_swM_0, v_swM_1, v_swM_r, v_swM_n, swM_ite, app_ite, ex_some, bI_0, bI_1, nn_iff, Int.toNat_natCast, Int.toNat_of_nonneg, Int.natCast_add, cN1, wI_id2, wL_id2, ↓if_pos, ↓if_neg, if_pos, if_neg]
  refine Wd_mono be (fun r1 σ1 h1 => ?_)
  obtain ⟨T1, F1, _⟩ := h1
  have e111 : σ1 48 11 = 6 := by rw [F1.1 48 (by omega)]; exact e11
  have bl := c_blm T1 (k := 6) (by omega)
  clear T1
  try simp (disch := omega) only [w_iff, iffM_t, iffM_f, iffM_d, iffM_nd, iffM_0, iffM_ite, Wd_iffM, iffM_v, w_tern, ternM_t, ternM_f, ternM_d, ternM_nd, ternM_0, ternM_ite, Wd_ternM, ternM_v, w_sw, swX_1, Wd_swX, Bool.not_true, Bool.not_false, sh_47, rf_47_0, rf_47_1, sh_2, pa, e111, Wd_some, Wd_bn, Wd_sqM, Wd_outV, Wd_blkM, Wd_swM, Wd_ite, Wd_map, v_kS_0, v_kS_b, v_kS_r, v_kO_r, v_kW_0, v_kW_1, v_kW_2, v_kW_r, v_kL_0, v_kL_1, v_kL_2, v_kL_r, v_kU_0, ups_11, upsN, upsA, upA_same, upA_neA, fl_at, fl_neA, v_sq_eq, v_sqM_0, v_sqM_r, v_sqM_b, v_sqM_n, sqM_ite, v_asI, v_asR, v_inc, v_pfI, v_pfZ, v_pfO, v_paI, v_paO, v_exI,  v_rtI, v_rtZ, v_rtV, v_sk, v_brk, v_cnt, v_blk_eq, v_blkM_some, blkM_ite, v_lI, v_lR, v_cI, v_gI, v_gR, v_op1, v_op2, v_arI, v_arR, v_alen,  v_cmp1, v_cmp2, v_cAnd, v_cOr, v_cNot, v_cTern, v_bn_some, bn_ite, v_bn_none, v_outV_r, v_outV_0, v_outV_n, outV_ite, List.getD_cons_zero, List.getD_cons_succ, List.set_cons_zero, List.set_cons_succ, List.take_succ_cons, List.take_zero, List.drop_succ_cons, List.drop_zero, List.nil_append, List.cons_append, Option.map_some, Option.map_none, if_true, if_false, ↓reduceIte, reduceCtorEq, decide_eq_true_eq, Bool.not_eq_true', decide_eq_false_iff_not, decide_eq_true, decide_eq_false, decide_true, decide_false, and_self, and_true, true_and, or_self, stO, v_caV_, v_caV_i, v_caV_ii, v_caV_iii, v_caV_iiii, v_caV_iiiii, v_caV_il, v_caV_iil, v_caV_l, v_caV_ll, v_caV_r, v_caV_ri, v_caV_rii, v_caV_riii, v_caV_riiii, v_caV_ir, v_caV_iri, v_caV_iiri, v_caS_i, v_caS_ii, v_caS_iii, v_caS_iiii, v_caS_iiiiii, v_caS_il, v_caS_li, v_caS_ll, v_caS_lll, v_caS_ri, v_caS_riii, sh_239, sh_240, sh_241, sh_242, sh_243, sh_244, sh_245, sh_246, sh_247, sh_248, sh_249, sh_250, sh_251, sh_252, sh_253, rf_239_4, rf_239_5, rf_239_6, rf_239_7, rf_239_20, rf_239_21, rf_239_22, rf_239_23, rf_239_27, rf_239_28, rf_239_32, rf_239_33, rf_239_34, rf_239_35, Int.reduceLE, Int.reduceLT, Int.reduceToNat, Int.reduceAdd, Int.reduceSub, Int.reduceMul, Int.reduceNeg, Int.reduceEq, Int.reduceNe, Nat.reduceAdd, Nat.reduceMul, Nat.reduceLT, Nat.reduceEqDiff, or_true, true_or, or_false, false_or, and_false, false_and, not_true_eq_false, not_false_eq_true, ne_eq, cN4, cN5, cN6, cN7, cN13, cN30, cN60, cN64, cN100, cN136, cN240, cN384, cN900, cN2040, cN3,  v_swM_0, v_swM_1, v_swM_r, v_swM_n, swM_ite, app_ite, ex_some, bI_0, bI_1, nn_iff, Int.toNat_natCast, Int.toNat_of_nonneg, Int.natCast_add, cN1, wI_id2, wL_id2, ↓if_pos, ↓if_neg, if_pos, if_neg]
  refine Wd_mono bl (fun r2 σ2 h2 => ?_)
  have po : TpQ B n (tBlm B n 6 (tBeh B n (andI t 1) s)) 0 σ 0 σ2 := ⟨h2.1, TpF_t F1 h2.2.1, fun _ => rfl⟩
  try simp (disch := omega) only [w_iff, iffM_t, iffM_f, iffM_d, iffM_nd, iffM_0, iffM_ite, Wd_iffM, iffM_v, w_tern, ternM_t, ternM_f, ternM_d, ternM_nd, ternM_0, ternM_ite, Wd_ternM, ternM_v, w_sw, swX_1, Wd_swX, Bool.not_true, Bool.not_false, Wd_some, Wd_bn, Wd_sqM, Wd_outV, Wd_blkM, Wd_swM, Wd_ite, Wd_map, v_kS_0, v_kS_b, v_kS_r, v_kO_r, v_kW_0, v_kW_1, v_kW_2, v_kW_r, v_kL_0, v_kL_1, v_kL_2, v_kL_r, v_kU_0, ups_11, upsN, upsA, upA_same, upA_neA, fl_at, fl_neA, v_sq_eq, v_sqM_0, v_sqM_r, v_sqM_b, v_sqM_n, sqM_ite, v_asI, v_asR, v_inc, v_pfI, v_pfZ, v_pfO, v_paI, v_paO, v_exI,  v_rtI, v_rtZ, v_rtV, v_sk, v_brk, v_cnt, v_blk_eq, v_blkM_some, blkM_ite, v_lI, v_lR, v_cI, v_gI, v_gR, v_op1, v_op2, v_arI, v_arR, v_alen,  v_cmp1, v_cmp2, v_cAnd, v_cOr, v_cNot, v_cTern, v_bn_some, bn_ite, v_bn_none, v_outV_r, v_outV_0, v_outV_n, outV_ite, List.getD_cons_zero, List.getD_cons_succ, List.set_cons_zero, List.set_cons_succ, List.take_succ_cons, List.take_zero, List.drop_succ_cons, List.drop_zero, List.nil_append, List.cons_append, Option.map_some, Option.map_none, if_true, if_false, ↓reduceIte, reduceCtorEq, decide_eq_true_eq, Bool.not_eq_true', decide_eq_false_iff_not, decide_eq_true, decide_eq_false, decide_true, decide_false, and_self, and_true, true_and, or_self, stO, v_caV_, v_caV_i, v_caV_ii, v_caV_iii, v_caV_iiii, v_caV_iiiii, v_caV_il, v_caV_iil, v_caV_l, v_caV_ll, v_caV_r, v_caV_ri, v_caV_rii, v_caV_riii, v_caV_riiii, v_caV_ir, v_caV_iri, v_caV_iiri, v_caS_i, v_caS_ii, v_caS_iii, v_caS_iiii, v_caS_iiiiii, v_caS_il, v_caS_li, v_caS_ll, v_caS_lll, v_caS_ri, v_caS_riii, sh_239, sh_240, sh_241, sh_242, sh_243, sh_244, sh_245, sh_246, sh_247, sh_248, sh_249, sh_250, sh_251, sh_252, sh_253, rf_239_4, rf_239_5, rf_239_6, rf_239_7, rf_239_20, rf_239_21, rf_239_22, rf_239_23, rf_239_27, rf_239_28, rf_239_32, rf_239_33, rf_239_34, rf_239_35, Int.reduceLE, Int.reduceLT, Int.reduceToNat, Int.reduceAdd, Int.reduceSub, Int.reduceMul, Int.reduceNeg, Int.reduceEq, Int.reduceNe, Nat.reduceAdd, Nat.reduceMul, Nat.reduceLT, Nat.reduceEqDiff, or_true, true_or, or_false, false_or, and_false, false_and, not_true_eq_false, not_false_eq_true, ne_eq, cN4, cN5, cN6, cN7, cN13, cN30, cN60, cN64, cN100, cN136, cN240, cN384, cN900, cN2040, cN3,  v_swM_0, v_swM_1, v_swM_r, v_swM_n, swM_ite, app_ite, ex_some, bI_0, bI_1, nn_iff, Int.toNat_natCast, Int.toNat_of_nonneg, Int.natCast_add, cN1, wI_id2, wL_id2, ↓if_pos, ↓if_neg, if_pos, if_neg]
  exact po
theorem cs_band (T : TpS B n s σ) (D : DrS f c w σ) (C : DrC f c) : Wd (F_X4_readBand 47 σ) (fun _ σ' => CsP B n (stB B n s f c w) σ σ') := by
  obtain ⟨h16, hw, c7, cp, ce, c8⟩ := C
  have hH := hw.1
  obtain ⟨D1, P, D3, D4, D5⟩ := D
  have te := tBeh_o (B := B) (n := n) (fl_beh h16) s
  unfold stB
  by_cases g6 : c 3 = 6
  · rw [if_pos g6]
    have e11 : σ 48 11 = 6 := by rw [← g6]; exact P.1.2.2.2.2.2.2.2.2.2
    have b6 := c_band6 e11 T D1
    rw [te] at b6
    refine Wd_mono b6 (fun r σ1 h => ?_)
    exact ⟨h.1, CsF_p h.2.1, fun g => absurd g (tBlm_1 (by omega))⟩
  · rw [if_neg g6]
    obtain ⟨b, hb⟩ : ∃ b : Nat, c 3 = (b : Int) := ⟨(c 3).toNat, by omega⟩
    have hb2 : (c 3).toNat = b := by omega
    have b6 : b < 6 := by omega
    have ba := c_band P48 rfl rf_47_0 P hH hb b6 (q := 65 + 2 * b) (by omega) T D1
    refine Wd_mono ba (fun r σ1 h => ?_)
    obtain ⟨x1, x2, x3, x4, x5⟩ := h
    have e0 : tBd0 B n c w (andI (tcF f) 1) s = tBd0 B n c w (hsO f 3) s := by unfold tBd0; rw [te]
    have e3 : tBd3 B n c w (andI (tcF f) 1) s = tB3 B n c (tBd0 B n c w (hsO f 3) s) := by rw [← e0]; rfl
    have eV : BaV B n c w (andI (tcF f) 1) s (65 + 2 * b) σ1 → σ1 (65 + 2 * b) 0 = tWd B n (tAdv B n (tBeh B n (hsO f 3) s)).1 ∧ σ1 (65 + 2 * b) 1 = tNm B n (tNdW B n 11 (tBd0 B n c w (hsO f 3) s)).1 ∧ σ1 (65 + 2 * b) 2 = tNm B n (tNdN B n 0 (c 0 - 1) (tNdW B n 11 (tBd0 B n c w (hsO f 3) s))).1 ∧ σ1 (65 + 2 * b) 3 = tNm B n (tNdW B n 12 (tStd B n c (tBd0 B n c w (hsO f 3) s))).1 ∧ σ1 (65 + 2 * b) 4 = tNm B n (tNdW B n 13 (tNdN B n 0 20 (tNdW B n 12 (tStd B n c (tBd0 B n c w (hsO f 3) s))))).1 ∧ σ1 (65 + 2 * b) 5 = tNm B n (tNdW B n 13 (tNdN B n 0 20 (tNdW B n 12 (tStd B n c (tBd0 B n c w (hsO f 3) s))))).1 ∧ σ1 (65 + 2 * b) 6 = 0 := by
      intro v
      unfold BaV tBd2 tBd1 at v
      rw [e0, te] at v
      exact v
    rw [e3] at x5
    /- state, length, entries -/
    have key : TpS B n (bdS B n c w (hsO f 3) s) σ1 ∧ ((bdS B n c w (hsO f 3) s).2.1 = 0 → BaV B n c w (andI (tcF f) 1) s (65 + 2 * b) σ1 ∧ σ1 (65 + 2 * b) 7 = (bdN B n c w (hsO f 3) s : Int) ∧ ∀ k, k < bdN B n c w (hsO f 3) s → σ1 (65 + 2 * b + 1) k = vEnt B n (nmF w 0 (c 2).toNat) (pS B n (nmF w 0 (c 2).toNat) k (tAdv B n (tB3 B n c (tBd0 B n c w (hsO f 3) s))))) := by
      have bv := bd_v (B := B) (n := n) (c := c) (w := w) (o := hsO f 3) (s := s)
      unfold bdS bdN at bv ⊢
      rcases x5 with ⟨q, T1, y⟩ | ⟨q, j, j1, nc, cc, T1, y⟩
      · rw [if_neg q] at bv ⊢
        rw [if_neg q] at bv ⊢
        exact ⟨T1, fun g => ⟨(y g).1, (y g).2, fun k hk => by omega⟩⟩
      · rw [if_pos q] at bv ⊢
        rw [if_pos q] at bv ⊢
        obtain ⟨p1, p2, p3⟩ := pJ_p (B := B) (n := n) (nmF w 0 (c 2).toNat) (tAdv B n (tB3 B n c (tBd0 B n c w (hsO f 3) s)))
        obtain ⟨pe1, pe2⟩ := pS_end j1.1 p1.1 nc p2 cc p3
        rw [pe1] at T1 y
        refine ⟨T1, fun g => ?_⟩
        obtain ⟨y1, y2, y3⟩ := y g
        have ej := pe2 g
        obtain ⟨_, _, _, _, _, _, _, l6, l7⟩ := bv g
        rw [← ej] at l6 l7 ⊢
        exact ⟨y1, y2 l6, fun k hk => y3 k hk (by omega) (l7 k hk)⟩
    obtain ⟨T1, key⟩ := key
    refine ⟨T1, ⟨fun x a b' d => x1 x a (by omega) (by omega) (by omega), x2, x3 14 (by omega)⟩, fun g => ?_⟩
    have g : (bdS B n c w (hsO f 3) s).2.1 = 0 := g
    obtain ⟨y1, y7, ye⟩ := key g
    obtain ⟨v0, v1, v2, v3, v4, v5, v6⟩ := eV y1
    have hs3 := (bd_v g).2.2.1.2
    have nlt : ¬ f < 8 := fun q => hs3 ((flg h16).2.2.2.2.2.mpr q)
    have l6 := (bd_v g).2.2.2.2.2.2.2.1
    show DrS f (bdC B n c w (hsO f 3) s) (upc w (6 + (c 3).toNat) (tWd B n (tAdv B n (tBeh B n (hsO f 3) s)).1)) σ1
    unfold bdC
    rw [hb2]
    obtain ⟨ent, he⟩ : ∃ ent : Nat → Int, ent = fun k => vEnt B n (nmF w 0 (c 2).toNat) (pS B n (nmF w 0 (c 2).toNat) k (tAdv B n (tB3 B n c (tBd0 B n c w (hsO f 3) s)))) := ⟨_, rfl⟩
    have ye : ∀ k, k < bdN B n c w (hsO f 3) s → σ1 (65 + 2 * b + 1) k = ent k := fun k hk => by rw [he]; exact ye k hk
    rw [← he]
    clear he key eV x5 y1 e3 e0 te ba T g
    generalize bdN B n c w (hsO f 3) s = len at *
    generalize tNm B n (tNdW B n 13 (tNdN B n 0 20 (tNdW B n 12 (tStd B n c (tBd0 B n c w (hsO f 3) s))))).1 = li at *
    generalize tNm B n (tNdW B n 12 (tStd B n c (tBd0 B n c w (hsO f 3) s))).1 = st at *
    generalize tNm B n (tNdN B n 0 (c 0 - 1) (tNdW B n 11 (tBd0 B n c w (hsO f 3) s))).1 = y at *
    generalize tNm B n (tNdW B n 11 (tBd0 B n c w (hsO f 3) s)).1 = x at *
    generalize tWd B n (tAdv B n (tBeh B n (hsO f 3) s)).1 = nm at *
    have u : ∀ j, (j ≠ 3 ∧ j < 28) ∨ (58 ≤ j ∧ j < 64) ∨ 106 ≤ j → baC c b x y st li len ent j = c j := fun j hj => baC_ne (by omega) (by omega) (by omega) (by omega) (by omega) (by omega) (by omega) (by omega)
    refine ⟨by rw [x1 47 (by omega) (by omega) (by omega) (by omega)]; exact D1, ⟨?_, fun t ht => ?_, fun d hd => ?_, fun k hk => ?_⟩, fun q => absurd q nlt, by rw [x1 52 (by omega) (by omega) (by omega) (by omega)]; exact D4, by rw [x1 52 (by omega) (by omega) (by omega) (by omega)]; exact D5⟩
    · unfold kH
      rw [u 0 (by omega), u 1 (by omega), u 2 (by omega), baC_3, u 4 (by omega), u 5 (by omega), u 6 (by omega), u 7 (by omega), u 8 (by omega), u 9 (by omega), x3 0 (by omega), x3 1 (by omega), x3 2 (by omega), x3 3 (by omega), x3 4 (by omega), x3 5 (by omega), x3 6 (by omega), x3 7 (by omega), x3 9 (by omega), x4]
      have pp := P.1
      exact ⟨pp.1, pp.2.1, pp.2.2.1, pp.2.2.2.1, pp.2.2.2.2.1, pp.2.2.2.2.2.1, pp.2.2.2.2.2.2.1, pp.2.2.2.2.2.2.2.1, pp.2.2.2.2.2.2.2.2.1, rfl⟩
    · rw [u 2 (by omega)] at ht
      rw [x1 (48 + 11 + t) (by omega) (by omega) (by omega) (by omega), u (10 + (t : Int)).toNat (by omega), u (16 + (t : Int)).toNat (by omega), u (22 + (t : Int)).toNat (by omega), upc_ne (by omega)]
      exact P.2.1 t ht
    · rw [baC_3] at hd
      by_cases e : d = b
      · subst e
        have p0 := cp d b6
        rw [show (28 + (d : Int)).toNat = 28 + d by omega, show (34 + (d : Int)).toNat = 34 + d by omega, show (40 + (d : Int)).toNat = 40 + d by omega, show (46 + (d : Int)).toNat = 46 + d by omega, show (52 + (d : Int)).toNat = 52 + d by omega, show (58 + (d : Int)).toNat = 58 + d by omega, show (64 + (d : Int)).toNat = 64 + d by omega, baC_x b6, baC_y b6, baC_s b6, baC_l b6, baC_m b6, baC_n b6, u (58 + d) (by omega), p0, upc_same, show 48 + 17 + 2 * d = 65 + 2 * d by omega, show 48 + 18 + 2 * d = 65 + 2 * d + 1 by omega]
        refine ⟨⟨v0, v1, v2, v3, v4, v5, v6, y7⟩, fun k hk => ?_⟩
        rw [show (70 + 6 * (d : Int) + (k : Int)).toNat = 70 + 6 * d + k by omega, baC_e b6 (by omega)]
        exact ye k (by omega)
      · have hd' : (d : Int) < c 3 := by omega
        have dd := (hw.2.2.1 d (by omega) hd').1
        have v : ∀ j, (28 ≤ j ∧ j < 70) → j ≠ 28 + b → j ≠ 34 + b → j ≠ 40 + b → j ≠ 46 + b → j ≠ 52 + b → j ≠ 64 + b → baC c b x y st li len ent j = c j := fun j h0 h1 h2 h3 h4 h5 h6 => baC_ne (by omega) h1 h2 h3 h4 h5 h6 (by omega)
        rw [x1 (48 + 17 + 2 * d) (by omega) (by omega) (by omega) (by omega), x1 (48 + 18 + 2 * d) (by omega) (by omega) (by omega) (by omega), v (28 + (d : Int)).toNat (by omega) (by omega) (by omega) (by omega) (by omega) (by omega) (by omega), v (34 + (d : Int)).toNat (by omega) (by omega) (by omega) (by omega) (by omega) (by omega) (by omega), v (40 + (d : Int)).toNat (by omega) (by omega) (by omega) (by omega) (by omega) (by omega) (by omega), v (46 + (d : Int)).toNat (by omega) (by omega) (by omega) (by omega) (by omega) (by omega) (by omega), v (52 + (d : Int)).toNat (by omega) (by omega) (by omega) (by omega) (by omega) (by omega) (by omega), u (58 + (d : Int)).toNat (by omega), v (64 + (d : Int)).toNat (by omega) (by omega) (by omega) (by omega) (by omega) (by omega) (by omega), upc_ne (j := 6 + d) (by omega)]
        refine ⟨(P.2.2.1 d hd').1, fun k hk => ?_⟩
        rw [baC_ne (k := (70 + 6 * (d : Int) + (k : Int)).toNat) (by omega) (by omega) (by omega) (by omega) (by omega) (by omega) (by omega) (by omega)]
        exact (P.2.2.1 d hd').2 k hk
    · rw [u 0 (by omega), u 1 (by omega)] at hk
      obtain ⟨z1, z2, z3, z4⟩ := cell_rng hH hk
      unfold pondB
      rw [u 0 (by omega), x1 (48 + 1) (by omega) (by omega) (by omega) (by omega), u _ (by omega)]
      exact P.2.2.2 k hk
end PN
/-! a PARK, part by part: the reference -/
theorem cb4 (σ : SS) (k : Nat) : cb σ 4 k = σ 244 (1632 + k) := rfl
theorem wb4 (σ : SS) (k : Nat) : wb σ 4 k = σ 247 (48 + k) := rfl
section PO
variable {B : Nat → Int} {n : Nat} {σ : SS}
def RsF (σ σ' : SS) : Prop := Rm σ σ' ∧ (∀ j, ¬ (1632 ≤ j ∧ j < 2040) → σ' 244 j = σ 244 j) ∧ ∀ j, ¬ (48 ≤ j ∧ j < 60) → σ' 247 j = σ 247 j
theorem Rm_t {σ1 σ2 : SS} (h : Rm σ σ1) (h2 : Rm σ1 σ2) : Rm σ σ2 := ⟨fun x a b d => by rw [h2.1 x a b d, h.1 x a b d], fun k a b => by rw [h2.2 k a b, h.2 k a b]⟩
theorem RsF_r (σ : SS) : RsF σ σ := ⟨Rm_r _, fun _ _ => rfl, fun _ _ => rfl⟩
theorem RsF_t {σ1 σ2 : SS} (h : RsF σ σ1) (h2 : RsF σ1 σ2) : RsF σ σ2 := ⟨Rm_t h.1 h2.1, fun j hj => by rw [h2.2.1 j hj, h.2.1 j hj], fun j hj => by rw [h2.2.2 j hj, h.2.2 j hj]⟩
theorem RsF_f {σ1 : SS} (F : TmF σ σ1) : RsF σ σ1 := ⟨Rm_f (Rm_r _) F, fun j _ => by rw [F.1 244 (by omega)], fun j _ => by rw [F.1 247 (by omega)]⟩
def DrM (f : Int) (c w : Nat → Int) (σ : SS) : Prop := σ 239 25 = f ∧ cb σ 4 = c ∧ wb σ 4 = w
def MsQ (B : Nat → Int) (n : Nat) (X : PX) (σ σ' : SS) : Prop := TmS B n X.1 σ' ∧ RsF σ σ' ∧ (X.1.2.1 = 0 → DrM X.2.1 X.2.2.1 X.2.2.2 σ')
/-- before the sign at a part's end -/
def MsP (B : Nat → Int) (n : Nat) (X : PX) (σ : SS) (r : Int) (σ' : SS) : Prop := ∃ t : TS3, X.1 = tNdE B n t ∧ TmS B n t σ' ∧ RsF σ σ' ∧ (X.1.2.1 = 0 → DrM X.2.1 X.2.2.1 X.2.2.2 σ')
theorem ms_end {X : PX} {r : Int} {σ1 : SS} (h : MsP B n X σ r σ1) : Wd (F_X12_must 239 (if σ1 239 14 = 3 ∧ σ1 239 17 = 59 then 1 else 0) σ1) (fun _ σ2 => MsQ B n X σ σ2) := by
  obtain ⟨t, e, T, R, D⟩ := h
  refine Wd_mono (d_end T) (fun r2 σ2 h2 => ?_)
  obtain ⟨T2, F2, _⟩ := h2
  refine ⟨by rw [e]; exact T2, RsF_t R (RsF_f F2), fun g => ?_⟩
  obtain ⟨d1, d2, d3⟩ := D g
  refine ⟨by rw [F2.2 25 (by omega)]; exact d1, ?_, ?_⟩
  · rw [← d2]; unfold cb; rw [F2.1 244 (by omega)]
  · rw [← d3]; unfold wb; rw [F2.1 247 (by omega)]
variable {s : TS3} {f : Int} {c w : Nat → Int}
theorem tBlm_E {k : Int} (hk : k ≠ 0) (t : TS3) : tBlm B n k t = tNdE B n (tBlm B n k t) := (tNdE_0 (tBlm_1 hk)).symm
theorem ms_size (T : TmS B n s σ) (g : s.2.1 = 0) (h4 : ¬ tKd B n s.1 = 4) (D : DrM f c w σ) : Wd (F_X12_readPark 239 σ) (MsP B n (stZ B n s f c w) σ) := by
  refine Wd_mono (d_size T g h4 D.1) (fun r σ1 h => ?_)
  obtain ⟨T1, R1, x7, x4, xv⟩ := h
  refine ⟨_, rfl, T1, ⟨R1, fun j hj => x4 j (by omega) (by omega), fun j _ => by rw [x7]⟩, fun q => ?_⟩
  obtain ⟨y0, y1, y2⟩ := xv (tNdE_m q)
  refine ⟨y0, ?_, by rw [← D.2.2]; unfold wb; rw [x7]⟩
  funext k
  rw [cb4]
  show σ1 244 (1632 + k) = szC c _ _ k
  by_cases e0 : k = 0
  · subst e0; rw [szC_0]; exact y1
  · by_cases e1 : k = 1
    · subst e1; rw [szC_1]; exact y2
    · rw [szC_ne (by omega), ← D.2.1, cb4]
      exact x4 _ (by omega) (by omega)
theorem ms_rule {i : Nat} (i3 : i < 3) (hi : Int) (T : TmS B n s σ) (g : s.2.1 = 0) (h4 : ¬ tKd B n s.1 = 4) (D : DrM f c w σ) : Wd (F_X12_readOnce 239 i hi σ) (MsP B n (stRu B n i hi s f c w) σ) := by
  refine Wd_mono (d_rule T g h4 D.1 i3 hi) (fun r σ1 h => ?_)
  obtain ⟨T1, R1, x7, x4, xv⟩ := h
  refine ⟨_, rfl, T1, ⟨R1, fun j hj => x4 j (by omega), fun j _ => by rw [x7]⟩, fun q => ?_⟩
  obtain ⟨y0, y1⟩ := xv (tNdE_m q)
  refine ⟨y0, ?_, by rw [← D.2.2]; unfold wb; rw [x7]⟩
  funext k
  rw [cb4]
  show σ1 244 (1632 + k) = upc c (4 + i) _ k
  by_cases e0 : k = 4 + i
  · subst e0
    rw [upc_same, show 1632 + (4 + i) = 1636 + i by omega]
    exact y1
  · rw [upc_ne e0, ← D.2.1, cb4]
    exact x4 _ (by omega)
theorem ms_pond (T : TmS B n s σ) (D : DrM f c w σ) (hw : WH c) : Wd (F_X12_readPond 239 σ) (MsP B n (stPo B n s f c w) σ) := by
  have eW : σ 244 1632 = c 0 := by rw [← D.2.1]; rfl
  have eD : σ 244 1633 = c 1 := by rw [← D.2.1]; rfl
  refine Wd_mono (d_pond T D.1 eW eD hw.1 hw.2.1) (fun r σ1 h => ?_)
  obtain ⟨T1, R1, x7, x25, x4, xv⟩ := h
  refine ⟨_, rfl, T1, ⟨R1, x4, fun j _ => by rw [x7]⟩, fun q => ?_⟩
  have h : (tPond B n (hsO f 3) (c 0) (c 1) s).2.1 = 0 := q
  unfold tPond at h
  have h5 := tNdE_m h
  have v5 := (tNdN_v h5).2
  have h4 := tNdN_m h5
  have v4 := (tNdN_v h4).2
  have y := xv h5
  refine ⟨by rw [x25]; exact D.1, ?_, by rw [← D.2.2]; unfold wb; rw [x7]⟩
  funext k
  rw [cb4, y]
  show _ = upc c (106 + 6 * tNm B n (tNdN B n 0 (c 0 - 1) (tAdv B n (tBeh B n (hsO f 3) s))).1 + tNm B n (tAdv B n (tBeh B n (hsO f 3) s)).1).toNat 1 k
  generalize tNm B n (tNdN B n 0 (c 0 - 1) (tAdv B n (tBeh B n (hsO f 3) s))).1 = yy at *
  generalize tNm B n (tAdv B n (tBeh B n (hsO f 3) s)).1 = xx at *
  have e : (1738 + 6 * yy + xx).toNat = 1632 + (106 + 6 * yy + xx).toNat := by omega
  rw [e]
  by_cases e0 : k = (106 + 6 * yy + xx).toNat
  · rw [← e0, upc_same, ups_11]
  · rw [upc_ne e0, upsN (by omega), ← D.2.1, cb4]
theorem Mb6_P {X : PX} {t : TS3} {r : Int} {σ1 : SS} (e : X.1 = tNdE B n t) (n1 : ¬ t.2.1 = 0) (h : Mb6 B n t σ r σ1) : MsP B n X σ r σ1 := ⟨t, e, h.1, ⟨h.2.1, h.2.2.1, h.2.2.2⟩, fun q => by rw [e] at q; exact absurd (tNdE_m q) n1⟩
theorem ms_tune (T : TmS B n s σ) (g : s.2.1 = 0) (h4 : ¬ tKd B n s.1 = 4) (D : DrM f c w σ) (hw : WH c) : Wd (F_X12_readTune 239 σ) (MsP B n (stT B n s f c w) σ) := by
  unfold stT
  by_cases g6 : c 2 = 6
  · rw [if_pos g6]
    exact Wd_mono (d_tune6 T g h4 (by rw [D.2.1]; exact g6)) (fun r σ1 h => Mb6_P (tBlm_E (by decide) _) (tBlm_1 (by omega)) h)
  · rw [if_neg g6]
    have h2 := hw.2.2.1
    obtain ⟨m, hm⟩ : ∃ m : Nat, c 2 = (m : Int) := ⟨(c 2).toNat, by omega⟩
    have hm2 : (c 2).toNat = m := by omega
    have m6 : m < 6 := by omega
    have tu := d_tune T g (by rw [D.2.1]; exact hw) (m := m) (by rw [D.2.1]; exact hm) m6
    rw [D.2.1, D.2.2] at tu
    rw [hm2]
    refine Wd_mono tu (fun r σ1 h => ?_)
    obtain ⟨T1, R1, x4, x7, xv⟩ := h
    refine ⟨_, rfl, T1, ⟨R1, x4, fun j hj => x7 j (by omega)⟩, fun q => ?_⟩
    obtain ⟨y0, y1, y2, y3, y4, y5, y6⟩ := xv (tNdE_m q)
    refine ⟨by rw [y0]; exact D.1, ?_, ?_⟩
    · funext k
      rw [cb4]
      show σ1 244 (1632 + k) = tuC c m _ _ _ k
      by_cases e1 : k = 10 + m
      · subst e1; rw [tuC_1, show 1632 + (10 + m) = 1642 + m by omega]; exact y2
      · by_cases e2 : k = 16 + m
        · subst e2; rw [tuC_2, show 1632 + (16 + m) = 1648 + m by omega]; exact y3
        · by_cases e3 : k = 22 + m
          · subst e3; rw [tuC_3, show 1632 + (22 + m) = 1654 + m by omega]; exact y4
          · by_cases e4 : k = 2
            · subst e4; rw [tuC_m]; exact y5
            · rw [tuC_ne e1 e2 e3 e4, ← D.2.1, cb4]
              exact y6 _ (by omega) (by omega) (by omega) (by omega)
    · funext k
      rw [wb4]
      show σ1 247 (48 + k) = upc w m _ k
      by_cases e1 : k = m
      · subst e1; rw [upc_same]; exact y1
      · rw [upc_ne e1, ← D.2.2, wb4]
        exact x7 _ (by omega)
theorem ms_band (T : TmS B n s σ) (g : s.2.1 = 0) (h4 : ¬ tKd B n s.1 = 4) (D : DrM f c w σ) (hw : WH c) : Wd (F_X12_readBand 239 σ) (MsP B n (stB B n s f c w) σ) := by
  unfold stB
  by_cases g6 : c 3 = 6
  · rw [if_pos g6]
    exact Wd_mono (d_band6 D.2.1 D.2.2 hw g6 T g h4 D.1) (fun r σ1 h => Mb6_P (tBlm_E (by decide) _) (tBlm_1 (by omega)) h)
  · rw [if_neg g6]
    have h3 := hw.2.2.2.1
    obtain ⟨b, hb⟩ : ∃ b : Nat, c 3 = (b : Int) := ⟨(c 3).toNat, by omega⟩
    have hb2 : (c 3).toNat = b := by omega
    have b6 : b < 6 := by omega
    have ba := d_band D.2.1 D.2.2 hw hb b6 T g D.1
    refine Wd_mono ba (fun r σ1 h => ?_)
    obtain ⟨⟨R1, x25, x4, x7⟩, E⟩ := h
    have RR : RsF σ σ1 := ⟨R1, x4, fun j hj => x7 j (by omega)⟩
    have key : ∃ t : TS3, bdS B n c w (hsO f 3) s = tNdE B n t ∧ TmS B n t σ1 ∧ (t.2.1 = 0 → MbV B n c (tBd0 B n c w (hsO f 3) s) b (tWd B n (tAdv B n (tBeh B n (hsO f 3) s)).1) (bdN B n c w (hsO f 3) s) σ σ1 ∧ σ1 244 (1696 + b) = (bdN B n c w (hsO f 3) s : Int) ∧ ∀ k, k < bdN B n c w (hsO f 3) s → k < 6 → (pS B n (nmF w 0 (c 2).toNat) (k + 1) (tAdv B n (tB3 B n c (tBd0 B n c w (hsO f 3) s)))).2.1 = 0 → σ1 244 (1702 + 6 * b + k) = vEnt B n (nmF w 0 (c 2).toNat) (pS B n (nmF w 0 (c 2).toNat) k (tAdv B n (tB3 B n c (tBd0 B n c w (hsO f 3) s))))) := by
      unfold bdS bdN
      rcases E with ⟨q, T1, y⟩ | ⟨q, j, j1, nc, cc, T1, y⟩
      · rw [if_neg q, if_neg q]
        exact ⟨_, rfl, T1, fun h => ⟨(y h).1, (y h).2, fun k hk => by omega⟩⟩
      · rw [if_pos q, if_pos q]
        have ej := pJ_u j1.1 nc cc
        rw [← ej]
        exact ⟨_, rfl, T1, y⟩
    obtain ⟨t, et, T1, key⟩ := key
    refine ⟨t, et, T1, RR, fun q => ?_⟩
    have q : (bdS B n c w (hsO f 3) s).2.1 = 0 := q
    have bv := bd_v q
    have l6 := bv.2.2.2.2.2.2.2.1
    have lv := bv.2.2.2.2.2.2.2.2
    rw [et] at q
    obtain ⟨⟨z0, z1, z2, z3, z4, z5, z6, z7⟩, y7, ye⟩ := key (tNdE_m q)
    have ye : ∀ k, k < bdN B n c w (hsO f 3) s → σ1 244 (1702 + 6 * b + k) = vEnt B n (nmF w 0 (c 2).toNat) (pS B n (nmF w 0 (c 2).toNat) k (tAdv B n (tB3 B n c (tBd0 B n c w (hsO f 3) s)))) := fun k hk => ye k hk (by omega) (lv k hk)
    refine ⟨by rw [x25]; exact D.1, ?_, ?_⟩
    · show cb σ1 4 = bdC B n c w (hsO f 3) s
      unfold bdC
      rw [hb2]
      obtain ⟨ent, he⟩ : ∃ ent : Nat → Int, ent = fun k => vEnt B n (nmF w 0 (c 2).toNat) (pS B n (nmF w 0 (c 2).toNat) k (tAdv B n (tB3 B n c (tBd0 B n c w (hsO f 3) s)))) := ⟨_, rfl⟩
      have ye : ∀ k, k < bdN B n c w (hsO f 3) s → σ1 244 (1702 + 6 * b + k) = ent k := fun k hk => by rw [he]; exact ye k hk
      rw [← he]
      clear he bv lv key T1 ba E
      generalize bdN B n c w (hsO f 3) s = len at *
      funext k
      rw [cb4]
      by_cases e0 : k = 3
      · subst e0; rw [baC_3]; exact z6
      · by_cases e1 : k = 28 + b
        · subst e1; rw [baC_x b6, show 1632 + (28 + b) = 1660 + b by omega]; exact z1
        · by_cases e2 : k = 34 + b
          · subst e2; rw [baC_y b6, show 1632 + (34 + b) = 1666 + b by omega]; exact z2
          · by_cases e3 : k = 40 + b
            · subst e3; rw [baC_s b6, show 1632 + (40 + b) = 1672 + b by omega]; exact z3
            · by_cases e4 : k = 46 + b
              · subst e4; rw [baC_l b6, show 1632 + (46 + b) = 1678 + b by omega]; exact z4
              · by_cases e5 : k = 52 + b
                · subst e5; rw [baC_m b6, show 1632 + (52 + b) = 1684 + b by omega]; exact z5
                · by_cases e6 : k = 64 + b
                  · subst e6; rw [baC_n b6, show 1632 + (64 + b) = 1696 + b by omega]; exact y7
                  · by_cases e7 : 70 + 6 * b ≤ k ∧ k < 70 + 6 * b + len
                    · obtain ⟨i, hi⟩ : ∃ i : Nat, k = 70 + 6 * b + i := ⟨k - (70 + 6 * b), by omega⟩
                      subst hi
                      rw [baC_e b6 (by omega), show 1632 + (70 + 6 * b + i) = 1702 + 6 * b + i by omega]
                      exact ye i (by omega)
                    · rw [baC_ne e0 e1 e2 e3 e4 e5 e6 e7, ← D.2.1, cb4]
                      exact z7 _ (by omega) (by omega) (by omega) (by omega) (by omega) (by omega) (by omega) (by omega)
    · funext k
      rw [wb4]
      show σ1 247 (48 + k) = upc w (6 + (c 3).toNat) _ k
      rw [hb2]
      by_cases e1 : k = 6 + b
      · subst e1; rw [upc_same, show 48 + (6 + b) = 54 + b by omega]; exact z0
      · rw [upc_ne e1, ← D.2.2, wb4]
        exact x7 _ (by omega)
end PO
