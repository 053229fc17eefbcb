/-! a PARK's parts, the reference's side: ponds, names -/
section PF
variable {B : Nat → Int} {n : Nat} {σ : SS}
theorem d_beh {s : TS3} (T : TmS B n s σ) {o : Int} (o1 : o = 0 ∨ o = 1) : Wd (if o = 0 then F_X12_amiss 239 σ else some (0, σ)) (TmQ B n (tBeh B n o s) 0 σ) := by
  unfold tBeh
  rcases o1 with q | q <;> subst q
  · rw [if_pos rfl, if_pos rfl]; exact d_amiss T
  · rw [if_neg (by decide), if_neg (by decide), Wd_some]; exact ⟨T, TmF_r _, fun _ => rfl⟩
/-- a new name -/
def MnQ (B : Nat → Int) (n : Nat) (s : TS3) (j0 : Nat) (m v : Int) (σ : SS) (r : Int) (σ' : SS) : Prop := TmS B n s σ' ∧ Rm σ σ' ∧ σ' 244 = σ 244 ∧ σ' 239 25 = σ 239 25 ∧ (∀ j, j ≠ j0 → σ' 247 j = σ 247 j) ∧ (s.2.1 = 0 → r = m ∧ σ' 247 j0 = v) ∧ (¬ s.2.1 = 0 → r = 0)
theorem nwG_c (c w : Nat → Int) (v : Int) : nwG c w v = -1 ∨ nwG c w v = 0 := by
  unfold nwG
  split
  · exact Or.inl rfl
  · exact Or.inr rfl
theorem d_new {s : TS3} (T : TmS B n s σ) (g : s.2.1 = 0) (hw : WH (cb σ 4)) {so m : Nat} (hso : so ≤ 1) (hm : cb σ 4 (2 + so) = (m : Int)) (m6 : m < 6) : Wd (F_X12_readNew 239 so σ) (MnQ B n (tNew B n (nwG (cb σ 4) (wb σ 4)) (tAdv B n s)) (48 + 6 * so + m) m (tWd B n (tAdv B n s).1) σ) := by
  have e12 := TmS_0 T g
  have em : σ 244 (1634 + (so : Int)).toNat = (m : Int) := by rw [← hm]; unfold cb; congr 1; omega
  have nm6 : ¬ (m : Int) = 6 := by omega
  have ad := d_adv T g
  clear T
  simp (disch := omega) only [w_iff, iffM_t, iffM_f, iffM_d, iffM_nd, iffM_0, iffM_ite, Wd_iffM, iffM_v, w_tern, ternM_t, ternM_f, ternM_d, ternM_nd, ternM_0, ternM_ite, Wd_ternM, ternM_v, w_sw, swX_1, Wd_swX, Bool.not_true, Bool.not_false, F_X12_readNew, B_X12_readNew, em, nm6, e12, Wd_some, Wd_bn, Wd_sqM, Wd_outV, Wd_blkM, Wd_swM, Wd_ite, Wd_map, v_kS_0, v_kS_b, v_kS_r, v_kO_r, v_kW_0, v_kW_1, v_kW_2, v_kW_r, v_kL_0, v_kL_1, v_kL_2, v_kL_r, v_kU_0, ups_11, upsN, upsA, upA_same, upA_neA, fl_at, fl_neA, v_sq_eq, v_sqM_0, v_sqM_r, v_sqM_b, v_sqM_n, sqM_ite, v_asI, v_asR, v_inc, v_pfI, v_pfZ, v_pfO, v_paI, v_paO, v_exI,  v_rtI, v_rtZ, v_rtV, v_sk, v_brk, v_cnt, v_blk_eq, v_blkM_some, blkM_ite, v_lI, v_lR, v_cI, v_gI, v_gR, v_op1, v_op2, v_arI, v_arR, v_alen,  v_cmp1, v_cmp2, v_cAnd, v_cOr, v_cNot, v_cTern, v_bn_some, bn_ite, v_bn_none, v_outV_r, v_outV_0, v_outV_n, outV_ite, List.getD_cons_zero, List.getD_cons_succ, List.set_cons_zero, List.set_cons_succ, List.take_succ_cons, List.take_zero, List.drop_succ_cons, List.drop_zero, List.nil_append, List.cons_append, Option.map_some, Option.map_none, if_true, if_false, ↓reduceIte, reduceCtorEq, decide_eq_true_eq, Bool.not_eq_true', decide_eq_false_iff_not, decide_eq_true, decide_eq_false, decide_true, decide_false, and_self, and_true, true_and, or_self, stO, v_caV_, v_caV_i, v_caV_ii, v_caV_iii, v_caV_iiii, v_caV_iiiii, v_caV_il, v_caV_iil, v_caV_l, v_caV_ll, v_caV_r, v_caV_ri, v_caV_rii, v_caV_riii, v_caV_riiii, v_caV_ir, v_caV_iri, v_caV_iiri, v_caS_i, v_caS_ii, v_caS_iii, v_caS_iiii, v_caS_iiiiii, v_caS_il, v_caS_li, v_caS_ll, v_caS_lll, v_caS_ri, v_caS_riii, sh_239, sh_240, sh_241, sh_242, sh_243, sh_244, sh_245, sh_246, sh_247, sh_248, sh_249, sh_250, sh_251, sh_252, sh_253, rf_239_4, rf_239_5, rf_239_6, rf_239_7, rf_239_20, rf_239_21, rf_239_22, rf_239_23, rf_239_27, rf_239_28, rf_239_32, rf_239_33, rf_239_34, rf_239_35, Int.reduceLE, Int.reduceLT, Int.reduceToNat, Int.reduceAdd, Int.reduceSub, Int.reduceMul, Int.reduceNeg, Int.reduceEq, Int.reduceNe, Nat.reduceAdd, Nat.reduceMul, Nat.reduceLT, Nat.reduceEqDiff, or_true, true_or, or_false, false_or, and_false, false_and, not_true_eq_false, not_false_eq_true, ne_eq, cN4, cN5, cN6, cN7, cN13, cN30, cN60, cN64, cN100, cN136, cN240, cN384, cN900, cN2040, cN3,  v_swM_0, v_swM_1, v_swM_r, v_swM_n, swM_ite, app_ite, ex_some, bI_0, bI_1, nn_iff, Int.toNat_natCast, Int.toNat_of_nonneg, Int.natCast_add, cN1, wI_id2, wL_id2, ↓if_pos, ↓if_neg, if_pos, if_neg]
  sorry
end PF
