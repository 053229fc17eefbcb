/-! evenings: the reference -/
section LM
variable {σ σ0 : SS} {c0 : Nat → Int} {x : LvT}
def LvM (σ0 : SS) (x : LvT) (σ : SS) : Prop := σ 244 = x.1 ∧ (σ 239 39 = x.2 0 ∧ σ 239 40 = x.2 1 ∧ σ 239 41 = x.2 2 ∧ σ 239 42 = x.2 3 ∧ σ 239 43 = x.2 4 ∧ σ 239 44 = x.2 5 ∧ σ 239 37 = x.2 6 ∧ σ 239 38 = x.2 7) ∧ (∀ a, a ≠ 239 → a ≠ 244 → a ≠ 248 → a ≠ 249 → σ a = σ0 a) ∧ (∀ k, k ≠ 29 → ¬ (37 ≤ k ∧ k ≤ 44) → σ 239 k = σ0 239 k)
theorem LvM_f (C : LvM σ0 x σ) {f k : Nat} (hf : (f = 39 ∧ k = 0) ∨ (f = 40 ∧ k = 1) ∨ (f = 41 ∧ k = 2) ∨ (f = 42 ∧ k = 3) ∨ (f = 43 ∧ k = 4) ∨ (f = 44 ∧ k = 5) ∨ (f = 37 ∧ k = 6) ∨ (f = 38 ∧ k = 7)) (v : Int) : LvM σ0 (x.1, upc x.2 k v) (ups σ 239 f v) := by
  obtain ⟨c1, c3, c4, c5⟩ := C
  refine ⟨by try simp (disch := omega) only [ups_11, upsN, upsA, upA_same, upA_neA, fl_at, fl_neA]; exact c1, ?_, fun a h1 h2 h3 h4 => ?_, fun j h1 h2 => ?_⟩
  · obtain ⟨d0, d1, d2, d3, d4, d5, d6, d7⟩ := c3
    have key : ∀ f' k' : Nat, σ 239 f' = x.2 k' → (f' = f ↔ k' = k) → ups σ 239 f v 239 f' = upc x.2 k v k' := fun f' k' h he => by
      by_cases q : f' = f
      · rw [he.mp q, upc_same, q, ups_11]
      · rw [upc_ne (fun e => q (he.mpr e)), upsN q]; exact h
    exact ⟨key 39 0 d0 (by omega), key 40 1 d1 (by omega), key 41 2 d2 (by omega), key 42 3 d3 (by omega), key 43 4 d4 (by omega), key 44 5 d5 (by omega), key 37 6 d6 (by omega), key 38 7 d7 (by omega)⟩
  · try simp (disch := omega) only [ups_11, upsN, upsA, upA_same, upA_neA, fl_at, fl_neA]; exact c4 a h1 h2 h3 h4
  · try simp (disch := omega) only [ups_11, upsN, upsA, upA_same, upA_neA, fl_at, fl_neA]; exact c5 j h1 h2
theorem LvM_c (C : LvM σ0 x σ) {k : Nat} (v : Int) : LvM σ0 (upc x.1 k v, x.2) (ups σ 244 k v) := by
  obtain ⟨c1, c3, c4, c5⟩ := C
  refine ⟨by rw [ups_at, c1], ?_, fun a h1 h2 h3 h4 => ?_, fun j h1 h2 => ?_⟩
  · try simp (disch := omega) only [ups_11, upsN, upsA, upA_same, upA_neA, fl_at, fl_neA]; exact c3
  · try simp (disch := omega) only [ups_11, upsN, upsA, upA_same, upA_neA, fl_at, fl_neA]; exact c4 a h1 h2 h3 h4
  · try simp (disch := omega) only [ups_11, upsN, upsA, upA_same, upA_neA, fl_at, fl_neA]; exact c5 j h1 h2
theorem LvM_n (hw : WB x.1) (C : LvM σ0 x σ) : LvM σ0 x (nowM σ (bn3 x.1)) := by
  obtain ⟨c1, c3, c4, c5⟩ := C
  refine ⟨by rw [nowM_a (by omega) (by omega)]; exact c1, ?_, fun a h1 h2 h3 h4 => by rw [nowM_a h1 h3]; exact c4 a h1 h2 h3 h4, fun j h1 h2 => by rw [nowM_f h1]; exact c5 j h1 h2⟩
  rw [nowM_f (by omega), nowM_f (by omega), nowM_f (by omega), nowM_f (by omega), nowM_f (by omega), nowM_f (by omega), nowM_f (by omega), nowM_f (by omega)]
  exact c3
theorem LvM_u (C : LvM σ0 x σ) (f : Nat → Int) : LvM σ0 x (upA σ 249 f) := by
  obtain ⟨c1, c3, c4, c5⟩ := C
  exact ⟨by try simp (disch := omega) only [ups_11, upsN, upsA, upA_same, upA_neA, fl_at, fl_neA]; exact c1, by try simp (disch := omega) only [ups_11, upsN, upsA, upA_same, upA_neA, fl_at, fl_neA]; exact c3, fun a h1 h2 h3 h4 => by try simp (disch := omega) only [ups_11, upsN, upsA, upA_same, upA_neA, fl_at, fl_neA]; exact c4 a h1 h2 h3 h4, fun j h1 h2 => by try simp (disch := omega) only [ups_11, upsN, upsA, upA_same, upA_neA, fl_at, fl_neA]; exact c5 j h1 h2⟩
theorem m_drawL {d : Int} (e : σ 239 38 = d) (hd : 0 ≤ d ∧ d ≤ 65535) {y : Int} (hy : 1 ≤ y ∧ y ≤ 16) : F_X12_draw 239 y σ = some (drN d / 8 % y, ups σ 239 38 (drN d)) := by
  have t1 := (tm_range (h := d * 2971 + 10781) (l := 65536) (by omega) (by omega)).1
  have t1 : Int.tmod (d * 2971 + 10781) 65536 = drN d := t1
  have b := drN_bd d
  have t2 := (td_range (h := drN d) (l := 8) (by omega) (by omega)).1
  have t31 := (tm_range (h := drN d / 8) (l := y) (by omega) (by omega)).1
  have b2 : 0 ≤ drN d / 8 ∧ drN d / 8 ≤ 8191 := by omega
  have b3 : 0 ≤ drN d / 8 % y ∧ drN d / 8 % y ≤ 16 := by
    have q1 := Int.emod_nonneg (drN d / 8) (show y ≠ 0 by omega)
    have q2 := Int.emod_lt_of_pos (drN d / 8) (show 0 < y by omega)
    omega
  generalize drN d = D at *
  generalize D / 8 = E at *
  generalize E % y = G at *
  have n0 : ¬ y = 0 := by omega
  try simp (disch := omega) only [w_iff, iffM_t, iffM_f, iffM_d, iffM_nd, iffM_0, iffM_ite, Wd_iffM, iffM_v, w_tern, ternM_t, ternM_f, ternM_d, ternM_nd, ternM_0, ternM_ite, Wd_ternM, ternM_v, w_sw, swX_1, Wd_swX, Bool.not_true, Bool.not_false, F_X12_draw, B_X12_draw, e, t1, t2, t31, n0, Wd_some, Wd_bn, Wd_sqM, Wd_outV, Wd_blkM, Wd_swM, Wd_ite, Wd_map, v_kS_0, v_kS_b, v_kS_r, v_kO_r, v_kW_0, v_kW_1, v_kW_2, v_kW_r, v_kL_0, v_kL_1, v_kL_2, v_kL_r, v_kU_0, ups_11, upsN, upsA, upA_same, upA_neA, fl_at, fl_neA, v_sq_eq, v_sqM_0, v_sqM_r, v_sqM_b, v_sqM_n, sqM_ite, v_asI, v_asR, v_inc, v_pfI, v_pfZ, v_pfO, v_paI, v_paO, v_exI,  v_rtI, v_rtZ, v_rtV, v_sk, v_brk, v_cnt, v_blk_eq, v_blkM_some, blkM_ite, v_lI, v_lR, v_cI, v_gI, v_gR, v_op1, v_op2, v_arI, v_arR, v_alen,  v_cmp1, v_cmp2, v_cAnd, v_cOr, v_cNot, v_cTern, v_bn_some, bn_ite, v_bn_none, v_outV_r, v_outV_0, v_outV_n, outV_ite, List.getD_cons_zero, List.getD_cons_succ, List.set_cons_zero, List.set_cons_succ, List.take_succ_cons, List.take_zero, List.drop_succ_cons, List.drop_zero, List.nil_append, List.cons_append, Option.map_some, Option.map_none, if_true, if_false, ↓reduceIte, reduceCtorEq, decide_eq_true_eq, Bool.not_eq_true', decide_eq_false_iff_not, decide_eq_true, decide_eq_false, decide_true, decide_false, and_self, and_true, true_and, or_self, stO, v_caV_, v_caV_i, v_caV_ii, v_caV_iii, v_caV_iiii, v_caV_iiiii, v_caV_il, v_caV_iil, v_caV_l, v_caV_ll, v_caV_r, v_caV_ri, v_caV_rii, v_caV_riii, v_caV_riiii, v_caV_ir, v_caV_iri, v_caV_iiri, v_caS_i, v_caS_ii, v_caS_iii, v_caS_iiii, v_caS_iiiiii, v_caS_il, v_caS_li, v_caS_ll, v_caS_lll, v_caS_ri, v_caS_riii, sh_239, sh_240, sh_241, sh_242, sh_243, sh_244, sh_245, sh_246, sh_247, sh_248, sh_249, sh_250, sh_251, sh_252, sh_253, rf_239_4, rf_239_5, rf_239_6, rf_239_7, rf_239_20, rf_239_21, rf_239_22, rf_239_23, rf_239_27, rf_239_28, rf_239_32, rf_239_33, rf_239_34, rf_239_35, Int.reduceLE, Int.reduceLT, Int.reduceToNat, Int.reduceAdd, Int.reduceSub, Int.reduceMul, Int.reduceNeg, Int.reduceEq, Int.reduceNe, Nat.reduceAdd, Nat.reduceMul, Nat.reduceLT, Nat.reduceEqDiff, or_true, true_or, or_false, false_or, and_false, false_and, not_true_eq_false, not_false_eq_true, ne_eq, cN4, cN5, cN6, cN7, cN13, cN30, cN60, cN64, cN100, cN136, cN240, cN384, cN900, cN2040, cN3,  v_swM_0, v_swM_1, v_swM_r, v_swM_n, swM_ite, app_ite, ex_some, bI_0, bI_1, nn_iff, Int.toNat_natCast, Int.toNat_of_nonneg, Int.natCast_add, cN1, wI_id2, wL_id2, ↓if_pos, ↓if_neg, if_pos, if_neg]
set_option maxHeartbeats 8000000 in
theorem ml_anyH (W : LvX c0 x) (C : LvM σ0 x σ) {n : Nat} (hn : n ≤ 20) (h9 : ¬ 9999 < x.1 7 + n) : Wd (L_X12_anyHours_0 ([0, (n : Int), 0], [239, 0, 0], σ)) (fun o z => o = .inl 0 ∧ ∃ σ', z = ([0, (n : Int), (n : Int)], [239, 0, 0], σ') ∧ LvM σ0 (hrN x.1 n, upc (upc x.2 4 (x.2 4 + tiN x.1 n)) 3 (x.2 3 + gotN x.1 n)) σ') := by
  have hw := W.1
  have hq := W.2.1
  obtain ⟨_, _, w7, _, _, x0, x1, x2, x3, x4, _⟩ := W
  unfold L_X12_anyHours_0
  refine Wd_it (fun t z => ∃ σ', z = ([0, (n : Int), (t : Int)], [239, 0, 0], σ') ∧ LvM σ0 (hrN x.1 t, upc (upc x.2 4 (x.2 4 + tiN x.1 t)) 3 (x.2 3 + gotN x.1 t)) σ') n ⟨σ, rfl, ?_⟩ ?_ ?_
  · have e1 : upc (upc x.2 4 (x.2 4 + tiN x.1 0)) 3 (x.2 3 + gotN x.1 0) = x.2 := by
      have t0 : tiN x.1 0 = 0 := rfl
      have g0 : gotN x.1 0 = 0 := rfl
      rw [t0, g0, Int.add_zero, Int.add_zero]
      funext k
      unfold upc
      split
      · rename_i h; rw [h]
      · split
        · rename_i h; rw [h]
        · rfl
    rw [e1]
    exact C
  · intro t z ht hz
    obtain ⟨σ1, hz, C1⟩ := hz
    subst hz
    obtain ⟨g1, g2, g3, g4⟩ := hrN_ok hw hq t (by omega)
    obtain ⟨p1, p3, p4, p5⟩ := C1
    have p1 : σ1 244 = hrN x.1 t := p1
    have gh := m_goesHour (σ := σ1) (by rw [p1]; exact g1) (by rw [p1]; exact g2) (by rw [p1, g4]; omega)
    rw [p1] at gh
    have gb := gotN_bd hw hq t (by omega)
    have tb := tiN_bd x.1 t
    have pb := ptsB_bd g1
    have sb := sizN_bd (tirB (hrN x.1 t) (bn3 (hrN x.1 t)))
    have e42 : σ1 239 42 = x.2 3 + gotN x.1 t := by rw [p3.2.2.2.1]; dsimp only; exact upc_same _ _ _
    have e43 : σ1 239 43 = x.2 4 + tiN x.1 t := by rw [p3.2.2.2.2.1]; dsimp only; rw [upc_ne (by omega), upc_same]
    have post : ∀ (r : Int) (σ2 : SS), (r = ptsB (hrN x.1 t) ∧ σ2 244 = hourB (hrN x.1 t) ∧ (∀ a, a ≠ 239 → a ≠ 244 → a ≠ 248 → a ≠ 249 → σ2 a = σ1 a) ∧ (∀ k, k ≠ 29 → σ2 239 k = σ1 239 k) ∧ σ2 239 29 = tirB (hrN x.1 t) (bn3 (hrN x.1 t))) → LvM σ0 (hrN x.1 (t + 1), upc (upc x.2 4 (x.2 4 + tiN x.1 (t + 1))) 3 (x.2 3 + gotN x.1 (t + 1))) (ups (ups σ2 239 42 (x.2 3 + gotN x.1 t + ptsB (hrN x.1 t))) 239 43 (x.2 4 + tiN x.1 t + sizN (tirB (hrN x.1 t) (bn3 (hrN x.1 t))))) := by
      intro r σ2 hr
      obtain ⟨_, r2, r3, r4, r5⟩ := hr
      have eg : gotN x.1 (t + 1) = gotN x.1 t + ptsB (hrN x.1 t) := rfl
      have et : tiN x.1 (t + 1) = tiN x.1 t + sizN (tirB (hrN x.1 t) (bn3 (hrN x.1 t))) := rfl
      have L0 : LvM σ0 (hrN x.1 (t + 1), upc (upc x.2 4 (x.2 4 + tiN x.1 t)) 3 (x.2 3 + gotN x.1 t)) σ2 := by
        refine ⟨r2, ?_, fun a h1 h2 h3 h4 => by rw [r3 a h1 h2 h3 h4]; exact p4 a h1 h2 h3 h4, fun j h1 h2 => by rw [r4 j h1]; exact p5 j h1 h2⟩
        rw [r4 39 (by omega), r4 40 (by omega), r4 41 (by omega), r4 42 (by omega), r4 43 (by omega), r4 44 (by omega), r4 37 (by omega), r4 38 (by omega)]
        exact p3
      have L1 := LvM_f L0 (f := 42) (k := 3) (by omega) (x.2 3 + gotN x.1 t + ptsB (hrN x.1 t))
      have L2 := LvM_f L1 (f := 43) (k := 4) (by omega) (x.2 4 + tiN x.1 t + sizN (tirB (hrN x.1 t) (bn3 (hrN x.1 t))))
      have ee : upc (upc (upc (upc x.2 4 (x.2 4 + tiN x.1 t)) 3 (x.2 3 + gotN x.1 t)) 3 (x.2 3 + gotN x.1 t + ptsB (hrN x.1 t))) 4 (x.2 4 + tiN x.1 t + sizN (tirB (hrN x.1 t) (bn3 (hrN x.1 t)))) = upc (upc x.2 4 (x.2 4 + tiN x.1 (t + 1))) 3 (x.2 3 + gotN x.1 (t + 1)) := by
        rw [eg, et, ← Int.add_assoc, ← Int.add_assoc]
        funext k
        unfold upc
        by_cases q3 : k = 3
        · subst q3; rfl
        · by_cases q4 : k = 4
          · subst q4; rfl
          · rw [if_neg q4, if_neg q3, if_neg q3, if_neg q4, if_neg q3, if_neg q4]
      have L2 : LvM σ0 (hrN x.1 (t + 1), upc (upc (upc (upc x.2 4 (x.2 4 + tiN x.1 t)) 3 (x.2 3 + gotN x.1 t)) 3 (x.2 3 + gotN x.1 t + ptsB (hrN x.1 t))) 4 (x.2 4 + tiN x.1 t + sizN (tirB (hrN x.1 t) (bn3 (hrN x.1 t))))) (ups (ups σ2 239 42 (x.2 3 + gotN x.1 t + ptsB (hrN x.1 t))) 239 43 (x.2 4 + tiN x.1 t + sizN (tirB (hrN x.1 t) (bn3 (hrN x.1 t))))) := L2
      rw [ee] at L2
      exact L2
    have lt : (t : Int) < n := by omega
    have b3 : 0 ≤ x.2 3 + gotN x.1 t ∧ x.2 3 + gotN x.1 t ≤ 5000000 := by omega
    have b4 : 0 ≤ x.2 4 + tiN x.1 t ∧ x.2 4 + tiN x.1 t ≤ 100000 := by omega
    generalize x.2 3 + gotN x.1 t = P3 at *
    generalize x.2 4 + tiN x.1 t = P4 at *
    clear gb tb x0 x1 x2 x3 x4 w7 hw hq g1 g2 g3 p3 p4 p5
    try simp (disch := omega) only [w_iff, iffM_t, iffM_f, iffM_d, iffM_nd, iffM_0, iffM_ite, Wd_iffM, iffM_v, w_tern, ternM_t, ternM_f, ternM_d, ternM_nd, ternM_0, ternM_ite, Wd_ternM, ternM_v, w_sw, swX_1, Wd_swX, Bool.not_true, Bool.not_false, C_X12_anyHours_0, D_X12_anyHours_0, e42, Wd_some, Wd_bn, Wd_sqM, Wd_outV, Wd_blkM, Wd_swM, Wd_ite, Wd_map, v_kS_0, v_kS_b, v_kS_r, v_kO_r, v_kW_0, v_kW_1, v_kW_2, v_kW_r, v_kL_0, v_kL_1, v_kL_2, v_kL_r, v_kU_0, ups_11, upsN, upsA, upA_same, upA_neA, fl_at, fl_neA, v_sq_eq, v_sqM_0, v_sqM_r, v_sqM_b, v_sqM_n, sqM_ite, v_asI, v_asR, v_inc, v_pfI, v_pfZ, v_pfO, v_paI, v_paO, v_exI,  v_rtI, v_rtZ, v_rtV, v_sk, v_brk, v_cnt, v_blk_eq, v_blkM_some, blkM_ite, v_lI, v_lR, v_cI, v_gI, v_gR, v_op1, v_op2, v_arI, v_arR, v_alen,  v_cmp1, v_cmp2, v_cAnd, v_cOr, v_cNot, v_cTern, v_bn_some, bn_ite, v_bn_none, v_outV_r, v_outV_0, v_outV_n, outV_ite, List.getD_cons_zero, List.getD_cons_succ, List.set_cons_zero, List.set_cons_succ, List.take_succ_cons, List.take_zero, List.drop_succ_cons, List.drop_zero, List.nil_append, List.cons_append, Option.map_some, Option.map_none, if_true, if_false, ↓reduceIte, reduceCtorEq, decide_eq_true_eq, Bool.not_eq_true', decide_eq_false_iff_not, decide_eq_true, decide_eq_false, decide_true, decide_false, and_self, and_true, true_and, or_self, stO, v_caV_, v_caV_i, v_caV_ii, v_caV_iii, v_caV_iiii, v_caV_iiiii, v_caV_il, v_caV_iil, v_caV_l, v_caV_ll, v_caV_r, v_caV_ri, v_caV_rii, v_caV_riii, v_caV_riiii, v_caV_ir, v_caV_iri, v_caV_iiri, v_caS_i, v_caS_ii, v_caS_iii, v_caS_iiii, v_caS_iiiiii, v_caS_il, v_caS_li, v_caS_ll, v_caS_lll, v_caS_ri, v_caS_riii, sh_239, sh_240, sh_241, sh_242, sh_243, sh_244, sh_245, sh_246, sh_247, sh_248, sh_249, sh_250, sh_251, sh_252, sh_253, rf_239_4, rf_239_5, rf_239_6, rf_239_7, rf_239_20, rf_239_21, rf_239_22, rf_239_23, rf_239_27, rf_239_28, rf_239_32, rf_239_33, rf_239_34, rf_239_35, Int.reduceLE, Int.reduceLT, Int.reduceToNat, Int.reduceAdd, Int.reduceSub, Int.reduceMul, Int.reduceNeg, Int.reduceEq, Int.reduceNe, Nat.reduceAdd, Nat.reduceMul, Nat.reduceLT, Nat.reduceEqDiff, or_true, true_or, or_false, false_or, and_false, false_and, not_true_eq_false, not_false_eq_true, ne_eq, cN4, cN5, cN6, cN7, cN13, cN30, cN60, cN64, cN100, cN136, cN240, cN384, cN900, cN2040, cN3,  v_swM_0, v_swM_1, v_swM_r, v_swM_n, swM_ite, app_ite, ex_some, bI_0, bI_1, nn_iff, Int.toNat_natCast, Int.toNat_of_nonneg, Int.natCast_add, cN1, wI_id2, wL_id2, ↓if_pos, ↓if_neg, if_pos, if_neg]
    refine Wd_mono gh (fun r σ2 hr => ?_)
    have po := post r σ2 hr
    have hr1 := hr.1
    have h43 : σ2 239 43 = P4 := by rw [hr.2.2.2.1 43 (by omega)]; exact e43
    have h29 := hr.2.2.2.2
    have ms := m_sizeOf (tirB (hrN x.1 t) (bn3 (hrN x.1 t)))
    generalize tirB (hrN x.1 t) (bn3 (hrN x.1 t)) = ti at *
    subst hr1
    clear hr post gh
    try simp (disch := omega) only [w_iff, iffM_t, iffM_f, iffM_d, iffM_nd, iffM_0, iffM_ite, Wd_iffM, iffM_v, w_tern, ternM_t, ternM_f, ternM_d, ternM_nd, ternM_0, ternM_ite, Wd_ternM, ternM_v, w_sw, swX_1, Wd_swX, Bool.not_true, Bool.not_false, h43, h29, ms, U_X12_anyHours_0, Wd_some, Wd_bn, Wd_sqM, Wd_outV, Wd_blkM, Wd_swM, Wd_ite, Wd_map, v_kS_0, v_kS_b, v_kS_r, v_kO_r, v_kW_0, v_kW_1, v_kW_2, v_kW_r, v_kL_0, v_kL_1, v_kL_2, v_kL_r, v_kU_0, ups_11, upsN, upsA, upA_same, upA_neA, fl_at, fl_neA, v_sq_eq, v_sqM_0, v_sqM_r, v_sqM_b, v_sqM_n, sqM_ite, v_asI, v_asR, v_inc, v_pfI, v_pfZ, v_pfO, v_paI, v_paO, v_exI,  v_rtI, v_rtZ, v_rtV, v_sk, v_brk, v_cnt, v_blk_eq, v_blkM_some, blkM_ite, v_lI, v_lR, v_cI, v_gI, v_gR, v_op1, v_op2, v_arI, v_arR, v_alen,  v_cmp1, v_cmp2, v_cAnd, v_cOr, v_cNot, v_cTern, v_bn_some, bn_ite, v_bn_none, v_outV_r, v_outV_0, v_outV_n, outV_ite, List.getD_cons_zero, List.getD_cons_succ, List.set_cons_zero, List.set_cons_succ, List.take_succ_cons, List.take_zero, List.drop_succ_cons, List.drop_zero, List.nil_append, List.cons_append, Option.map_some, Option.map_none, if_true, if_false, ↓reduceIte, reduceCtorEq, decide_eq_true_eq, Bool.not_eq_true', decide_eq_false_iff_not, decide_eq_true, decide_eq_false, decide_true, decide_false, and_self, and_true, true_and, or_self, stO, v_caV_, v_caV_i, v_caV_ii, v_caV_iii, v_caV_iiii, v_caV_iiiii, v_caV_il, v_caV_iil, v_caV_l, v_caV_ll, v_caV_r, v_caV_ri, v_caV_rii, v_caV_riii, v_caV_riiii, v_caV_ir, v_caV_iri, v_caV_iiri, v_caS_i, v_caS_ii, v_caS_iii, v_caS_iiii, v_caS_iiiiii, v_caS_il, v_caS_li, v_caS_ll, v_caS_lll, v_caS_ri, v_caS_riii, sh_239, sh_240, sh_241, sh_242, sh_243, sh_244, sh_245, sh_246, sh_247, sh_248, sh_249, sh_250, sh_251, sh_252, sh_253, rf_239_4, rf_239_5, rf_239_6, rf_239_7, rf_239_20, rf_239_21, rf_239_22, rf_239_23, rf_239_27, rf_239_28, rf_239_32, rf_239_33, rf_239_34, rf_239_35, Int.reduceLE, Int.reduceLT, Int.reduceToNat, Int.reduceAdd, Int.reduceSub, Int.reduceMul, Int.reduceNeg, Int.reduceEq, Int.reduceNe, Nat.reduceAdd, Nat.reduceMul, Nat.reduceLT, Nat.reduceEqDiff, or_true, true_or, or_false, false_or, and_false, false_and, not_true_eq_false, not_false_eq_true, ne_eq, cN4, cN5, cN6, cN7, cN13, cN30, cN60, cN64, cN100, cN136, cN240, cN384, cN900, cN2040, cN3,  v_swM_0, v_swM_1, v_swM_r, v_swM_n, swM_ite, app_ite, ex_some, bI_0, bI_1, nn_iff, Int.toNat_natCast, Int.toNat_of_nonneg, Int.natCast_add, cN1, wI_id2, wL_id2, ↓if_pos, ↓if_neg, if_pos, if_neg]
    exact ⟨_, rfl, po⟩
  · intro z hz
    obtain ⟨σ1, hz, C1⟩ := hz
    subst hz
    have ng : ¬ (n : Int) < n := by omega
    try simp (disch := omega) only [w_iff, iffM_t, iffM_f, iffM_d, iffM_nd, iffM_0, iffM_ite, Wd_iffM, iffM_v, w_tern, ternM_t, ternM_f, ternM_d, ternM_nd, ternM_0, ternM_ite, Wd_ternM, ternM_v, w_sw, swX_1, Wd_swX, Bool.not_true, Bool.not_false, C_X12_anyHours_0, ng, Wd_some, Wd_bn, Wd_sqM, Wd_outV, Wd_blkM, Wd_swM, Wd_ite, Wd_map, v_kS_0, v_kS_b, v_kS_r, v_kO_r, v_kW_0, v_kW_1, v_kW_2, v_kW_r, v_kL_0, v_kL_1, v_kL_2, v_kL_r, v_kU_0, ups_11, upsN, upsA, upA_same, upA_neA, fl_at, fl_neA, v_sq_eq, v_sqM_0, v_sqM_r, v_sqM_b, v_sqM_n, sqM_ite, v_asI, v_asR, v_inc, v_pfI, v_pfZ, v_pfO, v_paI, v_paO, v_exI,  v_rtI, v_rtZ, v_rtV, v_sk, v_brk, v_cnt, v_blk_eq, v_blkM_some, blkM_ite, v_lI, v_lR, v_cI, v_gI, v_gR, v_op1, v_op2, v_arI, v_arR, v_alen,  v_cmp1, v_cmp2, v_cAnd, v_cOr, v_cNot, v_cTern, v_bn_some, bn_ite, v_bn_none, v_outV_r, v_outV_0, v_outV_n, outV_ite, List.getD_cons_zero, List.getD_cons_succ, List.set_cons_zero, List.set_cons_succ, List.take_succ_cons, List.take_zero, List.drop_succ_cons, List.drop_zero, List.nil_append, List.cons_append, Option.map_some, Option.map_none, if_true, if_false, ↓reduceIte, reduceCtorEq, decide_eq_true_eq, Bool.not_eq_true', decide_eq_false_iff_not, decide_eq_true, decide_eq_false, decide_true, decide_false, and_self, and_true, true_and, or_self, stO, v_caV_, v_caV_i, v_caV_ii, v_caV_iii, v_caV_iiii, v_caV_iiiii, v_caV_il, v_caV_iil, v_caV_l, v_caV_ll, v_caV_r, v_caV_ri, v_caV_rii, v_caV_riii, v_caV_riiii, v_caV_ir, v_caV_iri, v_caV_iiri, v_caS_i, v_caS_ii, v_caS_iii, v_caS_iiii, v_caS_iiiiii, v_caS_il, v_caS_li, v_caS_ll, v_caS_lll, v_caS_ri, v_caS_riii, sh_239, sh_240, sh_241, sh_242, sh_243, sh_244, sh_245, sh_246, sh_247, sh_248, sh_249, sh_250, sh_251, sh_252, sh_253, rf_239_4, rf_239_5, rf_239_6, rf_239_7, rf_239_20, rf_239_21, rf_239_22, rf_239_23, rf_239_27, rf_239_28, rf_239_32, rf_239_33, rf_239_34, rf_239_35, Int.reduceLE, Int.reduceLT, Int.reduceToNat, Int.reduceAdd, Int.reduceSub, Int.reduceMul, Int.reduceNeg, Int.reduceEq, Int.reduceNe, Nat.reduceAdd, Nat.reduceMul, Nat.reduceLT, Nat.reduceEqDiff, or_true, true_or, or_false, false_or, and_false, false_and, not_true_eq_false, not_false_eq_true, ne_eq, cN4, cN5, cN6, cN7, cN13, cN30, cN60, cN64, cN100, cN136, cN240, cN384, cN900, cN2040, cN3,  v_swM_0, v_swM_1, v_swM_r, v_swM_n, swM_ite, app_ite, ex_some, bI_0, bI_1, nn_iff, Int.toNat_natCast, Int.toNat_of_nonneg, Int.natCast_add, cN1, wI_id2, wL_id2, ↓if_pos, ↓if_neg, if_pos, if_neg]
    exact ⟨σ1, rfl, C1⟩
def DmQ (σ0 : SS) (q : Int × LvT) (r : Int) (σ' : SS) : Prop := r = q.1 ∧ LvM σ0 q.2 σ'
theorem m_anyHours (W : LvX c0 x) (C : LvM σ0 x σ) {n : Nat} (hn : 1 ≤ n ∧ n ≤ 20) : Wd (F_X12_anyHours 239 n σ) (DmQ σ0 (hrP n x)) := by
  have e7 : σ 244 7 = x.1 7 := by rw [C.1]
  have hH := W.1.1
  have b7 : 0 ≤ x.1 7 ∧ x.1 7 ≤ 12000 := by omega
  unfold hrP
  by_cases g : 9999 < x.1 7 + (n : Int)
  · rw [if_pos g]
    have po : DmQ σ0 (0, x) 0 σ := ⟨rfl, C⟩
    clear hH W C
    try simp (disch := omega) only [w_iff, iffM_t, iffM_f, iffM_d, iffM_nd, iffM_0, iffM_ite, Wd_iffM, iffM_v, w_tern, ternM_t, ternM_f, ternM_d, ternM_nd, ternM_0, ternM_ite, Wd_ternM, ternM_v, w_sw, swX_1, Wd_swX, Bool.not_true, Bool.not_false, F_X12_anyHours, E_X12_anyHours, e7, g, Wd_some, Wd_bn, Wd_sqM, Wd_outV, Wd_blkM, Wd_swM, Wd_ite, Wd_map, v_kS_0, v_kS_b, v_kS_r, v_kO_r, v_kW_0, v_kW_1, v_kW_2, v_kW_r, v_kL_0, v_kL_1, v_kL_2, v_kL_r, v_kU_0, ups_11, upsN, upsA, upA_same, upA_neA, fl_at, fl_neA, v_sq_eq, v_sqM_0, v_sqM_r, v_sqM_b, v_sqM_n, sqM_ite, v_asI, v_asR, v_inc, v_pfI, v_pfZ, v_pfO, v_paI, v_paO, v_exI,  v_rtI, v_rtZ, v_rtV, v_sk, v_brk, v_cnt, v_blk_eq, v_blkM_some, blkM_ite, v_lI, v_lR, v_cI, v_gI, v_gR, v_op1, v_op2, v_arI, v_arR, v_alen,  v_cmp1, v_cmp2, v_cAnd, v_cOr, v_cNot, v_cTern, v_bn_some, bn_ite, v_bn_none, v_outV_r, v_outV_0, v_outV_n, outV_ite, List.getD_cons_zero, List.getD_cons_succ, List.set_cons_zero, List.set_cons_succ, List.take_succ_cons, List.take_zero, List.drop_succ_cons, List.drop_zero, List.nil_append, List.cons_append, Option.map_some, Option.map_none, if_true, if_false, ↓reduceIte, reduceCtorEq, decide_eq_true_eq, Bool.not_eq_true', decide_eq_false_iff_not, decide_eq_true, decide_eq_false, decide_true, decide_false, and_self, and_true, true_and, or_self, stO, v_caV_, v_caV_i, v_caV_ii, v_caV_iii, v_caV_iiii, v_caV_iiiii, v_caV_il, v_caV_iil, v_caV_l, v_caV_ll, v_caV_r, v_caV_ri, v_caV_rii, v_caV_riii, v_caV_riiii, v_caV_ir, v_caV_iri, v_caV_iiri, v_caS_i, v_caS_ii, v_caS_iii, v_caS_iiii, v_caS_iiiiii, v_caS_il, v_caS_li, v_caS_ll, v_caS_lll, v_caS_ri, v_caS_riii, sh_239, sh_240, sh_241, sh_242, sh_243, sh_244, sh_245, sh_246, sh_247, sh_248, sh_249, sh_250, sh_251, sh_252, sh_253, rf_239_4, rf_239_5, rf_239_6, rf_239_7, rf_239_20, rf_239_21, rf_239_22, rf_239_23, rf_239_27, rf_239_28, rf_239_32, rf_239_33, rf_239_34, rf_239_35, Int.reduceLE, Int.reduceLT, Int.reduceToNat, Int.reduceAdd, Int.reduceSub, Int.reduceMul, Int.reduceNeg, Int.reduceEq, Int.reduceNe, Nat.reduceAdd, Nat.reduceMul, Nat.reduceLT, Nat.reduceEqDiff, or_true, true_or, or_false, false_or, and_false, false_and, not_true_eq_false, not_false_eq_true, ne_eq, cN4, cN5, cN6, cN7, cN13, cN30, cN60, cN64, cN100, cN136, cN240, cN384, cN900, cN2040, cN3,  v_swM_0, v_swM_1, v_swM_r, v_swM_n, swM_ite, app_ite, ex_some, bI_0, bI_1, nn_iff, Int.toNat_natCast, Int.toNat_of_nonneg, Int.natCast_add, cN1, wI_id2, wL_id2, ↓if_pos, ↓if_neg, if_pos, if_neg]
    exact po
  · rw [if_neg g, show ((n : Int)).toNat = n by omega]
    have lp := ml_anyH W C (n := n) (by omega) g
    have b2 : 0 ≤ x.2 2 ∧ x.2 2 ≤ 6000 := by have := W.2.2.2.2.2.2.2.1; have := W.2.2.2.2.2.1; omega
    clear hH W C
    try simp (disch := omega) only [w_iff, iffM_t, iffM_f, iffM_d, iffM_nd, iffM_0, iffM_ite, Wd_iffM, iffM_v, w_tern, ternM_t, ternM_f, ternM_d, ternM_nd, ternM_0, ternM_ite, Wd_ternM, ternM_v, w_sw, swX_1, Wd_swX, Bool.not_true, Bool.not_false, F_X12_anyHours, E_X12_anyHours, e7, g, Wd_some, Wd_bn, Wd_sqM, Wd_outV, Wd_blkM, Wd_swM, Wd_ite, Wd_map, v_kS_0, v_kS_b, v_kS_r, v_kO_r, v_kW_0, v_kW_1, v_kW_2, v_kW_r, v_kL_0, v_kL_1, v_kL_2, v_kL_r, v_kU_0, ups_11, upsN, upsA, upA_same, upA_neA, fl_at, fl_neA, v_sq_eq, v_sqM_0, v_sqM_r, v_sqM_b, v_sqM_n, sqM_ite, v_asI, v_asR, v_inc, v_pfI, v_pfZ, v_pfO, v_paI, v_paO, v_exI,  v_rtI, v_rtZ, v_rtV, v_sk, v_brk, v_cnt, v_blk_eq, v_blkM_some, blkM_ite, v_lI, v_lR, v_cI, v_gI, v_gR, v_op1, v_op2, v_arI, v_arR, v_alen,  v_cmp1, v_cmp2, v_cAnd, v_cOr, v_cNot, v_cTern, v_bn_some, bn_ite, v_bn_none, v_outV_r, v_outV_0, v_outV_n, outV_ite, List.getD_cons_zero, List.getD_cons_succ, List.set_cons_zero, List.set_cons_succ, List.take_succ_cons, List.take_zero, List.drop_succ_cons, List.drop_zero, List.nil_append, List.cons_append, Option.map_some, Option.map_none, if_true, if_false, ↓reduceIte, reduceCtorEq, decide_eq_true_eq, Bool.not_eq_true', decide_eq_false_iff_not, decide_eq_true, decide_eq_false, decide_true, decide_false, and_self, and_true, true_and, or_self, stO, v_caV_, v_caV_i, v_caV_ii, v_caV_iii, v_caV_iiii, v_caV_iiiii, v_caV_il, v_caV_iil, v_caV_l, v_caV_ll, v_caV_r, v_caV_ri, v_caV_rii, v_caV_riii, v_caV_riiii, v_caV_ir, v_caV_iri, v_caV_iiri, v_caS_i, v_caS_ii, v_caS_iii, v_caS_iiii, v_caS_iiiiii, v_caS_il, v_caS_li, v_caS_ll, v_caS_lll, v_caS_ri, v_caS_riii, sh_239, sh_240, sh_241, sh_242, sh_243, sh_244, sh_245, sh_246, sh_247, sh_248, sh_249, sh_250, sh_251, sh_252, sh_253, rf_239_4, rf_239_5, rf_239_6, rf_239_7, rf_239_20, rf_239_21, rf_239_22, rf_239_23, rf_239_27, rf_239_28, rf_239_32, rf_239_33, rf_239_34, rf_239_35, Int.reduceLE, Int.reduceLT, Int.reduceToNat, Int.reduceAdd, Int.reduceSub, Int.reduceMul, Int.reduceNeg, Int.reduceEq, Int.reduceNe, Nat.reduceAdd, Nat.reduceMul, Nat.reduceLT, Nat.reduceEqDiff, or_true, true_or, or_false, false_or, and_false, false_and, not_true_eq_false, not_false_eq_true, ne_eq, cN4, cN5, cN6, cN7, cN13, cN30, cN60, cN64, cN100, cN136, cN240, cN384, cN900, cN2040, cN3,  v_swM_0, v_swM_1, v_swM_r, v_swM_n, swM_ite, app_ite, ex_some, bI_0, bI_1, nn_iff, Int.toNat_natCast, Int.toNat_of_nonneg, Int.natCast_add, cN1, wI_id2, wL_id2, ↓if_pos, ↓if_neg, if_pos, if_neg]
    refine Wd_mono lp (fun o z hz => ?_)
    obtain ⟨ho, σ1, hz, C1⟩ := hz
    subst ho; subst hz
    have e41 : σ1 239 41 = x.2 2 := by
      rw [C1.2.1.2.2.1]
      dsimp only
      rw [upc_ne (by omega), upc_ne (by omega)]
    have C2 := LvM_f C1 (f := 41) (k := 2) (by omega) (x.2 2 + n)
    have po : DmQ σ0 (1, (hrN x.1 n, upc (upc (upc x.2 4 (x.2 4 + tiN x.1 n)) 3 (x.2 3 + gotN x.1 n)) 2 (x.2 2 + n))) 1 (ups σ1 239 41 (x.2 2 + n)) := ⟨rfl, C2⟩
    clear C1 C2
    try simp (disch := omega) only [w_iff, iffM_t, iffM_f, iffM_d, iffM_nd, iffM_0, iffM_ite, Wd_iffM, iffM_v, w_tern, ternM_t, ternM_f, ternM_d, ternM_nd, ternM_0, ternM_ite, Wd_ternM, ternM_v, w_sw, swX_1, Wd_swX, Bool.not_true, Bool.not_false, e41, Wd_some, Wd_bn, Wd_sqM, Wd_outV, Wd_blkM, Wd_swM, Wd_ite, Wd_map, v_kS_0, v_kS_b, v_kS_r, v_kO_r, v_kW_0, v_kW_1, v_kW_2, v_kW_r, v_kL_0, v_kL_1, v_kL_2, v_kL_r, v_kU_0, ups_11, upsN, upsA, upA_same, upA_neA, fl_at, fl_neA, v_sq_eq, v_sqM_0, v_sqM_r, v_sqM_b, v_sqM_n, sqM_ite, v_asI, v_asR, v_inc, v_pfI, v_pfZ, v_pfO, v_paI, v_paO, v_exI,  v_rtI, v_rtZ, v_rtV, v_sk, v_brk, v_cnt, v_blk_eq, v_blkM_some, blkM_ite, v_lI, v_lR, v_cI, v_gI, v_gR, v_op1, v_op2, v_arI, v_arR, v_alen,  v_cmp1, v_cmp2, v_cAnd, v_cOr, v_cNot, v_cTern, v_bn_some, bn_ite, v_bn_none, v_outV_r, v_outV_0, v_outV_n, outV_ite, List.getD_cons_zero, List.getD_cons_succ, List.set_cons_zero, List.set_cons_succ, List.take_succ_cons, List.take_zero, List.drop_succ_cons, List.drop_zero, List.nil_append, List.cons_append, Option.map_some, Option.map_none, if_true, if_false, ↓reduceIte, reduceCtorEq, decide_eq_true_eq, Bool.not_eq_true', decide_eq_false_iff_not, decide_eq_true, decide_eq_false, decide_true, decide_false, and_self, and_true, true_and, or_self, stO, v_caV_, v_caV_i, v_caV_ii, v_caV_iii, v_caV_iiii, v_caV_iiiii, v_caV_il, v_caV_iil, v_caV_l, v_caV_ll, v_caV_r, v_caV_ri, v_caV_rii, v_caV_riii, v_caV_riiii, v_caV_ir, v_caV_iri, v_caV_iiri, v_caS_i, v_caS_ii, v_caS_iii, v_caS_iiii, v_caS_iiiiii, v_caS_il, v_caS_li, v_caS_ll, v_caS_lll, v_caS_ri, v_caS_riii, sh_239, sh_240, sh_241, sh_242, sh_243, sh_244, sh_245, sh_246, sh_247, sh_248, sh_249, sh_250, sh_251, sh_252, sh_253, rf_239_4, rf_239_5, rf_239_6, rf_239_7, rf_239_20, rf_239_21, rf_239_22, rf_239_23, rf_239_27, rf_239_28, rf_239_32, rf_239_33, rf_239_34, rf_239_35, Int.reduceLE, Int.reduceLT, Int.reduceToNat, Int.reduceAdd, Int.reduceSub, Int.reduceMul, Int.reduceNeg, Int.reduceEq, Int.reduceNe, Nat.reduceAdd, Nat.reduceMul, Nat.reduceLT, Nat.reduceEqDiff, or_true, true_or, or_false, false_or, and_false, false_and, not_true_eq_false, not_false_eq_true, ne_eq, cN4, cN5, cN6, cN7, cN13, cN30, cN60, cN64, cN100, cN136, cN240, cN384, cN900, cN2040, cN3,  v_swM_0, v_swM_1, v_swM_r, v_swM_n, swM_ite, app_ite, ex_some, bI_0, bI_1, nn_iff, Int.toNat_natCast, Int.toNat_of_nonneg, Int.natCast_add, cN1, wI_id2, wL_id2, ↓if_pos, ↓if_neg, if_pos, if_neg]
    exact po
theorem m_wdP (C : LvM σ0 x σ) (v : Int) : ∃ σ', F_X12_becomes 239 8 v σ = some ((wdP v x).1, σ') ∧ LvM σ0 (wdP v x).2 σ' := by
  have q := m_becomes (x := 8) (by omega) v σ
  have e : σ 244 (8 : Int).toNat = x.1 8 := by rw [C.1]; rfl
  rw [e] at q
  unfold wdP
  by_cases g : x.1 8 = v
  · rw [if_pos g] at q
    rw [if_pos g]
    exact ⟨σ, q, C⟩
  · rw [if_neg g] at q
    rw [if_neg g]
    exact ⟨_, q, LvM_c C v⟩
theorem m_rnP (C : LvM σ0 x σ) (v : Int) : ∃ σ', F_X12_becomes 239 9 v σ = some ((rnP v x).1, σ') ∧ LvM σ0 (rnP v x).2 σ' := by
  have q := m_becomes (x := 9) (by omega) v σ
  have e : σ 244 (9 : Int).toNat = x.1 9 := by rw [C.1]; rfl
  rw [e] at q
  unfold rnP
  by_cases g : x.1 9 = v
  · rw [if_pos g] at q
    rw [if_pos g]
    exact ⟨σ, q, C⟩
  · rw [if_neg g] at q
    rw [if_neg g]
    exact ⟨_, q, LvM_c C v⟩
theorem m_isSet (W : LvX c0 x) (C : LvM σ0 x σ) {b k : Nat} (hb : (b : Int) < x.1 3) (hk : k < 6) (e : Int) : Wd (F_X12_isSet 239 b k e σ) (DmQ σ0 (stP b k e x)) := by
  have hH := W.1.1
  have b6 : b < 6 := by omega
  have t1 : (64 + (b : Int)).toNat = 64 + b := by omega
  have t2 : (70 + 6 * (b : Int) + (k : Int)).toNat = 70 + 6 * b + k := by omega
  have e64 : σ 244 (64 + b) = x.1 (64 + b) := by rw [C.1]
  unfold stP
  rw [t1, t2]
  by_cases g : x.1 (64 + b) ≤ (k : Int)
  · rw [if_pos g]
    have po : DmQ σ0 (0, x) 0 σ := ⟨rfl, C⟩
    clear hH W C
    try simp (disch := omega) only [w_iff, iffM_t, iffM_f, iffM_d, iffM_nd, iffM_0, iffM_ite, Wd_iffM, iffM_v, w_tern, ternM_t, ternM_f, ternM_d, ternM_nd, ternM_0, ternM_ite, Wd_ternM, ternM_v, w_sw, swX_1, Wd_swX, Bool.not_true, Bool.not_false, F_X12_isSet, B_X12_isSet, t1, e64, g, Wd_some, Wd_bn, Wd_sqM, Wd_outV, Wd_blkM, Wd_swM, Wd_ite, Wd_map, v_kS_0, v_kS_b, v_kS_r, v_kO_r, v_kW_0, v_kW_1, v_kW_2, v_kW_r, v_kL_0, v_kL_1, v_kL_2, v_kL_r, v_kU_0, ups_11, upsN, upsA, upA_same, upA_neA, fl_at, fl_neA, v_sq_eq, v_sqM_0, v_sqM_r, v_sqM_b, v_sqM_n, sqM_ite, v_asI, v_asR, v_inc, v_pfI, v_pfZ, v_pfO, v_paI, v_paO, v_exI,  v_rtI, v_rtZ, v_rtV, v_sk, v_brk, v_cnt, v_blk_eq, v_blkM_some, blkM_ite, v_lI, v_lR, v_cI, v_gI, v_gR, v_op1, v_op2, v_arI, v_arR, v_alen,  v_cmp1, v_cmp2, v_cAnd, v_cOr, v_cNot, v_cTern, v_bn_some, bn_ite, v_bn_none, v_outV_r, v_outV_0, v_outV_n, outV_ite, List.getD_cons_zero, List.getD_cons_succ, List.set_cons_zero, List.set_cons_succ, List.take_succ_cons, List.take_zero, List.drop_succ_cons, List.drop_zero, List.nil_append, List.cons_append, Option.map_some, Option.map_none, if_true, if_false, ↓reduceIte, reduceCtorEq, decide_eq_true_eq, Bool.not_eq_true', decide_eq_false_iff_not, decide_eq_true, decide_eq_false, decide_true, decide_false, and_self, and_true, true_and, or_self, stO, v_caV_, v_caV_i, v_caV_ii, v_caV_iii, v_caV_iiii, v_caV_iiiii, v_caV_il, v_caV_iil, v_caV_l, v_caV_ll, v_caV_r, v_caV_ri, v_caV_rii, v_caV_riii, v_caV_riiii, v_caV_ir, v_caV_iri, v_caV_iiri, v_caS_i, v_caS_ii, v_caS_iii, v_caS_iiii, v_caS_iiiiii, v_caS_il, v_caS_li, v_caS_ll, v_caS_lll, v_caS_ri, v_caS_riii, sh_239, sh_240, sh_241, sh_242, sh_243, sh_244, sh_245, sh_246, sh_247, sh_248, sh_249, sh_250, sh_251, sh_252, sh_253, rf_239_4, rf_239_5, rf_239_6, rf_239_7, rf_239_20, rf_239_21, rf_239_22, rf_239_23, rf_239_27, rf_239_28, rf_239_32, rf_239_33, rf_239_34, rf_239_35, Int.reduceLE, Int.reduceLT, Int.reduceToNat, Int.reduceAdd, Int.reduceSub, Int.reduceMul, Int.reduceNeg, Int.reduceEq, Int.reduceNe, Nat.reduceAdd, Nat.reduceMul, Nat.reduceLT, Nat.reduceEqDiff, or_true, true_or, or_false, false_or, and_false, false_and, not_true_eq_false, not_false_eq_true, ne_eq, cN4, cN5, cN6, cN7, cN13, cN30, cN60, cN64, cN100, cN136, cN240, cN384, cN900, cN2040, cN3,  v_swM_0, v_swM_1, v_swM_r, v_swM_n, swM_ite, app_ite, ex_some, bI_0, bI_1, nn_iff, Int.toNat_natCast, Int.toNat_of_nonneg, Int.natCast_add, cN1, wI_id2, wL_id2, ↓if_pos, ↓if_neg, if_pos, if_neg]
    exact po
  · rw [if_neg g]
    have po : DmQ σ0 (1, (upc x.1 (70 + 6 * b + k) e, x.2)) 1 (ups σ 244 (70 + 6 * b + k) e) := ⟨rfl, LvM_c C e⟩
    clear hH W C
    try simp (disch := omega) only [w_iff, iffM_t, iffM_f, iffM_d, iffM_nd, iffM_0, iffM_ite, Wd_iffM, iffM_v, w_tern, ternM_t, ternM_f, ternM_d, ternM_nd, ternM_0, ternM_ite, Wd_ternM, ternM_v, w_sw, swX_1, Wd_swX, Bool.not_true, Bool.not_false, F_X12_isSet, B_X12_isSet, t1, t2, e64, g, Wd_some, Wd_bn, Wd_sqM, Wd_outV, Wd_blkM, Wd_swM, Wd_ite, Wd_map, v_kS_0, v_kS_b, v_kS_r, v_kO_r, v_kW_0, v_kW_1, v_kW_2, v_kW_r, v_kL_0, v_kL_1, v_kL_2, v_kL_r, v_kU_0, ups_11, upsN, upsA, upA_same, upA_neA, fl_at, fl_neA, v_sq_eq, v_sqM_0, v_sqM_r, v_sqM_b, v_sqM_n, sqM_ite, v_asI, v_asR, v_inc, v_pfI, v_pfZ, v_pfO, v_paI, v_paO, v_exI,  v_rtI, v_rtZ, v_rtV, v_sk, v_brk, v_cnt, v_blk_eq, v_blkM_some, blkM_ite, v_lI, v_lR, v_cI, v_gI, v_gR, v_op1, v_op2, v_arI, v_arR, v_alen,  v_cmp1, v_cmp2, v_cAnd, v_cOr, v_cNot, v_cTern, v_bn_some, bn_ite, v_bn_none, v_outV_r, v_outV_0, v_outV_n, outV_ite, List.getD_cons_zero, List.getD_cons_succ, List.set_cons_zero, List.set_cons_succ, List.take_succ_cons, List.take_zero, List.drop_succ_cons, List.drop_zero, List.nil_append, List.cons_append, Option.map_some, Option.map_none, if_true, if_false, ↓reduceIte, reduceCtorEq, decide_eq_true_eq, Bool.not_eq_true', decide_eq_false_iff_not, decide_eq_true, decide_eq_false, decide_true, decide_false, and_self, and_true, true_and, or_self, stO, v_caV_, v_caV_i, v_caV_ii, v_caV_iii, v_caV_iiii, v_caV_iiiii, v_caV_il, v_caV_iil, v_caV_l, v_caV_ll, v_caV_r, v_caV_ri, v_caV_rii, v_caV_riii, v_caV_riiii, v_caV_ir, v_caV_iri, v_caV_iiri, v_caS_i, v_caS_ii, v_caS_iii, v_caS_iiii, v_caS_iiiiii, v_caS_il, v_caS_li, v_caS_ll, v_caS_lll, v_caS_ri, v_caS_riii, sh_239, sh_240, sh_241, sh_242, sh_243, sh_244, sh_245, sh_246, sh_247, sh_248, sh_249, sh_250, sh_251, sh_252, sh_253, rf_239_4, rf_239_5, rf_239_6, rf_239_7, rf_239_20, rf_239_21, rf_239_22, rf_239_23, rf_239_27, rf_239_28, rf_239_32, rf_239_33, rf_239_34, rf_239_35, Int.reduceLE, Int.reduceLT, Int.reduceToNat, Int.reduceAdd, Int.reduceSub, Int.reduceMul, Int.reduceNeg, Int.reduceEq, Int.reduceNe, Nat.reduceAdd, Nat.reduceMul, Nat.reduceLT, Nat.reduceEqDiff, or_true, true_or, or_false, false_or, and_false, false_and, not_true_eq_false, not_false_eq_true, ne_eq, cN4, cN5, cN6, cN7, cN13, cN30, cN60, cN64, cN100, cN136, cN240, cN384, cN900, cN2040, cN3,  v_swM_0, v_swM_1, v_swM_r, v_swM_n, swM_ite, app_ite, ex_some, bI_0, bI_1, nn_iff, Int.toNat_natCast, Int.toNat_of_nonneg, Int.natCast_add, cN1, wI_id2, wL_id2, ↓if_pos, ↓if_neg, if_pos, if_neg]
    exact po
theorem m_isAny (W : LvX c0 x) (C : LvM σ0 x σ) : Wd (F_X12_isAny 239 σ) (DmQ σ0 (1, anP x)) := by
  have dr := W.2.2.2.2.2.2.2.2.2.2.2.2
  have d7 : σ 239 38 = x.2 7 := C.2.1.2.2.2.2.2.2.2
  have dw1 := m_drawL d7 dr (y := 16) (by omega)
  have C1 := LvM_f C (f := 38) (k := 7) (by omega) (drN (x.2 7))
  have h6 : ups σ 239 38 (drN (x.2 7)) 244 6 = x.1 6 := by try simp (disch := omega) only [ups_11, upsN, upsA, upA_same, upA_neA, fl_at, fl_neA]; rw [C.1]
  obtain ⟨rv, hrv⟩ : ∃ rv : Int, rv = if drN (x.2 7) / 8 % 16 < x.1 6 then 1 else 0 := ⟨_, rfl⟩
  have C2 := LvM_c C1 (k := 9) rv
  have d7b : ups (ups σ 239 38 (drN (x.2 7))) 244 9 rv 239 38 = drN (x.2 7) := by try simp (disch := omega) only [ups_11, upsN, upsA, upA_same, upA_neA, fl_at, fl_neA]
  have dw2 := m_drawL d7b (drN_bd _) (y := 5) (by omega)
  have C3 := LvM_f C2 (f := 38) (k := 7) (by omega) (drN (drN (x.2 7)))
  have C4 := LvM_c C3 (k := 8) (drN (drN (x.2 7)) / 8 % 5)
  have ed : upc (upc x.2 7 (drN (x.2 7))) 7 (drN (drN (x.2 7))) = upc x.2 7 (drN (drN (x.2 7))) := by
    funext z
    unfold upc
    split <;> rfl
  have C4 : LvM σ0 (upc (upc x.1 9 rv) 8 (drN (drN (x.2 7)) / 8 % 5), upc (upc x.2 7 (drN (x.2 7))) 7 (drN (drN (x.2 7)))) (ups (ups (ups (ups σ 239 38 (drN (x.2 7))) 244 9 rv) 239 38 (drN (drN (x.2 7)))) 244 8 (drN (drN (x.2 7)) / 8 % 5)) := C4
  rw [ed] at C4
  have po : DmQ σ0 (1, anP x) 1 (ups (ups (ups (ups σ 239 38 (drN (x.2 7))) 244 9 rv) 239 38 (drN (drN (x.2 7)))) 244 8 (drN (drN (x.2 7)) / 8 % 5)) := by
    refine ⟨rfl, ?_⟩
    show LvM σ0 (anP x) _
    unfold anP
    rw [← hrv]
    exact C4
  generalize drN (drN (x.2 7)) / 8 % 5 = v5 at *
  generalize drN (drN (x.2 7)) = D2 at *
  generalize drN (x.2 7) = D1 at *
  generalize D1 / 8 % 16 = v16 at *
  clear W C C1 C2 C3 C4 dr
  by_cases g : v16 < x.1 6
  · rw [if_pos g] at hrv
    subst hrv
    try simp (disch := omega) only [w_iff, iffM_t, iffM_f, iffM_d, iffM_nd, iffM_0, iffM_ite, Wd_iffM, iffM_v, w_tern, ternM_t, ternM_f, ternM_d, ternM_nd, ternM_0, ternM_ite, Wd_ternM, ternM_v, w_sw, swX_1, Wd_swX, Bool.not_true, Bool.not_false, F_X12_isAny, B_X12_isAny, dw1, h6, g, dw2, Wd_some, Wd_bn, Wd_sqM, Wd_outV, Wd_blkM, Wd_swM, Wd_ite, Wd_map, v_kS_0, v_kS_b, v_kS_r, v_kO_r, v_kW_0, v_kW_1, v_kW_2, v_kW_r, v_kL_0, v_kL_1, v_kL_2, v_kL_r, v_kU_0, ups_11, upsN, upsA, upA_same, upA_neA, fl_at, fl_neA, v_sq_eq, v_sqM_0, v_sqM_r, v_sqM_b, v_sqM_n, sqM_ite, v_asI, v_asR, v_inc, v_pfI, v_pfZ, v_pfO, v_paI, v_paO, v_exI,  v_rtI, v_rtZ, v_rtV, v_sk, v_brk, v_cnt, v_blk_eq, v_blkM_some, blkM_ite, v_lI, v_lR, v_cI, v_gI, v_gR, v_op1, v_op2, v_arI, v_arR, v_alen,  v_cmp1, v_cmp2, v_cAnd, v_cOr, v_cNot, v_cTern, v_bn_some, bn_ite, v_bn_none, v_outV_r, v_outV_0, v_outV_n, outV_ite, List.getD_cons_zero, List.getD_cons_succ, List.set_cons_zero, List.set_cons_succ, List.take_succ_cons, List.take_zero, List.drop_succ_cons, List.drop_zero, List.nil_append, List.cons_append, Option.map_some, Option.map_none, if_true, if_false, ↓reduceIte, reduceCtorEq, decide_eq_true_eq, Bool.not_eq_true', decide_eq_false_iff_not, decide_eq_true, decide_eq_false, decide_true, decide_false, and_self, and_true, true_and, or_self, stO, v_caV_, v_caV_i, v_caV_ii, v_caV_iii, v_caV_iiii, v_caV_iiiii, v_caV_il, v_caV_iil, v_caV_l, v_caV_ll, v_caV_r, v_caV_ri, v_caV_rii, v_caV_riii, v_caV_riiii, v_caV_ir, v_caV_iri, v_caV_iiri, v_caS_i, v_caS_ii, v_caS_iii, v_caS_iiii, v_caS_iiiiii, v_caS_il, v_caS_li, v_caS_ll, v_caS_lll, v_caS_ri, v_caS_riii, sh_239, sh_240, sh_241, sh_242, sh_243, sh_244, sh_245, sh_246, sh_247, sh_248, sh_249, sh_250, sh_251, sh_252, sh_253, rf_239_4, rf_239_5, rf_239_6, rf_239_7, rf_239_20, rf_239_21, rf_239_22, rf_239_23, rf_239_27, rf_239_28, rf_239_32, rf_239_33, rf_239_34, rf_239_35, Int.reduceLE, Int.reduceLT, Int.reduceToNat, Int.reduceAdd, Int.reduceSub, Int.reduceMul, Int.reduceNeg, Int.reduceEq, Int.reduceNe, Nat.reduceAdd, Nat.reduceMul, Nat.reduceLT, Nat.reduceEqDiff, or_true, true_or, or_false, false_or, and_false, false_and, not_true_eq_false, not_false_eq_true, ne_eq, cN4, cN5, cN6, cN7, cN13, cN30, cN60, cN64, cN100, cN136, cN240, cN384, cN900, cN2040, cN3,  v_swM_0, v_swM_1, v_swM_r, v_swM_n, swM_ite, app_ite, ex_some, bI_0, bI_1, nn_iff, Int.toNat_natCast, Int.toNat_of_nonneg, Int.natCast_add, cN1, wI_id2, wL_id2, ↓if_pos, ↓if_neg, if_pos, if_neg]
    exact po
  · rw [if_neg g] at hrv
    subst hrv
    try simp (disch := omega) only [w_iff, iffM_t, iffM_f, iffM_d, iffM_nd, iffM_0, iffM_ite, Wd_iffM, iffM_v, w_tern, ternM_t, ternM_f, ternM_d, ternM_nd, ternM_0, ternM_ite, Wd_ternM, ternM_v, w_sw, swX_1, Wd_swX, Bool.not_true, Bool.not_false, F_X12_isAny, B_X12_isAny, dw1, h6, g, dw2, Wd_some, Wd_bn, Wd_sqM, Wd_outV, Wd_blkM, Wd_swM, Wd_ite, Wd_map, v_kS_0, v_kS_b, v_kS_r, v_kO_r, v_kW_0, v_kW_1, v_kW_2, v_kW_r, v_kL_0, v_kL_1, v_kL_2, v_kL_r, v_kU_0, ups_11, upsN, upsA, upA_same, upA_neA, fl_at, fl_neA, v_sq_eq, v_sqM_0, v_sqM_r, v_sqM_b, v_sqM_n, sqM_ite, v_asI, v_asR, v_inc, v_pfI, v_pfZ, v_pfO, v_paI, v_paO, v_exI,  v_rtI, v_rtZ, v_rtV, v_sk, v_brk, v_cnt, v_blk_eq, v_blkM_some, blkM_ite, v_lI, v_lR, v_cI, v_gI, v_gR, v_op1, v_op2, v_arI, v_arR, v_alen,  v_cmp1, v_cmp2, v_cAnd, v_cOr, v_cNot, v_cTern, v_bn_some, bn_ite, v_bn_none, v_outV_r, v_outV_0, v_outV_n, outV_ite, List.getD_cons_zero, List.getD_cons_succ, List.set_cons_zero, List.set_cons_succ, List.take_succ_cons, List.take_zero, List.drop_succ_cons, List.drop_zero, List.nil_append, List.cons_append, Option.map_some, Option.map_none, if_true, if_false, ↓reduceIte, reduceCtorEq, decide_eq_true_eq, Bool.not_eq_true', decide_eq_false_iff_not, decide_eq_true, decide_eq_false, decide_true, decide_false, and_self, and_true, true_and, or_self, stO, v_caV_, v_caV_i, v_caV_ii, v_caV_iii, v_caV_iiii, v_caV_iiiii, v_caV_il, v_caV_iil, v_caV_l, v_caV_ll, v_caV_r, v_caV_ri, v_caV_rii, v_caV_riii, v_caV_riiii, v_caV_ir, v_caV_iri, v_caV_iiri, v_caS_i, v_caS_ii, v_caS_iii, v_caS_iiii, v_caS_iiiiii, v_caS_il, v_caS_li, v_caS_ll, v_caS_lll, v_caS_ri, v_caS_riii, sh_239, sh_240, sh_241, sh_242, sh_243, sh_244, sh_245, sh_246, sh_247, sh_248, sh_249, sh_250, sh_251, sh_252, sh_253, rf_239_4, rf_239_5, rf_239_6, rf_239_7, rf_239_20, rf_239_21, rf_239_22, rf_239_23, rf_239_27, rf_239_28, rf_239_32, rf_239_33, rf_239_34, rf_239_35, Int.reduceLE, Int.reduceLT, Int.reduceToNat, Int.reduceAdd, Int.reduceSub, Int.reduceMul, Int.reduceNeg, Int.reduceEq, Int.reduceNe, Nat.reduceAdd, Nat.reduceMul, Nat.reduceLT, Nat.reduceEqDiff, or_true, true_or, or_false, false_or, and_false, false_and, not_true_eq_false, not_false_eq_true, ne_eq, cN4, cN5, cN6, cN7, cN13, cN30, cN60, cN64, cN100, cN136, cN240, cN384, cN900, cN2040, cN3,  v_swM_0, v_swM_1, v_swM_r, v_swM_n, swM_ite, app_ite, ex_some, bI_0, bI_1, nn_iff, Int.toNat_natCast, Int.toNat_of_nonneg, Int.natCast_add, cN1, wI_id2, wL_id2, ↓if_pos, ↓if_neg, if_pos, if_neg]
    exact po
end LM
