/-! a Park taken from another -/
theorem Wd_gen {F : SS → Option (Int × SS)} {S : SS} {Q : Int → SS → Prop} (T : SS → Prop) (hT : T S) (h : ∀ S', T S' → Wd (F S') Q) : Wd (F S) Q := h S hT
theorem isP_far {a b : Nat} (ha : isP a) (hb : isP b) (h : a ≠ b) : a + 29 ≤ b ∨ b + 29 ≤ a := by
  unfold isP at ha hb
  omega
theorem nrZ_b : ∀ x : Int, x = 0 ∨ x = 1 → nrZ x = x := by
  intro x h
  rcases h with h | h <;> subst h <;> decide +kernel
theorem k_tuneTake {σ : SS} {p q : Nat} (hp : sh p = (1, 10, 4)) (hq : sh q = (1, 10, 4)) (h : p ≠ q) : Wd (F_X10_takeFrom p q σ) (fun r σ' => r = 0 ∧ (∀ x, x ≠ p → σ' x = σ x) ∧ ∀ k, k < 4 → σ' p k = σ q k) := by
  try simp (disch := omega) only [F_X10_takeFrom, B_X10_takeFrom, hp, hq, Wd_some, Wd_bn, Wd_sqM, Wd_outV, Wd_blkM, Wd_swM, Wd_ite, Wd_map, v_kS_0, v_kS_b, v_kS_r, v_kO_r, v_kW_0, v_kW_1, v_kW_2, v_kW_r, v_kL_0, v_kL_1, v_kL_2, v_kL_r, v_kU_0, ups_11, upsN, upsA, upA_same, upA_neA, fl_at, fl_neA, v_sq_eq, v_sqM_0, v_sqM_r, v_sqM_b, v_sqM_n, sqM_ite, v_asI, v_asR, v_inc, v_pfI, v_pfZ, v_pfO, v_paI, v_paO, v_exI, v_iff, v_rtI, v_rtZ, v_rtV, v_sk, v_brk, v_cnt, v_blk_eq, v_blkM_some, blkM_ite, v_lI, v_lR, v_cI, v_gI, v_gR, v_op1, v_op2, v_arI, v_arR, v_alen, v_tern, v_cmp1, v_cmp2, v_cAnd, v_cOr, v_cNot, v_cTern, v_bn_some, bn_ite, v_bn_none, v_outV_r, v_outV_0, v_outV_n, outV_ite, List.getD_cons_zero, List.getD_cons_succ, List.set_cons_zero, List.set_cons_succ, List.take_succ_cons, List.take_zero, List.drop_succ_cons, List.drop_zero, List.nil_append, List.cons_append, Option.map_some, Option.map_none, if_true, if_false, reduceIte, reduceCtorEq, decide_eq_true_eq, Bool.not_eq_true', decide_eq_false_iff_not, decide_eq_true, decide_eq_false, decide_true, decide_false, and_self, and_true, true_and, or_self, stO, v_caV_, v_caV_i, v_caV_ii, v_caV_iii, v_caV_iiii, v_caV_iiiii, v_caV_il, v_caV_iil, v_caV_l, v_caV_ll, v_caV_r, v_caV_ri, v_caV_rii, v_caV_riii, v_caV_riiii, v_caV_ir, v_caV_iri, v_caV_iiri, v_caS_i, v_caS_ii, v_caS_iii, v_caS_iiii, v_caS_iiiiii, v_caS_il, v_caS_li, v_caS_ll, v_caS_lll, v_caS_ri, v_caS_riii, sh_239, sh_240, sh_241, sh_242, sh_243, sh_244, sh_245, sh_246, sh_247, sh_248, sh_249, sh_250, sh_251, sh_252, sh_253, rf_239_4, rf_239_5, rf_239_6, rf_239_7, rf_239_20, rf_239_21, rf_239_22, rf_239_23, rf_239_27, rf_239_28, rf_239_32, rf_239_33, rf_239_34, rf_239_35, Int.reduceLE, Int.reduceLT, Int.reduceToNat, Int.reduceAdd, Int.reduceSub, Int.reduceMul, Int.reduceNeg, Int.reduceEq, Int.reduceNe, Nat.reduceAdd, Nat.reduceMul, Nat.reduceLT, Nat.reduceEqDiff, or_true, true_or, or_false, false_or, and_false, false_and, not_true_eq_false, not_false_eq_true, ne_eq, cN4, cN5, cN6, cN7, cN13, cN30, cN60, cN64, cN100, cN136, cN240, cN384, cN900, cN2040, cN3, v_sw_eq, v_swM_0, v_swM_1, v_swM_r, v_swM_n, swM_ite, app_ite, ex_some, bI_0, bI_1, nn_iff, Int.toNat_natCast, Int.toNat_of_nonneg, Int.natCast_add, cN1, wI_id2, wL_id2, if_pos, if_neg]
  refine ⟨fun x hx => by try simp (disch := omega) only [ups_11, upsN, upsA, upA_same, upA_neA, fl_at, fl_neA], fun k hk => ?_⟩
  have : k = 0 ∨ k = 1 ∨ k = 2 ∨ k = 3 := by omega
  rcases this with e | e | e | e <;> subst e <;> try simp (disch := omega) only [ups_11, upsN, upsA, upA_same, upA_neA, fl_at, fl_neA]
def BtI (p q : Nat) (σ : SS) (i : Nat) (z : ZZ) : Prop := ∃ σ', z = ([0, 0, (i : Int)], [p, q, 0], σ') ∧ (∀ x, x ≠ p + 1 → σ' x = σ x) ∧ ∀ k, k < i → σ' (p + 1) k = σ (q + 1) k
theorem k_bandTake {σ : SS} {p q : Nat} (hp : sh p = (1, 0, 9)) (hq : sh q = (1, 0, 9)) (hp1 : sh (p + 1) = (2, 0, 6)) (hq1 : sh (q + 1) = (2, 0, 6)) (rp : rf p 8 = p + 1) (rq : rf q 8 = q + 1) (h : p + 1 < q ∨ q + 1 < p) : Wd (F_X0_takeFrom p q σ) (fun r σ' => r = 0 ∧ (∀ x, x ≠ p → x ≠ p + 1 → σ' x = σ x) ∧ (∀ k, k < 8 → σ' p k = σ q k) ∧ ∀ k, k < 6 → σ' (p + 1) k = σ (q + 1) k) := by
  have key : ∀ σ0 : SS, Wd (L_X0_takeFrom_0 ([0, 0, 0], [p, q, 0], σ0)) (fun o z => o = .inl 0 ∧ BtI p q σ0 6 z) := by
    intro σ0
    unfold L_X0_takeFrom_0
    refine Wd_it (BtI p q σ0) 6 ⟨σ0, rfl, fun _ _ => rfl, fun k hk => by omega⟩ ?_ ?_
    · intro i z hi hz
      obtain ⟨σ1, hz, f1, f2⟩ := hz
      subst hz
      try simp (disch := omega) only [C_X0_takeFrom_0, D_X0_takeFrom_0, U_X0_takeFrom_0, hp, hq, hp1, hq1, rp, rq, Wd_some, Wd_bn, Wd_sqM, Wd_outV, Wd_blkM, Wd_swM, Wd_ite, Wd_map, v_kS_0, v_kS_b, v_kS_r, v_kO_r, v_kW_0, v_kW_1, v_kW_2, v_kW_r, v_kL_0, v_kL_1, v_kL_2, v_kL_r, v_kU_0, ups_11, upsN, upsA, upA_same, upA_neA, fl_at, fl_neA, v_sq_eq, v_sqM_0, v_sqM_r, v_sqM_b, v_sqM_n, sqM_ite, v_asI, v_asR, v_inc, v_pfI, v_pfZ, v_pfO, v_paI, v_paO, v_exI, v_iff, v_rtI, v_rtZ, v_rtV, v_sk, v_brk, v_cnt, v_blk_eq, v_blkM_some, blkM_ite, v_lI, v_lR, v_cI, v_gI, v_gR, v_op1, v_op2, v_arI, v_arR, v_alen, v_tern, v_cmp1, v_cmp2, v_cAnd, v_cOr, v_cNot, v_cTern, v_bn_some, bn_ite, v_bn_none, v_outV_r, v_outV_0, v_outV_n, outV_ite, List.getD_cons_zero, List.getD_cons_succ, List.set_cons_zero, List.set_cons_succ, List.take_succ_cons, List.take_zero, List.drop_succ_cons, List.drop_zero, List.nil_append, List.cons_append, Option.map_some, Option.map_none, if_true, if_false, reduceIte, reduceCtorEq, decide_eq_true_eq, Bool.not_eq_true', decide_eq_false_iff_not, decide_eq_true, decide_eq_false, decide_true, decide_false, and_self, and_true, true_and, or_self, stO, v_caV_, v_caV_i, v_caV_ii, v_caV_iii, v_caV_iiii, v_caV_iiiii, v_caV_il, v_caV_iil, v_caV_l, v_caV_ll, v_caV_r, v_caV_ri, v_caV_rii, v_caV_riii, v_caV_riiii, v_caV_ir, v_caV_iri, v_caV_iiri, v_caS_i, v_caS_ii, v_caS_iii, v_caS_iiii, v_caS_iiiiii, v_caS_il, v_caS_li, v_caS_ll, v_caS_lll, v_caS_ri, v_caS_riii, sh_239, sh_240, sh_241, sh_242, sh_243, sh_244, sh_245, sh_246, sh_247, sh_248, sh_249, sh_250, sh_251, sh_252, sh_253, rf_239_4, rf_239_5, rf_239_6, rf_239_7, rf_239_20, rf_239_21, rf_239_22, rf_239_23, rf_239_27, rf_239_28, rf_239_32, rf_239_33, rf_239_34, rf_239_35, Int.reduceLE, Int.reduceLT, Int.reduceToNat, Int.reduceAdd, Int.reduceSub, Int.reduceMul, Int.reduceNeg, Int.reduceEq, Int.reduceNe, Nat.reduceAdd, Nat.reduceMul, Nat.reduceLT, Nat.reduceEqDiff, or_true, true_or, or_false, false_or, and_false, false_and, not_true_eq_false, not_false_eq_true, ne_eq, cN4, cN5, cN6, cN7, cN13, cN30, cN60, cN64, cN100, cN136, cN240, cN384, cN900, cN2040, cN3, v_sw_eq, v_swM_0, v_swM_1, v_swM_r, v_swM_n, swM_ite, app_ite, ex_some, bI_0, bI_1, nn_iff, Int.toNat_natCast, Int.toNat_of_nonneg, Int.natCast_add, cN1, wI_id2, wL_id2, if_pos, if_neg]
      refine ⟨_, rfl, fun x hx => ?_, fun k hk => ?_⟩
      · try simp (disch := omega) only [ups_11, upsN, upsA, upA_same, upA_neA, fl_at, fl_neA]; exact f1 x hx
      · by_cases e : k = i
        · subst e
          try simp (disch := omega) only [ups_11, upsN, upsA, upA_same, upA_neA, fl_at, fl_neA]
          rw [f1 _ (by omega)]
        · try simp (disch := omega) only [ups_11, upsN, upsA, upA_same, upA_neA, fl_at, fl_neA]; exact f2 k (by omega)
    · intro z hz
      obtain ⟨σ1, hz, f1, f2⟩ := hz
      subst hz
      try simp (disch := omega) only [C_X0_takeFrom_0, D_X0_takeFrom_0, U_X0_takeFrom_0, hp, hq, hp1, hq1, rp, rq, Wd_some, Wd_bn, Wd_sqM, Wd_outV, Wd_blkM, Wd_swM, Wd_ite, Wd_map, v_kS_0, v_kS_b, v_kS_r, v_kO_r, v_kW_0, v_kW_1, v_kW_2, v_kW_r, v_kL_0, v_kL_1, v_kL_2, v_kL_r, v_kU_0, ups_11, upsN, upsA, upA_same, upA_neA, fl_at, fl_neA, v_sq_eq, v_sqM_0, v_sqM_r, v_sqM_b, v_sqM_n, sqM_ite, v_asI, v_asR, v_inc, v_pfI, v_pfZ, v_pfO, v_paI, v_paO, v_exI, v_iff, v_rtI, v_rtZ, v_rtV, v_sk, v_brk, v_cnt, v_blk_eq, v_blkM_some, blkM_ite, v_lI, v_lR, v_cI, v_gI, v_gR, v_op1, v_op2, v_arI, v_arR, v_alen, v_tern, v_cmp1, v_cmp2, v_cAnd, v_cOr, v_cNot, v_cTern, v_bn_some, bn_ite, v_bn_none, v_outV_r, v_outV_0, v_outV_n, outV_ite, List.getD_cons_zero, List.getD_cons_succ, List.set_cons_zero, List.set_cons_succ, List.take_succ_cons, List.take_zero, List.drop_succ_cons, List.drop_zero, List.nil_append, List.cons_append, Option.map_some, Option.map_none, if_true, if_false, reduceIte, reduceCtorEq, decide_eq_true_eq, Bool.not_eq_true', decide_eq_false_iff_not, decide_eq_true, decide_eq_false, decide_true, decide_false, and_self, and_true, true_and, or_self, stO, v_caV_, v_caV_i, v_caV_ii, v_caV_iii, v_caV_iiii, v_caV_iiiii, v_caV_il, v_caV_iil, v_caV_l, v_caV_ll, v_caV_r, v_caV_ri, v_caV_rii, v_caV_riii, v_caV_riiii, v_caV_ir, v_caV_iri, v_caV_iiri, v_caS_i, v_caS_ii, v_caS_iii, v_caS_iiii, v_caS_iiiiii, v_caS_il, v_caS_li, v_caS_ll, v_caS_lll, v_caS_ri, v_caS_riii, sh_239, sh_240, sh_241, sh_242, sh_243, sh_244, sh_245, sh_246, sh_247, sh_248, sh_249, sh_250, sh_251, sh_252, sh_253, rf_239_4, rf_239_5, rf_239_6, rf_239_7, rf_239_20, rf_239_21, rf_239_22, rf_239_23, rf_239_27, rf_239_28, rf_239_32, rf_239_33, rf_239_34, rf_239_35, Int.reduceLE, Int.reduceLT, Int.reduceToNat, Int.reduceAdd, Int.reduceSub, Int.reduceMul, Int.reduceNeg, Int.reduceEq, Int.reduceNe, Nat.reduceAdd, Nat.reduceMul, Nat.reduceLT, Nat.reduceEqDiff, or_true, true_or, or_false, false_or, and_false, false_and, not_true_eq_false, not_false_eq_true, ne_eq, cN4, cN5, cN6, cN7, cN13, cN30, cN60, cN64, cN100, cN136, cN240, cN384, cN900, cN2040, cN3, v_sw_eq, v_swM_0, v_swM_1, v_swM_r, v_swM_n, swM_ite, app_ite, ex_some, bI_0, bI_1, nn_iff, Int.toNat_natCast, Int.toNat_of_nonneg, Int.natCast_add, cN1, wI_id2, wL_id2, if_pos, if_neg]
      exact ⟨σ1, rfl, f1, f2⟩
  try simp (disch := omega) only [F_X0_takeFrom, E_X0_takeFrom, hp, hq, Wd_some, Wd_bn, Wd_sqM, Wd_outV, Wd_blkM, Wd_swM, Wd_ite, Wd_map, v_kS_0, v_kS_b, v_kS_r, v_kO_r, v_kW_0, v_kW_1, v_kW_2, v_kW_r, v_kL_0, v_kL_1, v_kL_2, v_kL_r, v_kU_0, ups_11, upsN, upsA, upA_same, upA_neA, fl_at, fl_neA, v_sq_eq, v_sqM_0, v_sqM_r, v_sqM_b, v_sqM_n, sqM_ite, v_asI, v_asR, v_inc, v_pfI, v_pfZ, v_pfO, v_paI, v_paO, v_exI, v_iff, v_rtI, v_rtZ, v_rtV, v_sk, v_brk, v_cnt, v_blk_eq, v_blkM_some, blkM_ite, v_lI, v_lR, v_cI, v_gI, v_gR, v_op1, v_op2, v_arI, v_arR, v_alen, v_tern, v_cmp1, v_cmp2, v_cAnd, v_cOr, v_cNot, v_cTern, v_bn_some, bn_ite, v_bn_none, v_outV_r, v_outV_0, v_outV_n, outV_ite, List.getD_cons_zero, List.getD_cons_succ, List.set_cons_zero, List.set_cons_succ, List.take_succ_cons, List.take_zero, List.drop_succ_cons, List.drop_zero, List.nil_append, List.cons_append, Option.map_some, Option.map_none, if_true, if_false, reduceIte, reduceCtorEq, decide_eq_true_eq, Bool.not_eq_true', decide_eq_false_iff_not, decide_eq_true, decide_eq_false, decide_true, decide_false, and_self, and_true, true_and, or_self, stO, v_caV_, v_caV_i, v_caV_ii, v_caV_iii, v_caV_iiii, v_caV_iiiii, v_caV_il, v_caV_iil, v_caV_l, v_caV_ll, v_caV_r, v_caV_ri, v_caV_rii, v_caV_riii, v_caV_riiii, v_caV_ir, v_caV_iri, v_caV_iiri, v_caS_i, v_caS_ii, v_caS_iii, v_caS_iiii, v_caS_iiiiii, v_caS_il, v_caS_li, v_caS_ll, v_caS_lll, v_caS_ri, v_caS_riii, sh_239, sh_240, sh_241, sh_242, sh_243, sh_244, sh_245, sh_246, sh_247, sh_248, sh_249, sh_250, sh_251, sh_252, sh_253, rf_239_4, rf_239_5, rf_239_6, rf_239_7, rf_239_20, rf_239_21, rf_239_22, rf_239_23, rf_239_27, rf_239_28, rf_239_32, rf_239_33, rf_239_34, rf_239_35, Int.reduceLE, Int.reduceLT, Int.reduceToNat, Int.reduceAdd, Int.reduceSub, Int.reduceMul, Int.reduceNeg, Int.reduceEq, Int.reduceNe, Nat.reduceAdd, Nat.reduceMul, Nat.reduceLT, Nat.reduceEqDiff, or_true, true_or, or_false, false_or, and_false, false_and, not_true_eq_false, not_false_eq_true, ne_eq, cN4, cN5, cN6, cN7, cN13, cN30, cN60, cN64, cN100, cN136, cN240, cN384, cN900, cN2040, cN3, v_sw_eq, v_swM_0, v_swM_1, v_swM_r, v_swM_n, swM_ite, app_ite, ex_some, bI_0, bI_1, nn_iff, Int.toNat_natCast, Int.toNat_of_nonneg, Int.natCast_add, cN1, wI_id2, wL_id2, if_pos, if_neg]
  refine Wd_mono (key _) (fun o z hz => ?_)
  obtain ⟨ho, σ1, hz, f1, f2⟩ := hz
  subst ho; subst hz
  try simp (disch := omega) only [Wd_some, Wd_bn, Wd_sqM, Wd_outV, Wd_blkM, Wd_swM, Wd_ite, Wd_map, v_kS_0, v_kS_b, v_kS_r, v_kO_r, v_kW_0, v_kW_1, v_kW_2, v_kW_r, v_kL_0, v_kL_1, v_kL_2, v_kL_r, v_kU_0, ups_11, upsN, upsA, upA_same, upA_neA, fl_at, fl_neA, v_sq_eq, v_sqM_0, v_sqM_r, v_sqM_b, v_sqM_n, sqM_ite, v_asI, v_asR, v_inc, v_pfI, v_pfZ, v_pfO, v_paI, v_paO, v_exI, v_iff, v_rtI, v_rtZ, v_rtV, v_sk, v_brk, v_cnt, v_blk_eq, v_blkM_some, blkM_ite, v_lI, v_lR, v_cI, v_gI, v_gR, v_op1, v_op2, v_arI, v_arR, v_alen, v_tern, v_cmp1, v_cmp2, v_cAnd, v_cOr, v_cNot, v_cTern, v_bn_some, bn_ite, v_bn_none, v_outV_r, v_outV_0, v_outV_n, outV_ite, List.getD_cons_zero, List.getD_cons_succ, List.set_cons_zero, List.set_cons_succ, List.take_succ_cons, List.take_zero, List.drop_succ_cons, List.drop_zero, List.nil_append, List.cons_append, Option.map_some, Option.map_none, if_true, if_false, reduceIte, reduceCtorEq, decide_eq_true_eq, Bool.not_eq_true', decide_eq_false_iff_not, decide_eq_true, decide_eq_false, decide_true, decide_false, and_self, and_true, true_and, or_self, stO, v_caV_, v_caV_i, v_caV_ii, v_caV_iii, v_caV_iiii, v_caV_iiiii, v_caV_il, v_caV_iil, v_caV_l, v_caV_ll, v_caV_r, v_caV_ri, v_caV_rii, v_caV_riii, v_caV_riiii, v_caV_ir, v_caV_iri, v_caV_iiri, v_caS_i, v_caS_ii, v_caS_iii, v_caS_iiii, v_caS_iiiiii, v_caS_il, v_caS_li, v_caS_ll, v_caS_lll, v_caS_ri, v_caS_riii, sh_239, sh_240, sh_241, sh_242, sh_243, sh_244, sh_245, sh_246, sh_247, sh_248, sh_249, sh_250, sh_251, sh_252, sh_253, rf_239_4, rf_239_5, rf_239_6, rf_239_7, rf_239_20, rf_239_21, rf_239_22, rf_239_23, rf_239_27, rf_239_28, rf_239_32, rf_239_33, rf_239_34, rf_239_35, Int.reduceLE, Int.reduceLT, Int.reduceToNat, Int.reduceAdd, Int.reduceSub, Int.reduceMul, Int.reduceNeg, Int.reduceEq, Int.reduceNe, Nat.reduceAdd, Nat.reduceMul, Nat.reduceLT, Nat.reduceEqDiff, or_true, true_or, or_false, false_or, and_false, false_and, not_true_eq_false, not_false_eq_true, ne_eq, cN4, cN5, cN6, cN7, cN13, cN30, cN60, cN64, cN100, cN136, cN240, cN384, cN900, cN2040, cN3, v_sw_eq, v_swM_0, v_swM_1, v_swM_r, v_swM_n, swM_ite, app_ite, ex_some, bI_0, bI_1, nn_iff, Int.toNat_natCast, Int.toNat_of_nonneg, Int.natCast_add, cN1, wI_id2, wL_id2, if_pos, if_neg]
  refine ⟨fun x h1 h2 => ?_, fun k hk => ?_, fun k hk => ?_⟩
  · rw [f1 x h2]; try simp (disch := omega) only [ups_11, upsN, upsA, upA_same, upA_neA, fl_at, fl_neA]
  · rw [f1 p (by omega)]
    have : k = 0 ∨ k = 1 ∨ k = 2 ∨ k = 3 ∨ k = 4 ∨ k = 5 ∨ k = 6 ∨ k = 7 := by omega
    rcases this with e | e | e | e | e | e | e | e <;> subst e <;> try simp (disch := omega) only [ups_11, upsN, upsA, upA_same, upA_neA, fl_at, fl_neA]
  · rw [f2 k hk]; try simp (disch := omega) only [ups_11, upsN, upsA, upA_same, upA_neA, fl_at, fl_neA]
section TK
variable {σ : SS} {a b : Nat} {c w : Nat → Int}
def EtI (a b : Nat) (σ : SS) (i : Nat) (z : ZZ) : Prop := ∃ σ', z = ([0, 0, (i : Int)], [a + 4, b + 4, 0], σ') ∧ (∀ x, ¬ (a + 5 ≤ x ∧ x ≤ a + 10) → σ' x = σ x) ∧ ∀ k, k < i → σ' (a + 5) k = σ (b + 5) k ∧ σ' (a + 6) k = σ (b + 6) k ∧ σ' (a + 7) k = σ (b + 7) k ∧ σ' (a + 8) k = σ (b + 8) k ∧ σ' (a + 9) k = σ (b + 9) k ∧ σ' (a + 10) k = σ (b + 10) k
theorem kl_evTake (ha : isP a) (hb : isP b) (hab : a ≠ b) {n : Nat} (hn : σ (a + 4) 1 = n) (h30 : n ≤ 30) : Wd (L_X1_takeFrom_0 ([0, 0, 0], [a + 4, b + 4, 0], σ)) (fun o z => o = .inl 0 ∧ EtI a b σ n z) := by
  have far := isP_far ha hb hab
  unfold L_X1_takeFrom_0
  refine Wd_it (EtI a b σ) n ⟨σ, rfl, fun _ _ => rfl, fun k hk => by omega⟩ ?_ ?_
  · intro i z hi hz
    obtain ⟨σ1, hz, f1, f2⟩ := hz
    subst hz
    have e1 : σ1 (a + 4) 1 = n := by rw [f1 _ (by omega)]; exact hn
    try simp (disch := omega) only [C_X1_takeFrom_0, D_X1_takeFrom_0, U_X1_takeFrom_0, P_a ha, P_1 ha, P_2 ha, P_3 ha, P_4 ha, P_5 ha, P_6 ha, P_7 ha, P_8 ha, P_9 ha, P_10 ha, P_t ha, P_b ha, P_g ha, P_r8 ha, P_r10 ha, P_r12 ha, P_r13 ha, P_e2 ha, P_e3 ha, P_e4 ha, P_e5 ha, P_e6 ha, P_e7 ha, P_rt ha, P_rb ha, P_rg ha, P_a hb, P_1 hb, P_2 hb, P_3 hb, P_4 hb, P_5 hb, P_6 hb, P_7 hb, P_8 hb, P_9 hb, P_10 hb, P_t hb, P_b hb, P_g hb, P_r8 hb, P_r10 hb, P_r12 hb, P_r13 hb, P_e2 hb, P_e3 hb, P_e4 hb, P_e5 hb, P_e6 hb, P_e7 hb, P_rt hb, P_rb hb, P_rg hb, e1, Wd_some, Wd_bn, Wd_sqM, Wd_outV, Wd_blkM, Wd_swM, Wd_ite, Wd_map, v_kS_0, v_kS_b, v_kS_r, v_kO_r, v_kW_0, v_kW_1, v_kW_2, v_kW_r, v_kL_0, v_kL_1, v_kL_2, v_kL_r, v_kU_0, ups_11, upsN, upsA, upA_same, upA_neA, fl_at, fl_neA, v_sq_eq, v_sqM_0, v_sqM_r, v_sqM_b, v_sqM_n, sqM_ite, v_asI, v_asR, v_inc, v_pfI, v_pfZ, v_pfO, v_paI, v_paO, v_exI, v_iff, v_rtI, v_rtZ, v_rtV, v_sk, v_brk, v_cnt, v_blk_eq, v_blkM_some, blkM_ite, v_lI, v_lR, v_cI, v_gI, v_gR, v_op1, v_op2, v_arI, v_arR, v_alen, v_tern, v_cmp1, v_cmp2, v_cAnd, v_cOr, v_cNot, v_cTern, v_bn_some, bn_ite, v_bn_none, v_outV_r, v_outV_0, v_outV_n, outV_ite, List.getD_cons_zero, List.getD_cons_succ, List.set_cons_zero, List.set_cons_succ, List.take_succ_cons, List.take_zero, List.drop_succ_cons, List.drop_zero, List.nil_append, List.cons_append, Option.map_some, Option.map_none, if_true, if_false, reduceIte, reduceCtorEq, decide_eq_true_eq, Bool.not_eq_true', decide_eq_false_iff_not, decide_eq_true, decide_eq_false, decide_true, decide_false, and_self, and_true, true_and, or_self, stO, v_caV_, v_caV_i, v_caV_ii, v_caV_iii, v_caV_iiii, v_caV_iiiii, v_caV_il, v_caV_iil, v_caV_l, v_caV_ll, v_caV_r, v_caV_ri, v_caV_rii, v_caV_riii, v_caV_riiii, v_caV_ir, v_caV_iri, v_caV_iiri, v_caS_i, v_caS_ii, v_caS_iii, v_caS_iiii, v_caS_iiiiii, v_caS_il, v_caS_li, v_caS_ll, v_caS_lll, v_caS_ri, v_caS_riii, sh_239, sh_240, sh_241, sh_242, sh_243, sh_244, sh_245, sh_246, sh_247, sh_248, sh_249, sh_250, sh_251, sh_252, sh_253, rf_239_4, rf_239_5, rf_239_6, rf_239_7, rf_239_20, rf_239_21, rf_239_22, rf_239_23, rf_239_27, rf_239_28, rf_239_32, rf_239_33, rf_239_34, rf_239_35, Int.reduceLE, Int.reduceLT, Int.reduceToNat, Int.reduceAdd, Int.reduceSub, Int.reduceMul, Int.reduceNeg, Int.reduceEq, Int.reduceNe, Nat.reduceAdd, Nat.reduceMul, Nat.reduceLT, Nat.reduceEqDiff, or_true, true_or, or_false, false_or, and_false, false_and, not_true_eq_false, not_false_eq_true, ne_eq, cN4, cN5, cN6, cN7, cN13, cN30, cN60, cN64, cN100, cN136, cN240, cN384, cN900, cN2040, cN3, v_sw_eq, v_swM_0, v_swM_1, v_swM_r, v_swM_n, swM_ite, app_ite, ex_some, bI_0, bI_1, nn_iff, Int.toNat_natCast, Int.toNat_of_nonneg, Int.natCast_add, cN1, wI_id2, wL_id2, if_pos, if_neg]
    refine ⟨_, rfl, fun x hx => ?_, fun k hk => ?_⟩
    · try simp (disch := omega) only [ups_11, upsN, upsA, upA_same, upA_neA, fl_at, fl_neA]; exact f1 x hx
    · by_cases e : k = i
      · subst e
        try simp (disch := omega) only [ups_11, upsN, upsA, upA_same, upA_neA, fl_at, fl_neA]
        rw [f1 _ (by omega), f1 _ (by omega), f1 _ (by omega), f1 _ (by omega), f1 _ (by omega), f1 _ (by omega)]
        exact ⟨rfl, rfl, rfl, rfl, rfl, rfl⟩
      · try simp (disch := omega) only [ups_11, upsN, upsA, upA_same, upA_neA, fl_at, fl_neA]; exact f2 k (by omega)
  · intro z hz
    obtain ⟨σ1, hz, f1, f2⟩ := hz
    subst hz
    have e1 : σ1 (a + 4) 1 = n := by rw [f1 _ (by omega)]; exact hn
    try simp (disch := omega) only [C_X1_takeFrom_0, D_X1_takeFrom_0, U_X1_takeFrom_0, P_a ha, P_1 ha, P_2 ha, P_3 ha, P_4 ha, P_5 ha, P_6 ha, P_7 ha, P_8 ha, P_9 ha, P_10 ha, P_t ha, P_b ha, P_g ha, P_r8 ha, P_r10 ha, P_r12 ha, P_r13 ha, P_e2 ha, P_e3 ha, P_e4 ha, P_e5 ha, P_e6 ha, P_e7 ha, P_rt ha, P_rb ha, P_rg ha, P_a hb, P_1 hb, P_2 hb, P_3 hb, P_4 hb, P_5 hb, P_6 hb, P_7 hb, P_8 hb, P_9 hb, P_10 hb, P_t hb, P_b hb, P_g hb, P_r8 hb, P_r10 hb, P_r12 hb, P_r13 hb, P_e2 hb, P_e3 hb, P_e4 hb, P_e5 hb, P_e6 hb, P_e7 hb, P_rt hb, P_rb hb, P_rg hb, e1, Wd_some, Wd_bn, Wd_sqM, Wd_outV, Wd_blkM, Wd_swM, Wd_ite, Wd_map, v_kS_0, v_kS_b, v_kS_r, v_kO_r, v_kW_0, v_kW_1, v_kW_2, v_kW_r, v_kL_0, v_kL_1, v_kL_2, v_kL_r, v_kU_0, ups_11, upsN, upsA, upA_same, upA_neA, fl_at, fl_neA, v_sq_eq, v_sqM_0, v_sqM_r, v_sqM_b, v_sqM_n, sqM_ite, v_asI, v_asR, v_inc, v_pfI, v_pfZ, v_pfO, v_paI, v_paO, v_exI, v_iff, v_rtI, v_rtZ, v_rtV, v_sk, v_brk, v_cnt, v_blk_eq, v_blkM_some, blkM_ite, v_lI, v_lR, v_cI, v_gI, v_gR, v_op1, v_op2, v_arI, v_arR, v_alen, v_tern, v_cmp1, v_cmp2, v_cAnd, v_cOr, v_cNot, v_cTern, v_bn_some, bn_ite, v_bn_none, v_outV_r, v_outV_0, v_outV_n, outV_ite, List.getD_cons_zero, List.getD_cons_succ, List.set_cons_zero, List.set_cons_succ, List.take_succ_cons, List.take_zero, List.drop_succ_cons, List.drop_zero, List.nil_append, List.cons_append, Option.map_some, Option.map_none, if_true, if_false, reduceIte, reduceCtorEq, decide_eq_true_eq, Bool.not_eq_true', decide_eq_false_iff_not, decide_eq_true, decide_eq_false, decide_true, decide_false, and_self, and_true, true_and, or_self, stO, v_caV_, v_caV_i, v_caV_ii, v_caV_iii, v_caV_iiii, v_caV_iiiii, v_caV_il, v_caV_iil, v_caV_l, v_caV_ll, v_caV_r, v_caV_ri, v_caV_rii, v_caV_riii, v_caV_riiii, v_caV_ir, v_caV_iri, v_caV_iiri, v_caS_i, v_caS_ii, v_caS_iii, v_caS_iiii, v_caS_iiiiii, v_caS_il, v_caS_li, v_caS_ll, v_caS_lll, v_caS_ri, v_caS_riii, sh_239, sh_240, sh_241, sh_242, sh_243, sh_244, sh_245, sh_246, sh_247, sh_248, sh_249, sh_250, sh_251, sh_252, sh_253, rf_239_4, rf_239_5, rf_239_6, rf_239_7, rf_239_20, rf_239_21, rf_239_22, rf_239_23, rf_239_27, rf_239_28, rf_239_32, rf_239_33, rf_239_34, rf_239_35, Int.reduceLE, Int.reduceLT, Int.reduceToNat, Int.reduceAdd, Int.reduceSub, Int.reduceMul, Int.reduceNeg, Int.reduceEq, Int.reduceNe, Nat.reduceAdd, Nat.reduceMul, Nat.reduceLT, Nat.reduceEqDiff, or_true, true_or, or_false, false_or, and_false, false_and, not_true_eq_false, not_false_eq_true, ne_eq, cN4, cN5, cN6, cN7, cN13, cN30, cN60, cN64, cN100, cN136, cN240, cN384, cN900, cN2040, cN3, v_sw_eq, v_swM_0, v_swM_1, v_swM_r, v_swM_n, swM_ite, app_ite, ex_some, bI_0, bI_1, nn_iff, Int.toNat_natCast, Int.toNat_of_nonneg, Int.natCast_add, cN1, wI_id2, wL_id2, if_pos, if_neg]
    exact ⟨σ1, rfl, f1, f2⟩
theorem k_evTake (ha : isP a) (hb : isP b) (hab : a ≠ b) {n : Nat} (h0 : σ (b + 4) 0 = 0 ∨ σ (b + 4) 0 = 1) (hn : σ (b + 4) 1 = n) (h30 : n ≤ 30) : Wd (F_X1_takeFrom (a + 4) (b + 4) σ) (fun r σ' => r = 0 ∧ (∀ x, ¬ (a + 4 ≤ x ∧ x ≤ a + 10) → σ' x = σ x) ∧ σ' (a + 4) 0 = σ (b + 4) 0 ∧ σ' (a + 4) 1 = n ∧ ∀ k, k < n → σ' (a + 5) k = σ (b + 5) k ∧ σ' (a + 6) k = σ (b + 6) k ∧ σ' (a + 7) k = σ (b + 7) k ∧ σ' (a + 8) k = σ (b + 8) k ∧ σ' (a + 9) k = σ (b + 9) k ∧ σ' (a + 10) k = σ (b + 10) k) := by
  have far := isP_far ha hb hab
  try simp (disch := omega) only [F_X1_takeFrom, E_X1_takeFrom, P_a ha, P_1 ha, P_2 ha, P_3 ha, P_4 ha, P_5 ha, P_6 ha, P_7 ha, P_8 ha, P_9 ha, P_10 ha, P_t ha, P_b ha, P_g ha, P_r8 ha, P_r10 ha, P_r12 ha, P_r13 ha, P_e2 ha, P_e3 ha, P_e4 ha, P_e5 ha, P_e6 ha, P_e7 ha, P_rt ha, P_rb ha, P_rg ha, P_a hb, P_1 hb, P_2 hb, P_3 hb, P_4 hb, P_5 hb, P_6 hb, P_7 hb, P_8 hb, P_9 hb, P_10 hb, P_t hb, P_b hb, P_g hb, P_r8 hb, P_r10 hb, P_r12 hb, P_r13 hb, P_e2 hb, P_e3 hb, P_e4 hb, P_e5 hb, P_e6 hb, P_e7 hb, P_rt hb, P_rb hb, P_rg hb, hn, Wd_some, Wd_bn, Wd_sqM, Wd_outV, Wd_blkM, Wd_swM, Wd_ite, Wd_map, v_kS_0, v_kS_b, v_kS_r, v_kO_r, v_kW_0, v_kW_1, v_kW_2, v_kW_r, v_kL_0, v_kL_1, v_kL_2, v_kL_r, v_kU_0, ups_11, upsN, upsA, upA_same, upA_neA, fl_at, fl_neA, v_sq_eq, v_sqM_0, v_sqM_r, v_sqM_b, v_sqM_n, sqM_ite, v_asI, v_asR, v_inc, v_pfI, v_pfZ, v_pfO, v_paI, v_paO, v_exI, v_iff, v_rtI, v_rtZ, v_rtV, v_sk, v_brk, v_cnt, v_blk_eq, v_blkM_some, blkM_ite, v_lI, v_lR, v_cI, v_gI, v_gR, v_op1, v_op2, v_arI, v_arR, v_alen, v_tern, v_cmp1, v_cmp2, v_cAnd, v_cOr, v_cNot, v_cTern, v_bn_some, bn_ite, v_bn_none, v_outV_r, v_outV_0, v_outV_n, outV_ite, List.getD_cons_zero, List.getD_cons_succ, List.set_cons_zero, List.set_cons_succ, List.take_succ_cons, List.take_zero, List.drop_succ_cons, List.drop_zero, List.nil_append, List.cons_append, Option.map_some, Option.map_none, if_true, if_false, reduceIte, reduceCtorEq, decide_eq_true_eq, Bool.not_eq_true', decide_eq_false_iff_not, decide_eq_true, decide_eq_false, decide_true, decide_false, and_self, and_true, true_and, or_self, stO, v_caV_, v_caV_i, v_caV_ii, v_caV_iii, v_caV_iiii, v_caV_iiiii, v_caV_il, v_caV_iil, v_caV_l, v_caV_ll, v_caV_r, v_caV_ri, v_caV_rii, v_caV_riii, v_caV_riiii, v_caV_ir, v_caV_iri, v_caV_iiri, v_caS_i, v_caS_ii, v_caS_iii, v_caS_iiii, v_caS_iiiiii, v_caS_il, v_caS_li, v_caS_ll, v_caS_lll, v_caS_ri, v_caS_riii, sh_239, sh_240, sh_241, sh_242, sh_243, sh_244, sh_245, sh_246, sh_247, sh_248, sh_249, sh_250, sh_251, sh_252, sh_253, rf_239_4, rf_239_5, rf_239_6, rf_239_7, rf_239_20, rf_239_21, rf_239_22, rf_239_23, rf_239_27, rf_239_28, rf_239_32, rf_239_33, rf_239_34, rf_239_35, Int.reduceLE, Int.reduceLT, Int.reduceToNat, Int.reduceAdd, Int.reduceSub, Int.reduceMul, Int.reduceNeg, Int.reduceEq, Int.reduceNe, Nat.reduceAdd, Nat.reduceMul, Nat.reduceLT, Nat.reduceEqDiff, or_true, true_or, or_false, false_or, and_false, false_and, not_true_eq_false, not_false_eq_true, ne_eq, cN4, cN5, cN6, cN7, cN13, cN30, cN60, cN64, cN100, cN136, cN240, cN384, cN900, cN2040, cN3, v_sw_eq, v_swM_0, v_swM_1, v_swM_r, v_swM_n, swM_ite, app_ite, ex_some, bI_0, bI_1, nn_iff, Int.toNat_natCast, Int.toNat_of_nonneg, Int.natCast_add, cN1, wI_id2, wL_id2, if_pos, if_neg]
  refine Wd_mono (kl_evTake ha hb hab (n := n) (by try simp (disch := omega) only [ups_11, upsN, upsA, upA_same, upA_neA, fl_at, fl_neA]) h30) (fun o z hz => ?_)
  obtain ⟨ho, σ1, hz, f1, f2⟩ := hz
  subst ho; subst hz
  try simp (disch := omega) only [Wd_some, Wd_bn, Wd_sqM, Wd_outV, Wd_blkM, Wd_swM, Wd_ite, Wd_map, v_kS_0, v_kS_b, v_kS_r, v_kO_r, v_kW_0, v_kW_1, v_kW_2, v_kW_r, v_kL_0, v_kL_1, v_kL_2, v_kL_r, v_kU_0, ups_11, upsN, upsA, upA_same, upA_neA, fl_at, fl_neA, v_sq_eq, v_sqM_0, v_sqM_r, v_sqM_b, v_sqM_n, sqM_ite, v_asI, v_asR, v_inc, v_pfI, v_pfZ, v_pfO, v_paI, v_paO, v_exI, v_iff, v_rtI, v_rtZ, v_rtV, v_sk, v_brk, v_cnt, v_blk_eq, v_blkM_some, blkM_ite, v_lI, v_lR, v_cI, v_gI, v_gR, v_op1, v_op2, v_arI, v_arR, v_alen, v_tern, v_cmp1, v_cmp2, v_cAnd, v_cOr, v_cNot, v_cTern, v_bn_some, bn_ite, v_bn_none, v_outV_r, v_outV_0, v_outV_n, outV_ite, List.getD_cons_zero, List.getD_cons_succ, List.set_cons_zero, List.set_cons_succ, List.take_succ_cons, List.take_zero, List.drop_succ_cons, List.drop_zero, List.nil_append, List.cons_append, Option.map_some, Option.map_none, if_true, if_false, reduceIte, reduceCtorEq, decide_eq_true_eq, Bool.not_eq_true', decide_eq_false_iff_not, decide_eq_true, decide_eq_false, decide_true, decide_false, and_self, and_true, true_and, or_self, stO, v_caV_, v_caV_i, v_caV_ii, v_caV_iii, v_caV_iiii, v_caV_iiiii, v_caV_il, v_caV_iil, v_caV_l, v_caV_ll, v_caV_r, v_caV_ri, v_caV_rii, v_caV_riii, v_caV_riiii, v_caV_ir, v_caV_iri, v_caV_iiri, v_caS_i, v_caS_ii, v_caS_iii, v_caS_iiii, v_caS_iiiiii, v_caS_il, v_caS_li, v_caS_ll, v_caS_lll, v_caS_ri, v_caS_riii, sh_239, sh_240, sh_241, sh_242, sh_243, sh_244, sh_245, sh_246, sh_247, sh_248, sh_249, sh_250, sh_251, sh_252, sh_253, rf_239_4, rf_239_5, rf_239_6, rf_239_7, rf_239_20, rf_239_21, rf_239_22, rf_239_23, rf_239_27, rf_239_28, rf_239_32, rf_239_33, rf_239_34, rf_239_35, Int.reduceLE, Int.reduceLT, Int.reduceToNat, Int.reduceAdd, Int.reduceSub, Int.reduceMul, Int.reduceNeg, Int.reduceEq, Int.reduceNe, Nat.reduceAdd, Nat.reduceMul, Nat.reduceLT, Nat.reduceEqDiff, or_true, true_or, or_false, false_or, and_false, false_and, not_true_eq_false, not_false_eq_true, ne_eq, cN4, cN5, cN6, cN7, cN13, cN30, cN60, cN64, cN100, cN136, cN240, cN384, cN900, cN2040, cN3, v_sw_eq, v_swM_0, v_swM_1, v_swM_r, v_swM_n, swM_ite, app_ite, ex_some, bI_0, bI_1, nn_iff, Int.toNat_natCast, Int.toNat_of_nonneg, Int.natCast_add, cN1, wI_id2, wL_id2, if_pos, if_neg]
  refine ⟨fun x hx => ?_, ?_, ?_, fun k hk => ?_⟩
  · rw [f1 x (by omega)]; try simp (disch := omega) only [ups_11, upsN, upsA, upA_same, upA_neA, fl_at, fl_neA]
  · rw [f1 _ (by omega)]; try simp (disch := omega) only [ups_11, upsN, upsA, upA_same, upA_neA, fl_at, fl_neA]
  · rw [f1 _ (by omega)]; try simp (disch := omega) only [ups_11, upsN, upsA, upA_same, upA_neA, fl_at, fl_neA]
  · have := f2 k hk
    try simp (disch := omega) only [ups_11, upsN, upsA, upA_same, upA_neA, fl_at, fl_neA] at this
    exact this
def PtI (a b : Nat) (σ : SS) (i : Nat) (z : ZZ) : Prop := ∃ σ', z = ([0, 0, (i : Int)], [a, b, 0], σ') ∧ (∀ x, x ≠ a + 1 → σ' x = σ x) ∧ ∀ k, k < i → σ' (a + 1) k = nrZ (σ (b + 1) k)
theorem kl_take0 (ha : isP a) (hb : isP b) (hab : a ≠ b) : Wd (L_X3_takeFrom_0 ([0, 0, 0], [a, b, 0], σ)) (fun o z => o = .inl 0 ∧ PtI a b σ 30 z) := by
  have far := isP_far ha hb hab
  unfold L_X3_takeFrom_0
  refine Wd_it (PtI a b σ) 30 ⟨σ, rfl, fun _ _ => rfl, fun k hk => by omega⟩ ?_ ?_
  · intro i z hi hz
    obtain ⟨σ1, hz, f1, f2⟩ := hz
    subst hz
    try simp (disch := omega) only [C_X3_takeFrom_0, D_X3_takeFrom_0, U_X3_takeFrom_0, P_a ha, P_1 ha, P_2 ha, P_3 ha, P_4 ha, P_5 ha, P_6 ha, P_7 ha, P_8 ha, P_9 ha, P_10 ha, P_t ha, P_b ha, P_g ha, P_r8 ha, P_r10 ha, P_r12 ha, P_r13 ha, P_e2 ha, P_e3 ha, P_e4 ha, P_e5 ha, P_e6 ha, P_e7 ha, P_rt ha, P_rb ha, P_rg ha, P_a hb, P_1 hb, P_2 hb, P_3 hb, P_4 hb, P_5 hb, P_6 hb, P_7 hb, P_8 hb, P_9 hb, P_10 hb, P_t hb, P_b hb, P_g hb, P_r8 hb, P_r10 hb, P_r12 hb, P_r13 hb, P_e2 hb, P_e3 hb, P_e4 hb, P_e5 hb, P_e6 hb, P_e7 hb, P_rt hb, P_rb hb, P_rg hb, Wd_some, Wd_bn, Wd_sqM, Wd_outV, Wd_blkM, Wd_swM, Wd_ite, Wd_map, v_kS_0, v_kS_b, v_kS_r, v_kO_r, v_kW_0, v_kW_1, v_kW_2, v_kW_r, v_kL_0, v_kL_1, v_kL_2, v_kL_r, v_kU_0, ups_11, upsN, upsA, upA_same, upA_neA, fl_at, fl_neA, v_sq_eq, v_sqM_0, v_sqM_r, v_sqM_b, v_sqM_n, sqM_ite, v_asI, v_asR, v_inc, v_pfI, v_pfZ, v_pfO, v_paI, v_paO, v_exI, v_iff, v_rtI, v_rtZ, v_rtV, v_sk, v_brk, v_cnt, v_blk_eq, v_blkM_some, blkM_ite, v_lI, v_lR, v_cI, v_gI, v_gR, v_op1, v_op2, v_arI, v_arR, v_alen, v_tern, v_cmp1, v_cmp2, v_cAnd, v_cOr, v_cNot, v_cTern, v_bn_some, bn_ite, v_bn_none, v_outV_r, v_outV_0, v_outV_n, outV_ite, List.getD_cons_zero, List.getD_cons_succ, List.set_cons_zero, List.set_cons_succ, List.take_succ_cons, List.take_zero, List.drop_succ_cons, List.drop_zero, List.nil_append, List.cons_append, Option.map_some, Option.map_none, if_true, if_false, reduceIte, reduceCtorEq, decide_eq_true_eq, Bool.not_eq_true', decide_eq_false_iff_not, decide_eq_true, decide_eq_false, decide_true, decide_false, and_self, and_true, true_and, or_self, stO, v_caV_, v_caV_i, v_caV_ii, v_caV_iii, v_caV_iiii, v_caV_iiiii, v_caV_il, v_caV_iil, v_caV_l, v_caV_ll, v_caV_r, v_caV_ri, v_caV_rii, v_caV_riii, v_caV_riiii, v_caV_ir, v_caV_iri, v_caV_iiri, v_caS_i, v_caS_ii, v_caS_iii, v_caS_iiii, v_caS_iiiiii, v_caS_il, v_caS_li, v_caS_ll, v_caS_lll, v_caS_ri, v_caS_riii, sh_239, sh_240, sh_241, sh_242, sh_243, sh_244, sh_245, sh_246, sh_247, sh_248, sh_249, sh_250, sh_251, sh_252, sh_253, rf_239_4, rf_239_5, rf_239_6, rf_239_7, rf_239_20, rf_239_21, rf_239_22, rf_239_23, rf_239_27, rf_239_28, rf_239_32, rf_239_33, rf_239_34, rf_239_35, Int.reduceLE, Int.reduceLT, Int.reduceToNat, Int.reduceAdd, Int.reduceSub, Int.reduceMul, Int.reduceNeg, Int.reduceEq, Int.reduceNe, Nat.reduceAdd, Nat.reduceMul, Nat.reduceLT, Nat.reduceEqDiff, or_true, true_or, or_false, false_or, and_false, false_and, not_true_eq_false, not_false_eq_true, ne_eq, cN4, cN5, cN6, cN7, cN13, cN30, cN60, cN64, cN100, cN136, cN240, cN384, cN900, cN2040, cN3, v_sw_eq, v_swM_0, v_swM_1, v_swM_r, v_swM_n, swM_ite, app_ite, ex_some, bI_0, bI_1, nn_iff, Int.toNat_natCast, Int.toNat_of_nonneg, Int.natCast_add, cN1, wI_id2, wL_id2, if_pos, if_neg]
    refine ⟨_, rfl, fun x hx => ?_, fun k hk => ?_⟩
    · try simp (disch := omega) only [ups_11, upsN, upsA, upA_same, upA_neA, fl_at, fl_neA]; exact f1 x hx
    · by_cases e : k = i
      · subst e
        try simp (disch := omega) only [ups_11, upsN, upsA, upA_same, upA_neA, fl_at, fl_neA]
        rw [f1 _ (by omega)]
      · try simp (disch := omega) only [ups_11, upsN, upsA, upA_same, upA_neA, fl_at, fl_neA]; exact f2 k (by omega)
  · intro z hz
    obtain ⟨σ1, hz, f1, f2⟩ := hz
    subst hz
    try simp (disch := omega) only [C_X3_takeFrom_0, D_X3_takeFrom_0, U_X3_takeFrom_0, P_a ha, P_1 ha, P_2 ha, P_3 ha, P_4 ha, P_5 ha, P_6 ha, P_7 ha, P_8 ha, P_9 ha, P_10 ha, P_t ha, P_b ha, P_g ha, P_r8 ha, P_r10 ha, P_r12 ha, P_r13 ha, P_e2 ha, P_e3 ha, P_e4 ha, P_e5 ha, P_e6 ha, P_e7 ha, P_rt ha, P_rb ha, P_rg ha, P_a hb, P_1 hb, P_2 hb, P_3 hb, P_4 hb, P_5 hb, P_6 hb, P_7 hb, P_8 hb, P_9 hb, P_10 hb, P_t hb, P_b hb, P_g hb, P_r8 hb, P_r10 hb, P_r12 hb, P_r13 hb, P_e2 hb, P_e3 hb, P_e4 hb, P_e5 hb, P_e6 hb, P_e7 hb, P_rt hb, P_rb hb, P_rg hb, Wd_some, Wd_bn, Wd_sqM, Wd_outV, Wd_blkM, Wd_swM, Wd_ite, Wd_map, v_kS_0, v_kS_b, v_kS_r, v_kO_r, v_kW_0, v_kW_1, v_kW_2, v_kW_r, v_kL_0, v_kL_1, v_kL_2, v_kL_r, v_kU_0, ups_11, upsN, upsA, upA_same, upA_neA, fl_at, fl_neA, v_sq_eq, v_sqM_0, v_sqM_r, v_sqM_b, v_sqM_n, sqM_ite, v_asI, v_asR, v_inc, v_pfI, v_pfZ, v_pfO, v_paI, v_paO, v_exI, v_iff, v_rtI, v_rtZ, v_rtV, v_sk, v_brk, v_cnt, v_blk_eq, v_blkM_some, blkM_ite, v_lI, v_lR, v_cI, v_gI, v_gR, v_op1, v_op2, v_arI, v_arR, v_alen, v_tern, v_cmp1, v_cmp2, v_cAnd, v_cOr, v_cNot, v_cTern, v_bn_some, bn_ite, v_bn_none, v_outV_r, v_outV_0, v_outV_n, outV_ite, List.getD_cons_zero, List.getD_cons_succ, List.set_cons_zero, List.set_cons_succ, List.take_succ_cons, List.take_zero, List.drop_succ_cons, List.drop_zero, List.nil_append, List.cons_append, Option.map_some, Option.map_none, if_true, if_false, reduceIte, reduceCtorEq, decide_eq_true_eq, Bool.not_eq_true', decide_eq_false_iff_not, decide_eq_true, decide_eq_false, decide_true, decide_false, and_self, and_true, true_and, or_self, stO, v_caV_, v_caV_i, v_caV_ii, v_caV_iii, v_caV_iiii, v_caV_iiiii, v_caV_il, v_caV_iil, v_caV_l, v_caV_ll, v_caV_r, v_caV_ri, v_caV_rii, v_caV_riii, v_caV_riiii, v_caV_ir, v_caV_iri, v_caV_iiri, v_caS_i, v_caS_ii, v_caS_iii, v_caS_iiii, v_caS_iiiiii, v_caS_il, v_caS_li, v_caS_ll, v_caS_lll, v_caS_ri, v_caS_riii, sh_239, sh_240, sh_241, sh_242, sh_243, sh_244, sh_245, sh_246, sh_247, sh_248, sh_249, sh_250, sh_251, sh_252, sh_253, rf_239_4, rf_239_5, rf_239_6, rf_239_7, rf_239_20, rf_239_21, rf_239_22, rf_239_23, rf_239_27, rf_239_28, rf_239_32, rf_239_33, rf_239_34, rf_239_35, Int.reduceLE, Int.reduceLT, Int.reduceToNat, Int.reduceAdd, Int.reduceSub, Int.reduceMul, Int.reduceNeg, Int.reduceEq, Int.reduceNe, Nat.reduceAdd, Nat.reduceMul, Nat.reduceLT, Nat.reduceEqDiff, or_true, true_or, or_false, false_or, and_false, false_and, not_true_eq_false, not_false_eq_true, ne_eq, cN4, cN5, cN6, cN7, cN13, cN30, cN60, cN64, cN100, cN136, cN240, cN384, cN900, cN2040, cN3, v_sw_eq, v_swM_0, v_swM_1, v_swM_r, v_swM_n, swM_ite, app_ite, ex_some, bI_0, bI_1, nn_iff, Int.toNat_natCast, Int.toNat_of_nonneg, Int.natCast_add, cN1, wI_id2, wL_id2, if_pos, if_neg]
    exact ⟨σ1, rfl, f1, f2⟩
def TtI (a b : Nat) (σ : SS) (i : Nat) (z : ZZ) : Prop := ∃ σ', z = ([0, 0, (i : Int)], [a, b, 0], σ') ∧ (∀ x, ¬ (a + 11 ≤ x ∧ x < a + 17) → σ' x = σ x) ∧ ∀ t k, t < i → k < 4 → σ' (a + 11 + t) k = σ (b + 11 + t) k
theorem kl_take1 (ha : isP a) (hb : isP b) (hab : a ≠ b) {n : Nat} (hn : σ a 9 = n) (h6 : n ≤ 6) : Wd (L_X3_takeFrom_1 ([0, 0, 0], [a, b, 0], σ)) (fun o z => o = .inl 0 ∧ TtI a b σ n z) := by
  have far := isP_far ha hb hab
  unfold L_X3_takeFrom_1
  refine Wd_it (TtI a b σ) n ⟨σ, rfl, fun _ _ => rfl, fun t k hk => by omega⟩ ?_ ?_
  · intro i z hi hz
    obtain ⟨σ1, hz, f1, f2⟩ := hz
    subst hz
    have e1 : σ1 a 9 = n := by rw [f1 _ (by omega)]; exact hn
    try simp (disch := omega) only [C_X3_takeFrom_1, D_X3_takeFrom_1, U_X3_takeFrom_1, P_a ha, P_1 ha, P_2 ha, P_3 ha, P_4 ha, P_5 ha, P_6 ha, P_7 ha, P_8 ha, P_9 ha, P_10 ha, P_t ha, P_b ha, P_g ha, P_r8 ha, P_r10 ha, P_r12 ha, P_r13 ha, P_e2 ha, P_e3 ha, P_e4 ha, P_e5 ha, P_e6 ha, P_e7 ha, P_rt ha, P_rb ha, P_rg ha, P_a hb, P_1 hb, P_2 hb, P_3 hb, P_4 hb, P_5 hb, P_6 hb, P_7 hb, P_8 hb, P_9 hb, P_10 hb, P_t hb, P_b hb, P_g hb, P_r8 hb, P_r10 hb, P_r12 hb, P_r13 hb, P_e2 hb, P_e3 hb, P_e4 hb, P_e5 hb, P_e6 hb, P_e7 hb, P_rt hb, P_rb hb, P_rg hb, e1, Wd_some, Wd_bn, Wd_sqM, Wd_outV, Wd_blkM, Wd_swM, Wd_ite, Wd_map, v_kS_0, v_kS_b, v_kS_r, v_kO_r, v_kW_0, v_kW_1, v_kW_2, v_kW_r, v_kL_0, v_kL_1, v_kL_2, v_kL_r, v_kU_0, ups_11, upsN, upsA, upA_same, upA_neA, fl_at, fl_neA, v_sq_eq, v_sqM_0, v_sqM_r, v_sqM_b, v_sqM_n, sqM_ite, v_asI, v_asR, v_inc, v_pfI, v_pfZ, v_pfO, v_paI, v_paO, v_exI, v_iff, v_rtI, v_rtZ, v_rtV, v_sk, v_brk, v_cnt, v_blk_eq, v_blkM_some, blkM_ite, v_lI, v_lR, v_cI, v_gI, v_gR, v_op1, v_op2, v_arI, v_arR, v_alen, v_tern, v_cmp1, v_cmp2, v_cAnd, v_cOr, v_cNot, v_cTern, v_bn_some, bn_ite, v_bn_none, v_outV_r, v_outV_0, v_outV_n, outV_ite, List.getD_cons_zero, List.getD_cons_succ, List.set_cons_zero, List.set_cons_succ, List.take_succ_cons, List.take_zero, List.drop_succ_cons, List.drop_zero, List.nil_append, List.cons_append, Option.map_some, Option.map_none, if_true, if_false, reduceIte, reduceCtorEq, decide_eq_true_eq, Bool.not_eq_true', decide_eq_false_iff_not, decide_eq_true, decide_eq_false, decide_true, decide_false, and_self, and_true, true_and, or_self, stO, v_caV_, v_caV_i, v_caV_ii, v_caV_iii, v_caV_iiii, v_caV_iiiii, v_caV_il, v_caV_iil, v_caV_l, v_caV_ll, v_caV_r, v_caV_ri, v_caV_rii, v_caV_riii, v_caV_riiii, v_caV_ir, v_caV_iri, v_caV_iiri, v_caS_i, v_caS_ii, v_caS_iii, v_caS_iiii, v_caS_iiiiii, v_caS_il, v_caS_li, v_caS_ll, v_caS_lll, v_caS_ri, v_caS_riii, sh_239, sh_240, sh_241, sh_242, sh_243, sh_244, sh_245, sh_246, sh_247, sh_248, sh_249, sh_250, sh_251, sh_252, sh_253, rf_239_4, rf_239_5, rf_239_6, rf_239_7, rf_239_20, rf_239_21, rf_239_22, rf_239_23, rf_239_27, rf_239_28, rf_239_32, rf_239_33, rf_239_34, rf_239_35, Int.reduceLE, Int.reduceLT, Int.reduceToNat, Int.reduceAdd, Int.reduceSub, Int.reduceMul, Int.reduceNeg, Int.reduceEq, Int.reduceNe, Nat.reduceAdd, Nat.reduceMul, Nat.reduceLT, Nat.reduceEqDiff, or_true, true_or, or_false, false_or, and_false, false_and, not_true_eq_false, not_false_eq_true, ne_eq, cN4, cN5, cN6, cN7, cN13, cN30, cN60, cN64, cN100, cN136, cN240, cN384, cN900, cN2040, cN3, v_sw_eq, v_swM_0, v_swM_1, v_swM_r, v_swM_n, swM_ite, app_ite, ex_some, bI_0, bI_1, nn_iff, Int.toNat_natCast, Int.toNat_of_nonneg, Int.natCast_add, cN1, wI_id2, wL_id2, if_pos, if_neg]
    refine Wd_mono (k_tuneTake (P_t ha i (by omega)) (P_t hb i (by omega)) (by omega)) (fun r σ2 hr => ?_)
    obtain ⟨hr, g1, g2⟩ := hr
    subst hr
    try simp (disch := omega) only [C_X3_takeFrom_1, D_X3_takeFrom_1, U_X3_takeFrom_1, Wd_some, Wd_bn, Wd_sqM, Wd_outV, Wd_blkM, Wd_swM, Wd_ite, Wd_map, v_kS_0, v_kS_b, v_kS_r, v_kO_r, v_kW_0, v_kW_1, v_kW_2, v_kW_r, v_kL_0, v_kL_1, v_kL_2, v_kL_r, v_kU_0, ups_11, upsN, upsA, upA_same, upA_neA, fl_at, fl_neA, v_sq_eq, v_sqM_0, v_sqM_r, v_sqM_b, v_sqM_n, sqM_ite, v_asI, v_asR, v_inc, v_pfI, v_pfZ, v_pfO, v_paI, v_paO, v_exI, v_iff, v_rtI, v_rtZ, v_rtV, v_sk, v_brk, v_cnt, v_blk_eq, v_blkM_some, blkM_ite, v_lI, v_lR, v_cI, v_gI, v_gR, v_op1, v_op2, v_arI, v_arR, v_alen, v_tern, v_cmp1, v_cmp2, v_cAnd, v_cOr, v_cNot, v_cTern, v_bn_some, bn_ite, v_bn_none, v_outV_r, v_outV_0, v_outV_n, outV_ite, List.getD_cons_zero, List.getD_cons_succ, List.set_cons_zero, List.set_cons_succ, List.take_succ_cons, List.take_zero, List.drop_succ_cons, List.drop_zero, List.nil_append, List.cons_append, Option.map_some, Option.map_none, if_true, if_false, reduceIte, reduceCtorEq, decide_eq_true_eq, Bool.not_eq_true', decide_eq_false_iff_not, decide_eq_true, decide_eq_false, decide_true, decide_false, and_self, and_true, true_and, or_self, stO, v_caV_, v_caV_i, v_caV_ii, v_caV_iii, v_caV_iiii, v_caV_iiiii, v_caV_il, v_caV_iil, v_caV_l, v_caV_ll, v_caV_r, v_caV_ri, v_caV_rii, v_caV_riii, v_caV_riiii, v_caV_ir, v_caV_iri, v_caV_iiri, v_caS_i, v_caS_ii, v_caS_iii, v_caS_iiii, v_caS_iiiiii, v_caS_il, v_caS_li, v_caS_ll, v_caS_lll, v_caS_ri, v_caS_riii, sh_239, sh_240, sh_241, sh_242, sh_243, sh_244, sh_245, sh_246, sh_247, sh_248, sh_249, sh_250, sh_251, sh_252, sh_253, rf_239_4, rf_239_5, rf_239_6, rf_239_7, rf_239_20, rf_239_21, rf_239_22, rf_239_23, rf_239_27, rf_239_28, rf_239_32, rf_239_33, rf_239_34, rf_239_35, Int.reduceLE, Int.reduceLT, Int.reduceToNat, Int.reduceAdd, Int.reduceSub, Int.reduceMul, Int.reduceNeg, Int.reduceEq, Int.reduceNe, Nat.reduceAdd, Nat.reduceMul, Nat.reduceLT, Nat.reduceEqDiff, or_true, true_or, or_false, false_or, and_false, false_and, not_true_eq_false, not_false_eq_true, ne_eq, cN4, cN5, cN6, cN7, cN13, cN30, cN60, cN64, cN100, cN136, cN240, cN384, cN900, cN2040, cN3, v_sw_eq, v_swM_0, v_swM_1, v_swM_r, v_swM_n, swM_ite, app_ite, ex_some, bI_0, bI_1, nn_iff, Int.toNat_natCast, Int.toNat_of_nonneg, Int.natCast_add, cN1, wI_id2, wL_id2, if_pos, if_neg]
    refine ⟨σ2, rfl, fun x hx => ?_, fun t k ht hk => ?_⟩
    · rw [g1 x (by omega)]; exact f1 x hx
    · by_cases e : t = i
      · subst e
        rw [g2 k hk, f1 _ (by omega)]
      · rw [g1 _ (by omega)]; exact f2 t k (by omega) hk
  · intro z hz
    obtain ⟨σ1, hz, f1, f2⟩ := hz
    subst hz
    have e1 : σ1 a 9 = n := by rw [f1 _ (by omega)]; exact hn
    try simp (disch := omega) only [C_X3_takeFrom_1, D_X3_takeFrom_1, U_X3_takeFrom_1, P_a ha, P_1 ha, P_2 ha, P_3 ha, P_4 ha, P_5 ha, P_6 ha, P_7 ha, P_8 ha, P_9 ha, P_10 ha, P_t ha, P_b ha, P_g ha, P_r8 ha, P_r10 ha, P_r12 ha, P_r13 ha, P_e2 ha, P_e3 ha, P_e4 ha, P_e5 ha, P_e6 ha, P_e7 ha, P_rt ha, P_rb ha, P_rg ha, P_a hb, P_1 hb, P_2 hb, P_3 hb, P_4 hb, P_5 hb, P_6 hb, P_7 hb, P_8 hb, P_9 hb, P_10 hb, P_t hb, P_b hb, P_g hb, P_r8 hb, P_r10 hb, P_r12 hb, P_r13 hb, P_e2 hb, P_e3 hb, P_e4 hb, P_e5 hb, P_e6 hb, P_e7 hb, P_rt hb, P_rb hb, P_rg hb, e1, Wd_some, Wd_bn, Wd_sqM, Wd_outV, Wd_blkM, Wd_swM, Wd_ite, Wd_map, v_kS_0, v_kS_b, v_kS_r, v_kO_r, v_kW_0, v_kW_1, v_kW_2, v_kW_r, v_kL_0, v_kL_1, v_kL_2, v_kL_r, v_kU_0, ups_11, upsN, upsA, upA_same, upA_neA, fl_at, fl_neA, v_sq_eq, v_sqM_0, v_sqM_r, v_sqM_b, v_sqM_n, sqM_ite, v_asI, v_asR, v_inc, v_pfI, v_pfZ, v_pfO, v_paI, v_paO, v_exI, v_iff, v_rtI, v_rtZ, v_rtV, v_sk, v_brk, v_cnt, v_blk_eq, v_blkM_some, blkM_ite, v_lI, v_lR, v_cI, v_gI, v_gR, v_op1, v_op2, v_arI, v_arR, v_alen, v_tern, v_cmp1, v_cmp2, v_cAnd, v_cOr, v_cNot, v_cTern, v_bn_some, bn_ite, v_bn_none, v_outV_r, v_outV_0, v_outV_n, outV_ite, List.getD_cons_zero, List.getD_cons_succ, List.set_cons_zero, List.set_cons_succ, List.take_succ_cons, List.take_zero, List.drop_succ_cons, List.drop_zero, List.nil_append, List.cons_append, Option.map_some, Option.map_none, if_true, if_false, reduceIte, reduceCtorEq, decide_eq_true_eq, Bool.not_eq_true', decide_eq_false_iff_not, decide_eq_true, decide_eq_false, decide_true, decide_false, and_self, and_true, true_and, or_self, stO, v_caV_, v_caV_i, v_caV_ii, v_caV_iii, v_caV_iiii, v_caV_iiiii, v_caV_il, v_caV_iil, v_caV_l, v_caV_ll, v_caV_r, v_caV_ri, v_caV_rii, v_caV_riii, v_caV_riiii, v_caV_ir, v_caV_iri, v_caV_iiri, v_caS_i, v_caS_ii, v_caS_iii, v_caS_iiii, v_caS_iiiiii, v_caS_il, v_caS_li, v_caS_ll, v_caS_lll, v_caS_ri, v_caS_riii, sh_239, sh_240, sh_241, sh_242, sh_243, sh_244, sh_245, sh_246, sh_247, sh_248, sh_249, sh_250, sh_251, sh_252, sh_253, rf_239_4, rf_239_5, rf_239_6, rf_239_7, rf_239_20, rf_239_21, rf_239_22, rf_239_23, rf_239_27, rf_239_28, rf_239_32, rf_239_33, rf_239_34, rf_239_35, Int.reduceLE, Int.reduceLT, Int.reduceToNat, Int.reduceAdd, Int.reduceSub, Int.reduceMul, Int.reduceNeg, Int.reduceEq, Int.reduceNe, Nat.reduceAdd, Nat.reduceMul, Nat.reduceLT, Nat.reduceEqDiff, or_true, true_or, or_false, false_or, and_false, false_and, not_true_eq_false, not_false_eq_true, ne_eq, cN4, cN5, cN6, cN7, cN13, cN30, cN60, cN64, cN100, cN136, cN240, cN384, cN900, cN2040, cN3, v_sw_eq, v_swM_0, v_swM_1, v_swM_r, v_swM_n, swM_ite, app_ite, ex_some, bI_0, bI_1, nn_iff, Int.toNat_natCast, Int.toNat_of_nonneg, Int.natCast_add, cN1, wI_id2, wL_id2, if_pos, if_neg]
    exact ⟨σ1, rfl, f1, f2⟩
def DtI (a b : Nat) (σ : SS) (i : Nat) (z : ZZ) : Prop := ∃ σ', z = ([0, 0, (i : Int)], [a, b, 0], σ') ∧ (∀ x, ¬ (a + 17 ≤ x ∧ x < a + 29) → σ' x = σ x) ∧ ∀ t, t < i → (∀ k, k < 8 → σ' (a + 17 + 2 * t) k = σ (b + 17 + 2 * t) k) ∧ (∀ k, k < 6 → σ' (a + 18 + 2 * t) k = σ (b + 18 + 2 * t) k)
theorem kl_take2 (ha : isP a) (hb : isP b) (hab : a ≠ b) {n : Nat} (hn : σ a 11 = n) (h6 : n ≤ 6) : Wd (L_X3_takeFrom_2 ([0, 0, 0], [a, b, 0], σ)) (fun o z => o = .inl 0 ∧ DtI a b σ n z) := by
  have far := isP_far ha hb hab
  unfold L_X3_takeFrom_2
  refine Wd_it (DtI a b σ) n ⟨σ, rfl, fun _ _ => rfl, fun t hk => by omega⟩ ?_ ?_
  · intro i z hi hz
    obtain ⟨σ1, hz, f1, f2⟩ := hz
    subst hz
    have e1 : σ1 a 11 = n := by rw [f1 _ (by omega)]; exact hn
    have ea : a + 17 + 2 * i + 1 = a + 18 + 2 * i := by omega
    have eb : b + 17 + 2 * i + 1 = b + 18 + 2 * i := by omega
    try simp (disch := omega) only [C_X3_takeFrom_2, D_X3_takeFrom_2, U_X3_takeFrom_2, P_a ha, P_1 ha, P_2 ha, P_3 ha, P_4 ha, P_5 ha, P_6 ha, P_7 ha, P_8 ha, P_9 ha, P_10 ha, P_t ha, P_b ha, P_g ha, P_r8 ha, P_r10 ha, P_r12 ha, P_r13 ha, P_e2 ha, P_e3 ha, P_e4 ha, P_e5 ha, P_e6 ha, P_e7 ha, P_rt ha, P_rb ha, P_rg ha, P_a hb, P_1 hb, P_2 hb, P_3 hb, P_4 hb, P_5 hb, P_6 hb, P_7 hb, P_8 hb, P_9 hb, P_10 hb, P_t hb, P_b hb, P_g hb, P_r8 hb, P_r10 hb, P_r12 hb, P_r13 hb, P_e2 hb, P_e3 hb, P_e4 hb, P_e5 hb, P_e6 hb, P_e7 hb, P_rt hb, P_rb hb, P_rg hb, e1, Wd_some, Wd_bn, Wd_sqM, Wd_outV, Wd_blkM, Wd_swM, Wd_ite, Wd_map, v_kS_0, v_kS_b, v_kS_r, v_kO_r, v_kW_0, v_kW_1, v_kW_2, v_kW_r, v_kL_0, v_kL_1, v_kL_2, v_kL_r, v_kU_0, ups_11, upsN, upsA, upA_same, upA_neA, fl_at, fl_neA, v_sq_eq, v_sqM_0, v_sqM_r, v_sqM_b, v_sqM_n, sqM_ite, v_asI, v_asR, v_inc, v_pfI, v_pfZ, v_pfO, v_paI, v_paO, v_exI, v_iff, v_rtI, v_rtZ, v_rtV, v_sk, v_brk, v_cnt, v_blk_eq, v_blkM_some, blkM_ite, v_lI, v_lR, v_cI, v_gI, v_gR, v_op1, v_op2, v_arI, v_arR, v_alen, v_tern, v_cmp1, v_cmp2, v_cAnd, v_cOr, v_cNot, v_cTern, v_bn_some, bn_ite, v_bn_none, v_outV_r, v_outV_0, v_outV_n, outV_ite, List.getD_cons_zero, List.getD_cons_succ, List.set_cons_zero, List.set_cons_succ, List.take_succ_cons, List.take_zero, List.drop_succ_cons, List.drop_zero, List.nil_append, List.cons_append, Option.map_some, Option.map_none, if_true, if_false, reduceIte, reduceCtorEq, decide_eq_true_eq, Bool.not_eq_true', decide_eq_false_iff_not, decide_eq_true, decide_eq_false, decide_true, decide_false, and_self, and_true, true_and, or_self, stO, v_caV_, v_caV_i, v_caV_ii, v_caV_iii, v_caV_iiii, v_caV_iiiii, v_caV_il, v_caV_iil, v_caV_l, v_caV_ll, v_caV_r, v_caV_ri, v_caV_rii, v_caV_riii, v_caV_riiii, v_caV_ir, v_caV_iri, v_caV_iiri, v_caS_i, v_caS_ii, v_caS_iii, v_caS_iiii, v_caS_iiiiii, v_caS_il, v_caS_li, v_caS_ll, v_caS_lll, v_caS_ri, v_caS_riii, sh_239, sh_240, sh_241, sh_242, sh_243, sh_244, sh_245, sh_246, sh_247, sh_248, sh_249, sh_250, sh_251, sh_252, sh_253, rf_239_4, rf_239_5, rf_239_6, rf_239_7, rf_239_20, rf_239_21, rf_239_22, rf_239_23, rf_239_27, rf_239_28, rf_239_32, rf_239_33, rf_239_34, rf_239_35, Int.reduceLE, Int.reduceLT, Int.reduceToNat, Int.reduceAdd, Int.reduceSub, Int.reduceMul, Int.reduceNeg, Int.reduceEq, Int.reduceNe, Nat.reduceAdd, Nat.reduceMul, Nat.reduceLT, Nat.reduceEqDiff, or_true, true_or, or_false, false_or, and_false, false_and, not_true_eq_false, not_false_eq_true, ne_eq, cN4, cN5, cN6, cN7, cN13, cN30, cN60, cN64, cN100, cN136, cN240, cN384, cN900, cN2040, cN3, v_sw_eq, v_swM_0, v_swM_1, v_swM_r, v_swM_n, swM_ite, app_ite, ex_some, bI_0, bI_1, nn_iff, Int.toNat_natCast, Int.toNat_of_nonneg, Int.natCast_add, cN1, wI_id2, wL_id2, if_pos, if_neg]
    refine Wd_mono (k_bandTake (P_b ha i (by omega)) (P_b hb i (by omega)) (by rw [ea]; exact P_g ha i (by omega)) (by rw [eb]; exact P_g hb i (by omega)) (by rw [ea]; exact P_rg ha i (by omega)) (by rw [eb]; exact P_rg hb i (by omega)) (by omega)) (fun r σ2 hr => ?_)
    obtain ⟨hr, g1, g2, g3⟩ := hr
    subst hr
    rw [ea, eb] at g3
    try simp (disch := omega) only [C_X3_takeFrom_2, D_X3_takeFrom_2, U_X3_takeFrom_2, Wd_some, Wd_bn, Wd_sqM, Wd_outV, Wd_blkM, Wd_swM, Wd_ite, Wd_map, v_kS_0, v_kS_b, v_kS_r, v_kO_r, v_kW_0, v_kW_1, v_kW_2, v_kW_r, v_kL_0, v_kL_1, v_kL_2, v_kL_r, v_kU_0, ups_11, upsN, upsA, upA_same, upA_neA, fl_at, fl_neA, v_sq_eq, v_sqM_0, v_sqM_r, v_sqM_b, v_sqM_n, sqM_ite, v_asI, v_asR, v_inc, v_pfI, v_pfZ, v_pfO, v_paI, v_paO, v_exI, v_iff, v_rtI, v_rtZ, v_rtV, v_sk, v_brk, v_cnt, v_blk_eq, v_blkM_some, blkM_ite, v_lI, v_lR, v_cI, v_gI, v_gR, v_op1, v_op2, v_arI, v_arR, v_alen, v_tern, v_cmp1, v_cmp2, v_cAnd, v_cOr, v_cNot, v_cTern, v_bn_some, bn_ite, v_bn_none, v_outV_r, v_outV_0, v_outV_n, outV_ite, List.getD_cons_zero, List.getD_cons_succ, List.set_cons_zero, List.set_cons_succ, List.take_succ_cons, List.take_zero, List.drop_succ_cons, List.drop_zero, List.nil_append, List.cons_append, Option.map_some, Option.map_none, if_true, if_false, reduceIte, reduceCtorEq, decide_eq_true_eq, Bool.not_eq_true', decide_eq_false_iff_not, decide_eq_true, decide_eq_false, decide_true, decide_false, and_self, and_true, true_and, or_self, stO, v_caV_, v_caV_i, v_caV_ii, v_caV_iii, v_caV_iiii, v_caV_iiiii, v_caV_il, v_caV_iil, v_caV_l, v_caV_ll, v_caV_r, v_caV_ri, v_caV_rii, v_caV_riii, v_caV_riiii, v_caV_ir, v_caV_iri, v_caV_iiri, v_caS_i, v_caS_ii, v_caS_iii, v_caS_iiii, v_caS_iiiiii, v_caS_il, v_caS_li, v_caS_ll, v_caS_lll, v_caS_ri, v_caS_riii, sh_239, sh_240, sh_241, sh_242, sh_243, sh_244, sh_245, sh_246, sh_247, sh_248, sh_249, sh_250, sh_251, sh_252, sh_253, rf_239_4, rf_239_5, rf_239_6, rf_239_7, rf_239_20, rf_239_21, rf_239_22, rf_239_23, rf_239_27, rf_239_28, rf_239_32, rf_239_33, rf_239_34, rf_239_35, Int.reduceLE, Int.reduceLT, Int.reduceToNat, Int.reduceAdd, Int.reduceSub, Int.reduceMul, Int.reduceNeg, Int.reduceEq, Int.reduceNe, Nat.reduceAdd, Nat.reduceMul, Nat.reduceLT, Nat.reduceEqDiff, or_true, true_or, or_false, false_or, and_false, false_and, not_true_eq_false, not_false_eq_true, ne_eq, cN4, cN5, cN6, cN7, cN13, cN30, cN60, cN64, cN100, cN136, cN240, cN384, cN900, cN2040, cN3, v_sw_eq, v_swM_0, v_swM_1, v_swM_r, v_swM_n, swM_ite, app_ite, ex_some, bI_0, bI_1, nn_iff, Int.toNat_natCast, Int.toNat_of_nonneg, Int.natCast_add, cN1, wI_id2, wL_id2, if_pos, if_neg]
    refine ⟨σ2, rfl, fun x hx => ?_, fun t ht => ?_⟩
    · rw [g1 x (by omega) (by omega)]; exact f1 x hx
    · by_cases e : t = i
      · subst e
        refine ⟨fun k hk => ?_, fun k hk => ?_⟩
        · rw [g2 k hk, f1 _ (by omega)]
        · rw [g3 k hk, f1 _ (by omega)]
      · rw [g1 _ (by omega) (by omega), g1 _ (by omega) (by omega)]; exact f2 t (by omega)
  · intro z hz
    obtain ⟨σ1, hz, f1, f2⟩ := hz
    subst hz
    have e1 : σ1 a 11 = n := by rw [f1 _ (by omega)]; exact hn
    try simp (disch := omega) only [C_X3_takeFrom_2, D_X3_takeFrom_2, U_X3_takeFrom_2, P_a ha, P_1 ha, P_2 ha, P_3 ha, P_4 ha, P_5 ha, P_6 ha, P_7 ha, P_8 ha, P_9 ha, P_10 ha, P_t ha, P_b ha, P_g ha, P_r8 ha, P_r10 ha, P_r12 ha, P_r13 ha, P_e2 ha, P_e3 ha, P_e4 ha, P_e5 ha, P_e6 ha, P_e7 ha, P_rt ha, P_rb ha, P_rg ha, P_a hb, P_1 hb, P_2 hb, P_3 hb, P_4 hb, P_5 hb, P_6 hb, P_7 hb, P_8 hb, P_9 hb, P_10 hb, P_t hb, P_b hb, P_g hb, P_r8 hb, P_r10 hb, P_r12 hb, P_r13 hb, P_e2 hb, P_e3 hb, P_e4 hb, P_e5 hb, P_e6 hb, P_e7 hb, P_rt hb, P_rb hb, P_rg hb, e1, Wd_some, Wd_bn, Wd_sqM, Wd_outV, Wd_blkM, Wd_swM, Wd_ite, Wd_map, v_kS_0, v_kS_b, v_kS_r, v_kO_r, v_kW_0, v_kW_1, v_kW_2, v_kW_r, v_kL_0, v_kL_1, v_kL_2, v_kL_r, v_kU_0, ups_11, upsN, upsA, upA_same, upA_neA, fl_at, fl_neA, v_sq_eq, v_sqM_0, v_sqM_r, v_sqM_b, v_sqM_n, sqM_ite, v_asI, v_asR, v_inc, v_pfI, v_pfZ, v_pfO, v_paI, v_paO, v_exI, v_iff, v_rtI, v_rtZ, v_rtV, v_sk, v_brk, v_cnt, v_blk_eq, v_blkM_some, blkM_ite, v_lI, v_lR, v_cI, v_gI, v_gR, v_op1, v_op2, v_arI, v_arR, v_alen, v_tern, v_cmp1, v_cmp2, v_cAnd, v_cOr, v_cNot, v_cTern, v_bn_some, bn_ite, v_bn_none, v_outV_r, v_outV_0, v_outV_n, outV_ite, List.getD_cons_zero, List.getD_cons_succ, List.set_cons_zero, List.set_cons_succ, List.take_succ_cons, List.take_zero, List.drop_succ_cons, List.drop_zero, List.nil_append, List.cons_append, Option.map_some, Option.map_none, if_true, if_false, reduceIte, reduceCtorEq, decide_eq_true_eq, Bool.not_eq_true', decide_eq_false_iff_not, decide_eq_true, decide_eq_false, decide_true, decide_false, and_self, and_true, true_and, or_self, stO, v_caV_, v_caV_i, v_caV_ii, v_caV_iii, v_caV_iiii, v_caV_iiiii, v_caV_il, v_caV_iil, v_caV_l, v_caV_ll, v_caV_r, v_caV_ri, v_caV_rii, v_caV_riii, v_caV_riiii, v_caV_ir, v_caV_iri, v_caV_iiri, v_caS_i, v_caS_ii, v_caS_iii, v_caS_iiii, v_caS_iiiiii, v_caS_il, v_caS_li, v_caS_ll, v_caS_lll, v_caS_ri, v_caS_riii, sh_239, sh_240, sh_241, sh_242, sh_243, sh_244, sh_245, sh_246, sh_247, sh_248, sh_249, sh_250, sh_251, sh_252, sh_253, rf_239_4, rf_239_5, rf_239_6, rf_239_7, rf_239_20, rf_239_21, rf_239_22, rf_239_23, rf_239_27, rf_239_28, rf_239_32, rf_239_33, rf_239_34, rf_239_35, Int.reduceLE, Int.reduceLT, Int.reduceToNat, Int.reduceAdd, Int.reduceSub, Int.reduceMul, Int.reduceNeg, Int.reduceEq, Int.reduceNe, Nat.reduceAdd, Nat.reduceMul, Nat.reduceLT, Nat.reduceEqDiff, or_true, true_or, or_false, false_or, and_false, false_and, not_true_eq_false, not_false_eq_true, ne_eq, cN4, cN5, cN6, cN7, cN13, cN30, cN60, cN64, cN100, cN136, cN240, cN384, cN900, cN2040, cN3, v_sw_eq, v_swM_0, v_swM_1, v_swM_r, v_swM_n, swM_ite, app_ite, ex_some, bI_0, bI_1, nn_iff, Int.toNat_natCast, Int.toNat_of_nonneg, Int.natCast_add, cN1, wI_id2, wL_id2, if_pos, if_neg]
    exact ⟨σ1, rfl, f1, f2⟩
theorem EvR_c {σ σ' : SS} {e : Nat} {c : Nat → Int} (h : ∀ x, e ≤ x → x ≤ e + 6 → σ' x = σ x) (H : EvR σ e c) : EvR σ' e c := by
  unfold EvR EvS at H ⊢
  rw [h e (by omega) (by omega), h (e + 1) (by omega) (by omega), h (e + 2) (by omega) (by omega), h (e + 3) (by omega) (by omega), h (e + 4) (by omega) (by omega), h (e + 5) (by omega) (by omega), h (e + 6) (by omega) (by omega)]
  exact H
set_option maxHeartbeats 4000000 in
theorem k_takeFrom (ha : isP a) (hb : isP b) (hab : a ≠ b) (P : PkS σ b c w) (E : EvR σ (b + 4) c) (hw : WB c) (h6 : c 136 = 0 ∨ c 136 = 1) (h7 : 0 ≤ c 137 ∧ c 137 ≤ 30) (hv : -2147483648 ≤ σ a 14 + 1 ∧ σ a 14 + 1 < 2147483648) : Wd (F_X3_takeFrom a b σ) (fun r σ' => r = 0 ∧ (∀ x, ¬ (a ≤ x ∧ x < a + 29) → σ' x = σ x) ∧ PkS σ' a c w ∧ EvR σ' (a + 4) c ∧ σ' a 14 = σ a 14 + 1) := by
  have far := isP_far ha hb hab
  have hH := hw.1
  have hN := nC_c hw.1
  obtain ⟨E1, E2, E3⟩ := E
  obtain ⟨p1, p2, p3, p4⟩ := P
  try simp (disch := omega) only [F_X3_takeFrom, E_X3_takeFrom, P_a ha, P_1 ha, P_2 ha, P_3 ha, P_4 ha, P_5 ha, P_6 ha, P_7 ha, P_8 ha, P_9 ha, P_10 ha, P_t ha, P_b ha, P_g ha, P_r8 ha, P_r10 ha, P_r12 ha, P_r13 ha, P_e2 ha, P_e3 ha, P_e4 ha, P_e5 ha, P_e6 ha, P_e7 ha, P_rt ha, P_rb ha, P_rg ha, P_a hb, P_1 hb, P_2 hb, P_3 hb, P_4 hb, P_5 hb, P_6 hb, P_7 hb, P_8 hb, P_9 hb, P_10 hb, P_t hb, P_b hb, P_g hb, P_r8 hb, P_r10 hb, P_r12 hb, P_r13 hb, P_e2 hb, P_e3 hb, P_e4 hb, P_e5 hb, P_e6 hb, P_e7 hb, P_rt hb, P_rb hb, P_rg hb, p1.1, p1.2.1, p1.2.2.1, p1.2.2.2.1, p1.2.2.2.2.1, p1.2.2.2.2.2.1, p1.2.2.2.2.2.2.1, p1.2.2.2.2.2.2.2.1, p1.2.2.2.2.2.2.2.2.1, p1.2.2.2.2.2.2.2.2.2, Wd_some, Wd_bn, Wd_sqM, Wd_outV, Wd_blkM, Wd_swM, Wd_ite, Wd_map, v_kS_0, v_kS_b, v_kS_r, v_kO_r, v_kW_0, v_kW_1, v_kW_2, v_kW_r, v_kL_0, v_kL_1, v_kL_2, v_kL_r, v_kU_0, ups_11, upsN, upsA, upA_same, upA_neA, fl_at, fl_neA, v_sq_eq, v_sqM_0, v_sqM_r, v_sqM_b, v_sqM_n, sqM_ite, v_asI, v_asR, v_inc, v_pfI, v_pfZ, v_pfO, v_paI, v_paO, v_exI, v_iff, v_rtI, v_rtZ, v_rtV, v_sk, v_brk, v_cnt, v_blk_eq, v_blkM_some, blkM_ite, v_lI, v_lR, v_cI, v_gI, v_gR, v_op1, v_op2, v_arI, v_arR, v_alen, v_tern, v_cmp1, v_cmp2, v_cAnd, v_cOr, v_cNot, v_cTern, v_bn_some, bn_ite, v_bn_none, v_outV_r, v_outV_0, v_outV_n, outV_ite, List.getD_cons_zero, List.getD_cons_succ, List.set_cons_zero, List.set_cons_succ, List.take_succ_cons, List.take_zero, List.drop_succ_cons, List.drop_zero, List.nil_append, List.cons_append, Option.map_some, Option.map_none, if_true, if_false, reduceIte, reduceCtorEq, decide_eq_true_eq, Bool.not_eq_true', decide_eq_false_iff_not, decide_eq_true, decide_eq_false, decide_true, decide_false, and_self, and_true, true_and, or_self, stO, v_caV_, v_caV_i, v_caV_ii, v_caV_iii, v_caV_iiii, v_caV_iiiii, v_caV_il, v_caV_iil, v_caV_l, v_caV_ll, v_caV_r, v_caV_ri, v_caV_rii, v_caV_riii, v_caV_riiii, v_caV_ir, v_caV_iri, v_caV_iiri, v_caS_i, v_caS_ii, v_caS_iii, v_caS_iiii, v_caS_iiiiii, v_caS_il, v_caS_li, v_caS_ll, v_caS_lll, v_caS_ri, v_caS_riii, sh_239, sh_240, sh_241, sh_242, sh_243, sh_244, sh_245, sh_246, sh_247, sh_248, sh_249, sh_250, sh_251, sh_252, sh_253, rf_239_4, rf_239_5, rf_239_6, rf_239_7, rf_239_20, rf_239_21, rf_239_22, rf_239_23, rf_239_27, rf_239_28, rf_239_32, rf_239_33, rf_239_34, rf_239_35, Int.reduceLE, Int.reduceLT, Int.reduceToNat, Int.reduceAdd, Int.reduceSub, Int.reduceMul, Int.reduceNeg, Int.reduceEq, Int.reduceNe, Nat.reduceAdd, Nat.reduceMul, Nat.reduceLT, Nat.reduceEqDiff, or_true, true_or, or_false, false_or, and_false, false_and, not_true_eq_false, not_false_eq_true, ne_eq, cN4, cN5, cN6, cN7, cN13, cN30, cN60, cN64, cN100, cN136, cN240, cN384, cN900, cN2040, cN3, v_sw_eq, v_swM_0, v_swM_1, v_swM_r, v_swM_n, swM_ite, app_ite, ex_some, bI_0, bI_1, nn_iff, Int.toNat_natCast, Int.toNat_of_nonneg, Int.natCast_add, cN1, wI_id2, wL_id2, if_pos, if_neg]
  refine Wd_gen (F := F_X1_takeFrom (a + 4) (b + 4)) (fun S => (∀ x, x ≠ a → S x = σ x) ∧ kH S a c ∧ S a 14 = σ a 14) ?_ ?_
  · refine ⟨fun x hx => by try simp (disch := omega) only [ups_11, upsN, upsA, upA_same, upA_neA, fl_at, fl_neA], ?_, by try simp (disch := omega) only [ups_11, upsN, upsA, upA_same, upA_neA, fl_at, fl_neA]⟩
    unfold kH
    try simp (disch := omega) only [ups_11, upsN, upsA, upA_same, upA_neA, fl_at, fl_neA]
    exact ⟨trivial, trivial, trivial, trivial, trivial, trivial, trivial, trivial, trivial, trivial⟩
  intro S hS
  obtain ⟨s1, s2, s3⟩ := hS
  refine Wd_mono (k_evTake ha hb hab (n := (c 137).toNat) (by rw [s1 _ (by omega)]; omega) (by rw [s1 _ (by omega)]; omega) (by omega)) (fun r σ1 hr => ?_)
  obtain ⟨hr, f1, f2, f3, f4⟩ := hr
  subst hr
  have e14 : σ1 a 14 = σ a 14 := by rw [f1 a (by omega)]; exact s3
  have H1 : kH σ1 a c := kH_c (f1 a (by omega)) s2
  have fb : ∀ x, b ≤ x → x < b + 29 → σ1 x = σ x := fun x h1 h2 => by rw [f1 x (by omega), s1 x (by omega)]
  try simp (disch := omega) only [P_a ha, P_1 ha, P_2 ha, P_3 ha, P_4 ha, P_5 ha, P_6 ha, P_7 ha, P_8 ha, P_9 ha, P_10 ha, P_t ha, P_b ha, P_g ha, P_r8 ha, P_r10 ha, P_r12 ha, P_r13 ha, P_e2 ha, P_e3 ha, P_e4 ha, P_e5 ha, P_e6 ha, P_e7 ha, P_rt ha, P_rb ha, P_rg ha, P_a hb, P_1 hb, P_2 hb, P_3 hb, P_4 hb, P_5 hb, P_6 hb, P_7 hb, P_8 hb, P_9 hb, P_10 hb, P_t hb, P_b hb, P_g hb, P_r8 hb, P_r10 hb, P_r12 hb, P_r13 hb, P_e2 hb, P_e3 hb, P_e4 hb, P_e5 hb, P_e6 hb, P_e7 hb, P_rt hb, P_rb hb, P_rg hb, e14, Wd_some, Wd_bn, Wd_sqM, Wd_outV, Wd_blkM, Wd_swM, Wd_ite, Wd_map, v_kS_0, v_kS_b, v_kS_r, v_kO_r, v_kW_0, v_kW_1, v_kW_2, v_kW_r, v_kL_0, v_kL_1, v_kL_2, v_kL_r, v_kU_0, ups_11, upsN, upsA, upA_same, upA_neA, fl_at, fl_neA, v_sq_eq, v_sqM_0, v_sqM_r, v_sqM_b, v_sqM_n, sqM_ite, v_asI, v_asR, v_inc, v_pfI, v_pfZ, v_pfO, v_paI, v_paO, v_exI, v_iff, v_rtI, v_rtZ, v_rtV, v_sk, v_brk, v_cnt, v_blk_eq, v_blkM_some, blkM_ite, v_lI, v_lR, v_cI, v_gI, v_gR, v_op1, v_op2, v_arI, v_arR, v_alen, v_tern, v_cmp1, v_cmp2, v_cAnd, v_cOr, v_cNot, v_cTern, v_bn_some, bn_ite, v_bn_none, v_outV_r, v_outV_0, v_outV_n, outV_ite, List.getD_cons_zero, List.getD_cons_succ, List.set_cons_zero, List.set_cons_succ, List.take_succ_cons, List.take_zero, List.drop_succ_cons, List.drop_zero, List.nil_append, List.cons_append, Option.map_some, Option.map_none, if_true, if_false, reduceIte, reduceCtorEq, decide_eq_true_eq, Bool.not_eq_true', decide_eq_false_iff_not, decide_eq_true, decide_eq_false, decide_true, decide_false, and_self, and_true, true_and, or_self, stO, v_caV_, v_caV_i, v_caV_ii, v_caV_iii, v_caV_iiii, v_caV_iiiii, v_caV_il, v_caV_iil, v_caV_l, v_caV_ll, v_caV_r, v_caV_ri, v_caV_rii, v_caV_riii, v_caV_riiii, v_caV_ir, v_caV_iri, v_caV_iiri, v_caS_i, v_caS_ii, v_caS_iii, v_caS_iiii, v_caS_iiiiii, v_caS_il, v_caS_li, v_caS_ll, v_caS_lll, v_caS_ri, v_caS_riii, sh_239, sh_240, sh_241, sh_242, sh_243, sh_244, sh_245, sh_246, sh_247, sh_248, sh_249, sh_250, sh_251, sh_252, sh_253, rf_239_4, rf_239_5, rf_239_6, rf_239_7, rf_239_20, rf_239_21, rf_239_22, rf_239_23, rf_239_27, rf_239_28, rf_239_32, rf_239_33, rf_239_34, rf_239_35, Int.reduceLE, Int.reduceLT, Int.reduceToNat, Int.reduceAdd, Int.reduceSub, Int.reduceMul, Int.reduceNeg, Int.reduceEq, Int.reduceNe, Nat.reduceAdd, Nat.reduceMul, Nat.reduceLT, Nat.reduceEqDiff, or_true, true_or, or_false, false_or, and_false, false_and, not_true_eq_false, not_false_eq_true, ne_eq, cN4, cN5, cN6, cN7, cN13, cN30, cN60, cN64, cN100, cN136, cN240, cN384, cN900, cN2040, cN3, v_sw_eq, v_swM_0, v_swM_1, v_swM_r, v_swM_n, swM_ite, app_ite, ex_some, bI_0, bI_1, nn_iff, Int.toNat_natCast, Int.toNat_of_nonneg, Int.natCast_add, cN1, wI_id2, wL_id2, if_pos, if_neg]
  refine Wd_mono (kl_take0 ha hb hab) (fun o z hz => ?_)
  obtain ⟨ho, σ2, hz, g1, g2⟩ := hz
  subst ho; subst hz
  have n2 : σ2 a 9 = ((c 2).toNat : Nat) := by rw [g1 a (by omega)]; try simp (disch := omega) only [ups_11, upsN, upsA, upA_same, upA_neA, fl_at, fl_neA]; rw [H1.2.2.2.2.2.2.2.2.1]; omega
  try simp (disch := omega) only [P_a ha, P_1 ha, P_2 ha, P_3 ha, P_4 ha, P_5 ha, P_6 ha, P_7 ha, P_8 ha, P_9 ha, P_10 ha, P_t ha, P_b ha, P_g ha, P_r8 ha, P_r10 ha, P_r12 ha, P_r13 ha, P_e2 ha, P_e3 ha, P_e4 ha, P_e5 ha, P_e6 ha, P_e7 ha, P_rt ha, P_rb ha, P_rg ha, P_a hb, P_1 hb, P_2 hb, P_3 hb, P_4 hb, P_5 hb, P_6 hb, P_7 hb, P_8 hb, P_9 hb, P_10 hb, P_t hb, P_b hb, P_g hb, P_r8 hb, P_r10 hb, P_r12 hb, P_r13 hb, P_e2 hb, P_e3 hb, P_e4 hb, P_e5 hb, P_e6 hb, P_e7 hb, P_rt hb, P_rb hb, P_rg hb, Wd_some, Wd_bn, Wd_sqM, Wd_outV, Wd_blkM, Wd_swM, Wd_ite, Wd_map, v_kS_0, v_kS_b, v_kS_r, v_kO_r, v_kW_0, v_kW_1, v_kW_2, v_kW_r, v_kL_0, v_kL_1, v_kL_2, v_kL_r, v_kU_0, ups_11, upsN, upsA, upA_same, upA_neA, fl_at, fl_neA, v_sq_eq, v_sqM_0, v_sqM_r, v_sqM_b, v_sqM_n, sqM_ite, v_asI, v_asR, v_inc, v_pfI, v_pfZ, v_pfO, v_paI, v_paO, v_exI, v_iff, v_rtI, v_rtZ, v_rtV, v_sk, v_brk, v_cnt, v_blk_eq, v_blkM_some, blkM_ite, v_lI, v_lR, v_cI, v_gI, v_gR, v_op1, v_op2, v_arI, v_arR, v_alen, v_tern, v_cmp1, v_cmp2, v_cAnd, v_cOr, v_cNot, v_cTern, v_bn_some, bn_ite, v_bn_none, v_outV_r, v_outV_0, v_outV_n, outV_ite, List.getD_cons_zero, List.getD_cons_succ, List.set_cons_zero, List.set_cons_succ, List.take_succ_cons, List.take_zero, List.drop_succ_cons, List.drop_zero, List.nil_append, List.cons_append, Option.map_some, Option.map_none, if_true, if_false, reduceIte, reduceCtorEq, decide_eq_true_eq, Bool.not_eq_true', decide_eq_false_iff_not, decide_eq_true, decide_eq_false, decide_true, decide_false, and_self, and_true, true_and, or_self, stO, v_caV_, v_caV_i, v_caV_ii, v_caV_iii, v_caV_iiii, v_caV_iiiii, v_caV_il, v_caV_iil, v_caV_l, v_caV_ll, v_caV_r, v_caV_ri, v_caV_rii, v_caV_riii, v_caV_riiii, v_caV_ir, v_caV_iri, v_caV_iiri, v_caS_i, v_caS_ii, v_caS_iii, v_caS_iiii, v_caS_iiiiii, v_caS_il, v_caS_li, v_caS_ll, v_caS_lll, v_caS_ri, v_caS_riii, sh_239, sh_240, sh_241, sh_242, sh_243, sh_244, sh_245, sh_246, sh_247, sh_248, sh_249, sh_250, sh_251, sh_252, sh_253, rf_239_4, rf_239_5, rf_239_6, rf_239_7, rf_239_20, rf_239_21, rf_239_22, rf_239_23, rf_239_27, rf_239_28, rf_239_32, rf_239_33, rf_239_34, rf_239_35, Int.reduceLE, Int.reduceLT, Int.reduceToNat, Int.reduceAdd, Int.reduceSub, Int.reduceMul, Int.reduceNeg, Int.reduceEq, Int.reduceNe, Nat.reduceAdd, Nat.reduceMul, Nat.reduceLT, Nat.reduceEqDiff, or_true, true_or, or_false, false_or, and_false, false_and, not_true_eq_false, not_false_eq_true, ne_eq, cN4, cN5, cN6, cN7, cN13, cN30, cN60, cN64, cN100, cN136, cN240, cN384, cN900, cN2040, cN3, v_sw_eq, v_swM_0, v_swM_1, v_swM_r, v_swM_n, swM_ite, app_ite, ex_some, bI_0, bI_1, nn_iff, Int.toNat_natCast, Int.toNat_of_nonneg, Int.natCast_add, cN1, wI_id2, wL_id2, if_pos, if_neg]
  refine Wd_mono (kl_take1 ha hb hab n2 (by omega)) (fun o z hz => ?_)
  obtain ⟨ho, σ3, hz, k1, k2⟩ := hz
  subst ho; subst hz
  have n3 : σ3 a 11 = ((c 3).toNat : Nat) := by rw [k1 a (by omega), g1 a (by omega)]; try simp (disch := omega) only [ups_11, upsN, upsA, upA_same, upA_neA, fl_at, fl_neA]; rw [H1.2.2.2.2.2.2.2.2.2]; omega
  try simp (disch := omega) only [P_a ha, P_1 ha, P_2 ha, P_3 ha, P_4 ha, P_5 ha, P_6 ha, P_7 ha, P_8 ha, P_9 ha, P_10 ha, P_t ha, P_b ha, P_g ha, P_r8 ha, P_r10 ha, P_r12 ha, P_r13 ha, P_e2 ha, P_e3 ha, P_e4 ha, P_e5 ha, P_e6 ha, P_e7 ha, P_rt ha, P_rb ha, P_rg ha, P_a hb, P_1 hb, P_2 hb, P_3 hb, P_4 hb, P_5 hb, P_6 hb, P_7 hb, P_8 hb, P_9 hb, P_10 hb, P_t hb, P_b hb, P_g hb, P_r8 hb, P_r10 hb, P_r12 hb, P_r13 hb, P_e2 hb, P_e3 hb, P_e4 hb, P_e5 hb, P_e6 hb, P_e7 hb, P_rt hb, P_rb hb, P_rg hb, Wd_some, Wd_bn, Wd_sqM, Wd_outV, Wd_blkM, Wd_swM, Wd_ite, Wd_map, v_kS_0, v_kS_b, v_kS_r, v_kO_r, v_kW_0, v_kW_1, v_kW_2, v_kW_r, v_kL_0, v_kL_1, v_kL_2, v_kL_r, v_kU_0, ups_11, upsN, upsA, upA_same, upA_neA, fl_at, fl_neA, v_sq_eq, v_sqM_0, v_sqM_r, v_sqM_b, v_sqM_n, sqM_ite, v_asI, v_asR, v_inc, v_pfI, v_pfZ, v_pfO, v_paI, v_paO, v_exI, v_iff, v_rtI, v_rtZ, v_rtV, v_sk, v_brk, v_cnt, v_blk_eq, v_blkM_some, blkM_ite, v_lI, v_lR, v_cI, v_gI, v_gR, v_op1, v_op2, v_arI, v_arR, v_alen, v_tern, v_cmp1, v_cmp2, v_cAnd, v_cOr, v_cNot, v_cTern, v_bn_some, bn_ite, v_bn_none, v_outV_r, v_outV_0, v_outV_n, outV_ite, List.getD_cons_zero, List.getD_cons_succ, List.set_cons_zero, List.set_cons_succ, List.take_succ_cons, List.take_zero, List.drop_succ_cons, List.drop_zero, List.nil_append, List.cons_append, Option.map_some, Option.map_none, if_true, if_false, reduceIte, reduceCtorEq, decide_eq_true_eq, Bool.not_eq_true', decide_eq_false_iff_not, decide_eq_true, decide_eq_false, decide_true, decide_false, and_self, and_true, true_and, or_self, stO, v_caV_, v_caV_i, v_caV_ii, v_caV_iii, v_caV_iiii, v_caV_iiiii, v_caV_il, v_caV_iil, v_caV_l, v_caV_ll, v_caV_r, v_caV_ri, v_caV_rii, v_caV_riii, v_caV_riiii, v_caV_ir, v_caV_iri, v_caV_iiri, v_caS_i, v_caS_ii, v_caS_iii, v_caS_iiii, v_caS_iiiiii, v_caS_il, v_caS_li, v_caS_ll, v_caS_lll, v_caS_ri, v_caS_riii, sh_239, sh_240, sh_241, sh_242, sh_243, sh_244, sh_245, sh_246, sh_247, sh_248, sh_249, sh_250, sh_251, sh_252, sh_253, rf_239_4, rf_239_5, rf_239_6, rf_239_7, rf_239_20, rf_239_21, rf_239_22, rf_239_23, rf_239_27, rf_239_28, rf_239_32, rf_239_33, rf_239_34, rf_239_35, Int.reduceLE, Int.reduceLT, Int.reduceToNat, Int.reduceAdd, Int.reduceSub, Int.reduceMul, Int.reduceNeg, Int.reduceEq, Int.reduceNe, Nat.reduceAdd, Nat.reduceMul, Nat.reduceLT, Nat.reduceEqDiff, or_true, true_or, or_false, false_or, and_false, false_and, not_true_eq_false, not_false_eq_true, ne_eq, cN4, cN5, cN6, cN7, cN13, cN30, cN60, cN64, cN100, cN136, cN240, cN384, cN900, cN2040, cN3, v_sw_eq, v_swM_0, v_swM_1, v_swM_r, v_swM_n, swM_ite, app_ite, ex_some, bI_0, bI_1, nn_iff, Int.toNat_natCast, Int.toNat_of_nonneg, Int.natCast_add, cN1, wI_id2, wL_id2, if_pos, if_neg]
  refine Wd_mono (kl_take2 ha hb hab n3 (by omega)) (fun o z hz => ?_)
  obtain ⟨ho, σ4, hz, m1, m2⟩ := hz
  subst ho; subst hz
  try simp (disch := omega) only [Wd_some, Wd_bn, Wd_sqM, Wd_outV, Wd_blkM, Wd_swM, Wd_ite, Wd_map, v_kS_0, v_kS_b, v_kS_r, v_kO_r, v_kW_0, v_kW_1, v_kW_2, v_kW_r, v_kL_0, v_kL_1, v_kL_2, v_kL_r, v_kU_0, ups_11, upsN, upsA, upA_same, upA_neA, fl_at, fl_neA, v_sq_eq, v_sqM_0, v_sqM_r, v_sqM_b, v_sqM_n, sqM_ite, v_asI, v_asR, v_inc, v_pfI, v_pfZ, v_pfO, v_paI, v_paO, v_exI, v_iff, v_rtI, v_rtZ, v_rtV, v_sk, v_brk, v_cnt, v_blk_eq, v_blkM_some, blkM_ite, v_lI, v_lR, v_cI, v_gI, v_gR, v_op1, v_op2, v_arI, v_arR, v_alen, v_tern, v_cmp1, v_cmp2, v_cAnd, v_cOr, v_cNot, v_cTern, v_bn_some, bn_ite, v_bn_none, v_outV_r, v_outV_0, v_outV_n, outV_ite, List.getD_cons_zero, List.getD_cons_succ, List.set_cons_zero, List.set_cons_succ, List.take_succ_cons, List.take_zero, List.drop_succ_cons, List.drop_zero, List.nil_append, List.cons_append, Option.map_some, Option.map_none, if_true, if_false, reduceIte, reduceCtorEq, decide_eq_true_eq, Bool.not_eq_true', decide_eq_false_iff_not, decide_eq_true, decide_eq_false, decide_true, decide_false, and_self, and_true, true_and, or_self, stO, v_caV_, v_caV_i, v_caV_ii, v_caV_iii, v_caV_iiii, v_caV_iiiii, v_caV_il, v_caV_iil, v_caV_l, v_caV_ll, v_caV_r, v_caV_ri, v_caV_rii, v_caV_riii, v_caV_riiii, v_caV_ir, v_caV_iri, v_caV_iiri, v_caS_i, v_caS_ii, v_caS_iii, v_caS_iiii, v_caS_iiiiii, v_caS_il, v_caS_li, v_caS_ll, v_caS_lll, v_caS_ri, v_caS_riii, sh_239, sh_240, sh_241, sh_242, sh_243, sh_244, sh_245, sh_246, sh_247, sh_248, sh_249, sh_250, sh_251, sh_252, sh_253, rf_239_4, rf_239_5, rf_239_6, rf_239_7, rf_239_20, rf_239_21, rf_239_22, rf_239_23, rf_239_27, rf_239_28, rf_239_32, rf_239_33, rf_239_34, rf_239_35, Int.reduceLE, Int.reduceLT, Int.reduceToNat, Int.reduceAdd, Int.reduceSub, Int.reduceMul, Int.reduceNeg, Int.reduceEq, Int.reduceNe, Nat.reduceAdd, Nat.reduceMul, Nat.reduceLT, Nat.reduceEqDiff, or_true, true_or, or_false, false_or, and_false, false_and, not_true_eq_false, not_false_eq_true, ne_eq, cN4, cN5, cN6, cN7, cN13, cN30, cN60, cN64, cN100, cN136, cN240, cN384, cN900, cN2040, cN3, v_sw_eq, v_swM_0, v_swM_1, v_swM_r, v_swM_n, swM_ite, app_ite, ex_some, bI_0, bI_1, nn_iff, Int.toNat_natCast, Int.toNat_of_nonneg, Int.natCast_add, cN1, wI_id2, wL_id2, if_pos, if_neg]
  have ba : σ4 a = ups σ1 a 14 (σ a 14 + 1) a := by rw [m1 a (by omega), k1 a (by omega), g1 a (by omega)]
  refine ⟨fun x hx => ?_, ⟨?_, ?_, ?_, ?_⟩, ?_, ?_⟩
  · rw [m1 x (by omega), k1 x (by omega), g1 x (by omega)]
    try simp (disch := omega) only [ups_11, upsN, upsA, upA_same, upA_neA, fl_at, fl_neA]
    rw [f1 x (by omega), s1 x (by omega)]
  · unfold kH
    rw [ba]
    try simp (disch := omega) only [ups_11, upsN, upsA, upA_same, upA_neA, fl_at, fl_neA]
    exact H1
  · intro t ht
    have q := p2 t ht
    rw [m1 _ (by omega), k2 t 0 (by omega) (by omega), k2 t 1 (by omega) (by omega), k2 t 2 (by omega) (by omega), k2 t 3 (by omega) (by omega), g1 _ (by omega)]
    try simp (disch := omega) only [ups_11, upsN, upsA, upA_same, upA_neA, fl_at, fl_neA]
    rw [fb _ (by omega) (by omega)]
    exact q
  · intro t ht
    have q := p3 t ht
    have ⟨m3, m4⟩ := m2 t (by omega)
    have e3 : σ3 (b + 17 + 2 * t) = σ (b + 17 + 2 * t) := by
      rw [k1 _ (by omega), g1 _ (by omega)]
      try simp (disch := omega) only [ups_11, upsN, upsA, upA_same, upA_neA, fl_at, fl_neA]
      exact fb _ (by omega) (by omega)
    have e4 : σ3 (b + 18 + 2 * t) = σ (b + 18 + 2 * t) := by
      rw [k1 _ (by omega), g1 _ (by omega)]
      try simp (disch := omega) only [ups_11, upsN, upsA, upA_same, upA_neA, fl_at, fl_neA]
      exact fb _ (by omega) (by omega)
    have d1 := (hw.2.2.1 t (by omega) ht).1
    rw [e3] at m3
    rw [e4] at m4
    refine ⟨?_, fun k hk => ?_⟩
    · rw [m3 0 (by omega), m3 1 (by omega), m3 2 (by omega), m3 3 (by omega), m3 4 (by omega), m3 5 (by omega), m3 6 (by omega), m3 7 (by omega)]
      exact q.1
    · rw [m4 k (by omega)]
      exact q.2 k hk
  · intro k hk
    obtain ⟨w1, w2, w3, w4⟩ := cell_rng hw.1 hk
    have q := p4 k hk
    have pb := (hw.2.2.2 (6 * ((k : Int) / c 0) + (k : Int) % c 0) (by omega) (by omega)).1
    rw [m1 _ (by omega), k1 _ (by omega), g2 k (by omega)]
    try simp (disch := omega) only [ups_11, upsN, upsA, upA_same, upA_neA, fl_at, fl_neA]
    rw [fb _ (by omega) (by omega), q]
    refine nrZ_b _ ?_
    unfold pondB
    rw [show 106 + 6 * ((k : Int) / c 0) + (k : Int) % c 0 = 106 + (6 * ((k : Int) / c 0) + (k : Int) % c 0) by omega]
    omega
  · have fe : ∀ x, a + 4 ≤ x → x ≤ a + 10 → σ4 x = σ1 x := fun x h1 h2 => by
      rw [m1 x (by omega), k1 x (by omega), g1 x (by omega)]
      try simp (disch := omega) only [ups_11, upsN, upsA, upA_same, upA_neA, fl_at, fl_neA]
    refine ⟨?_, ?_, fun i hi => ?_⟩
    · rw [fe _ (by omega) (by omega), f2, s1 _ (by omega)]
      exact E1
    · rw [fe _ (by omega) (by omega), f3]
      omega
    · have q := E3 i hi
      have g := f4 i (by omega)
      unfold EvS at q ⊢
      rw [fe (a + 4 + 1) (by omega) (by omega), fe (a + 4 + 2) (by omega) (by omega), fe (a + 4 + 3) (by omega) (by omega), fe (a + 4 + 4) (by omega) (by omega), fe (a + 4 + 5) (by omega) (by omega), fe (a + 4 + 6) (by omega) (by omega)]
      rw [s1 (b + 5) (by omega), s1 (b + 6) (by omega), s1 (b + 7) (by omega), s1 (b + 8) (by omega), s1 (b + 9) (by omega), s1 (b + 10) (by omega)] at g
      obtain ⟨y1, y2, y3, y4, y5, y6⟩ := g
      rw [y1, y2, y3, y4, y5, y6]
      exact q
  · rw [ba]
    try simp (disch := omega) only [ups_11, upsN, upsA, upA_same, upA_neA, fl_at, fl_neA]
end TK
/-! what holds between the calls -/
def StV (s : Nat) (V : Int) (σ : SS) : Prop := -1 ≤ σ (s + 30) 5 ∧ σ (s + 30) 5 ≤ σ (s + 1) 14 ∧ σ (s + 1) 14 ≤ V
def PkW (σ : SS) (a : Nat) (c w : Nat → Int) : Prop := PkS σ a c w ∧ EvR σ (a + 4) c ∧ WB c ∧ WQ c ∧ WfE c ∧ c 7 ≤ 9999
def VsR (V : Int) (σ : SS) : Prop := (0 ≤ σ 48 14 ∧ σ 48 14 ≤ V) ∧ (0 ≤ σ 152 14 ∧ σ 152 14 ≤ V) ∧ (0 ≤ σ 181 14 ∧ σ 181 14 ≤ V) ∧ (0 ≤ σ 210 14 ∧ σ 210 14 ≤ V)
def MkW (σ : SS) : Prop := σ 0 10 = σ 239 24 ∧ (0 ≤ σ 239 24 ∧ σ 239 24 ≤ 3) ∧ ∀ j : Nat, (j : Int) < σ 239 24 → PkW σ (152 + 29 * j) (cb σ (1 + j)) (wb σ (1 + j))
def Rel (V : Int) (σ : SS) : Prop := PkW σ 6 (σ 244) (σ 247) ∧ StK 5 (σ 244) V σ ∧ StV 86 V σ ∧ VsR V σ ∧ MkW σ ∧ TrR σ ∧ TpR σ ∧ MiR σ ∧ KwR σ
theorem PkW_c {σ σ' : SS} {a : Nat} {c w : Nat → Int} (h : ∀ k, k ≠ 14 → σ' a k = σ a k) (h2 : ∀ x, a < x → x < a + 29 → σ' x = σ x) (P : PkW σ a c w) : PkW σ' a c w := by
  obtain ⟨p1, p2, p3, p4⟩ := P
  exact ⟨PkS_c p3.1 h h2 p1, EvR_c (fun x h1 h3 => h2 x (by omega) (by omega)) p2, p3, p4⟩
theorem PkW_c0 {σ σ' : SS} {a : Nat} {c w : Nat → Int} (h2 : ∀ x, a ≤ x → x < a + 29 → σ' x = σ x) (P : PkW σ a c w) : PkW σ' a c w :=
  PkW_c (fun k _ => by rw [h2 a (by omega) (by omega)]) (fun x h1 h3 => h2 x (by omega) h3) P
theorem TrR_c {σ σ' : SS} (h : ∀ x, (144 ≤ x ∧ x ≤ 151) ∨ (240 ≤ x ∧ x ≤ 242) → σ' x = σ x) (H : TrR σ) : TrR σ' := by
  intro t ht
  rw [h (144 + 2 * t) (by omega), h (145 + 2 * t) (by omega), h 240 (by omega), h 241 (by omega), h 242 (by omega)]
  exact H t ht
theorem KwR_c {σ σ' : SS} (h : σ' 4 = σ 4) (H : KwR σ) : KwR σ' := by
  intro k hk
  rw [h]
  exact H k hk
theorem MkW_c {σ σ' : SS} (h0 : σ' 0 10 = σ 0 10) (h1 : σ' 239 24 = σ 239 24) (h2 : ∀ x, 152 ≤ x → x < 239 → σ' x = σ x) (h3 : ∀ k, 408 ≤ k → k < 1632 → σ' 244 k = σ 244 k) (h4 : σ' 247 = σ 247) (H : MkW σ) : MkW σ' := by
  obtain ⟨a1, a2, a3⟩ := H
  unfold MkW
  rw [h0, h1]
  refine ⟨a1, a2, fun j hj => ?_⟩
  have q := PkW_c0 (σ' := σ') (fun x g1 g2 => h2 x (by omega) (by omega)) (a3 j hj)
  have ec : ∀ k, k < 408 → cb σ' (1 + j) k = cb σ (1 + j) k := fun k hk => by
    unfold cb
    exact h3 _ (by omega) (by omega)
  have ew : wb σ' (1 + j) = wb σ (1 + j) := by unfold wb; rw [h4]
  rw [ew]
  exact PkW_k ec q
where
  PkW_k {σ : SS} {a : Nat} {c c' w : Nat → Int} (e : ∀ k, k < 408 → c' k = c k) (P : PkW σ a c w) : PkW σ a c' w := by
    obtain ⟨⟨p1, p2, p3, p4⟩, p5, ⟨w1, w2, w3, w4⟩, w5, w6, w7⟩ := P
    have hH := w1
    have hN := nC_c w1
    refine ⟨⟨?_, ?_, ?_, ?_⟩, ?_, ⟨?_, ?_, ?_, ?_⟩, ?_, ?_, ?_⟩
    · unfold kH
      rw [e 0 (by omega), e 1 (by omega), e 2 (by omega), e 3 (by omega), e 4 (by omega), e 5 (by omega), e 6 (by omega), e 7 (by omega), e 8 (by omega), e 9 (by omega)]
      exact p1
    · intro t ht
      rw [e 2 (by omega)] at ht
      rw [e _ (by omega), e _ (by omega), e _ (by omega)]
      exact p2 t ht
    · intro b hb
      rw [e 3 (by omega)] at hb
      have d1 := (w3 b (by omega) hb).1
      rw [e (28 + (b : Int)).toNat (by omega), e (34 + (b : Int)).toNat (by omega), e (40 + (b : Int)).toNat (by omega), e (46 + (b : Int)).toNat (by omega), e (52 + (b : Int)).toNat (by omega), e (58 + (b : Int)).toNat (by omega), e (64 + (b : Int)).toNat (by omega)]
      refine ⟨(p3 b hb).1, fun k hk => ?_⟩
      rw [e _ (by omega)]
      exact (p3 b hb).2 k hk
    · intro k hk
      rw [e 0 (by omega), e 1 (by omega)] at hk
      obtain ⟨v1, v2, v3, v4⟩ := cell_rng w1 hk
      unfold pondB
      rw [e 0 (by omega), e _ (by omega)]
      exact p4 k hk
    · obtain ⟨E1, E2, E3⟩ := p5
      unfold EvR
      rw [e 136 (by omega), e 137 (by omega)]
      refine ⟨E1, E2, fun i hi => ?_⟩
      have w8 := w6.2.1
      have q := E3 i hi
      unfold EvS at q ⊢
      rw [e (138 + 9 * i) (by omega), e (139 + 9 * i) (by omega), e (140 + 9 * i) (by omega), e (141 + 9 * i) (by omega), e (144 + 9 * i) (by omega), e (145 + 9 * i) (by omega), e (146 + 9 * i) (by omega)]
      exact q
    · unfold WH
      rw [e 0 (by omega), e 1 (by omega), e 2 (by omega), e 3 (by omega), e 4 (by omega), e 5 (by omega), e 6 (by omega), e 7 (by omega), e 8 (by omega), e 9 (by omega)]
      exact w1
    · intro t t0 t1
      rw [e 2 (by omega)] at t1
      unfold WTi
      rw [e (10 + t).toNat (by omega), e (16 + t).toNat (by omega), e (22 + t).toNat (by omega)]
      exact w2 t t0 t1
    · intro b b0 b1
      rw [e 3 (by omega)] at b1
      have ⟨d1, d2⟩ := w3 b b0 b1
      refine ⟨?_, fun k k0 k1 => ?_⟩
      · unfold WDi
        rw [e (28 + b).toNat (by omega), e (34 + b).toNat (by omega), e (40 + b).toNat (by omega), e (46 + b).toNat (by omega), e (52 + b).toNat (by omega), e (58 + b).toNat (by omega), e (64 + b).toNat (by omega), e 0 (by omega), e 1 (by omega)]
        exact d1
      · unfold enB
        rw [e (64 + b).toNat (by omega)] at k1
        rw [e _ (by omega), e 2 (by omega)]
        exact d2 k k0 k1
    · intro k k0 k1
      rw [e _ (by omega), e 0 (by omega), e 1 (by omega)]
      exact w4 k k0 k1
    · intro b b0 b1
      rw [e 3 (by omega)] at b1
      rw [e _ (by omega), e 7 (by omega)]
      exact w5 b b0 b1
    · obtain ⟨E1, E2, E3⟩ := w6
      unfold WfE
      rw [e 136 (by omega), e 137 (by omega)]
      refine ⟨E1, E2, fun i hi => ?_⟩
      have q := E3 i hi
      unfold WfS enS at q ⊢
      rw [e (138 + 9 * i) (by omega), e (139 + 9 * i) (by omega), e (140 + 9 * i) (by omega), e (141 + 9 * i) (by omega), e (144 + 9 * i) (by omega), e (145 + 9 * i) (by omega), e (146 + 9 * i) (by omega), e 137 (by omega), e 3 (by omega), e 2 (by omega)]
      exact q
    · rw [e 7 (by omega)]
      exact w7
/-! calls that change nothing but what is kept of the sound, and the status -/
def CF (σ σ' : SS) : Prop := ∀ a, ¬ (a = 5 ∨ (35 ≤ a ∧ a ≤ 46) ∨ (86 ≤ a ∧ a ≤ 141)) → σ' a = σ a
def CQ (V : Int) (c : Nat → Int) (st t b : Int) (σ σ' : SS) : Prop := (∀ a, ¬ (a = 0 ∨ a = 5 ∨ (35 ≤ a ∧ a ≤ 46) ∨ (86 ≤ a ∧ a ≤ 141)) → σ' a = σ a) ∧ (∀ k, k ≠ 11 → k ≠ 14 → k ≠ 15 → σ' 0 k = σ 0 k) ∧ (σ' 0 11 = st ∧ σ' 0 14 = t ∧ σ' 0 15 = b) ∧ StK 5 c V σ' ∧ StV 86 V σ'
def MQ (st t b : Int) (σ σ' : SS) : Prop := (∀ a, ¬ (a = 239 ∨ a = 245 ∨ a = 246 ∨ (248 ≤ a ∧ a ≤ 252)) → σ' a = σ a) ∧ (∀ k, k = 8 ∨ k = 10 ∨ k = 11 ∨ k = 24 ∨ k = 36 → σ' 239 k = σ 239 k) ∧ (σ' 239 0 = st ∧ σ' 239 2 = t ∧ σ' 239 3 = b)
theorem CF_r (σ : SS) : CF σ σ := fun _ _ => rfl
theorem CF_t {σ σ' σ'' : SS} (h : CF σ σ') (h2 : CF σ' σ'') : CF σ σ'' := fun a ha => by rw [h2 a ha, h a ha]
theorem StK_c {s : Nat} {c : Nat → Int} {V : Int} {σ σ' : SS} (hw : WH c) (h : ∀ a, s + 30 ≤ a → a ≤ s + 40 → σ' a = σ a) (h1 : σ' (s + 1) 14 = σ (s + 1) 14) (K : StK s c V σ) : StK s c V σ' := by
  unfold StK
  rw [h (s + 30) (by omega) (by omega), h1]
  exact ⟨K.1, fun g => StT_c hw (fun a h3 h4 => h a (by omega) (by omega)) (K.2 g)⟩
theorem CQ_fin {V : Int} {c : Nat → Int} {st : Int} {σ σ2 : SS} (hw : WH c) (h : CF σ σ2) (K : StK 5 c V σ2) (S : StV 86 V σ2) : CQ V c st (σ 0 14) (σ 0 15) σ (ups σ2 0 11 st) := by
  refine ⟨fun a ha => ?_, fun k h1 h2 h3 => ?_, ⟨?_, ?_, ?_⟩, ?_, ?_⟩
  · try simp (disch := omega) only [ups_11, upsN, upsA, upA_same, upA_neA, fl_at, fl_neA]; exact h a (by omega)
  · try simp (disch := omega) only [ups_11, upsN, upsA, upA_same, upA_neA, fl_at, fl_neA]; rw [h 0 (by omega)]
  · try simp (disch := omega) only [ups_11, upsN, upsA, upA_same, upA_neA, fl_at, fl_neA]
  · try simp (disch := omega) only [ups_11, upsN, upsA, upA_same, upA_neA, fl_at, fl_neA]; rw [h 0 (by omega)]
  · try simp (disch := omega) only [ups_11, upsN, upsA, upA_same, upA_neA, fl_at, fl_neA]; rw [h 0 (by omega)]
  · exact StK_c hw (fun a h1 h2 => by try simp (disch := omega) only [ups_11, upsN, upsA, upA_same, upA_neA, fl_at, fl_neA]) (by try simp (disch := omega) only [ups_11, upsN, upsA, upA_same, upA_neA, fl_at, fl_neA]) K
  · unfold StV
    try simp (disch := omega) only [ups_11, upsN, upsA, upA_same, upA_neA, fl_at, fl_neA]
    exact S
theorem Rel_q {V V' : Int} {st t b : Int} {σ σ1 σ2 : SS} (R : Rel V σ) (hV : V ≤ V') (C : CQ V' (σ 244) st t b σ σ1) (M : MQ st t b σ1 σ2) : Rel V' σ2 := by
  obtain ⟨r1, r2, r3, r4, r5, r6, r7, r8, r9⟩ := R
  obtain ⟨c1, c2, c3, c4, c5⟩ := C
  obtain ⟨m1, m2, m3⟩ := M
  have e : ∀ a, ¬ (a = 0 ∨ a = 5 ∨ (35 ≤ a ∧ a ≤ 46) ∨ (86 ≤ a ∧ a ≤ 141)) → ¬ (a = 239 ∨ a = 245 ∨ a = 246 ∨ (248 ≤ a ∧ a ≤ 252)) → σ2 a = σ a := fun a h1 h2 => by rw [m1 a h2, c1 a h1]
  have k0 : ∀ k, k ≠ 11 → k ≠ 14 → k ≠ 15 → σ2 0 k = σ 0 k := fun k h1 h2 h3 => by rw [m1 0 (by omega), c2 k h1 h2 h3]
  have k9 : ∀ k, k = 8 ∨ k = 10 ∨ k = 11 ∨ k = 24 ∨ k = 36 → σ2 239 k = σ 239 k := fun k hk => by rw [m2 k hk, c1 239 (by omega)]
  have e44 : σ2 244 = σ 244 := e _ (by omega) (by omega)
  have e47 : σ2 247 = σ 247 := e _ (by omega) (by omega)
  refine ⟨?_, ?_, ?_, ?_, ?_, ?_, ?_, ?_, ?_⟩
  · rw [e44, e47]
    exact PkW_c0 (fun x h1 h2 => e x (by omega) (by omega)) r1
  · rw [e44]
    exact StK_c r1.2.2.1.1 (fun a h1 h2 => m1 a (by omega)) (by rw [m1 _ (by omega)]) c4
  · unfold StV
    rw [m1 _ (by omega), m1 _ (by omega)]
    exact c5
  · unfold VsR at r4 ⊢
    rw [e 48 (by omega) (by omega), e 152 (by omega) (by omega), e 181 (by omega) (by omega), e 210 (by omega) (by omega)]
    omega
  · exact MkW_c (k0 10 (by omega) (by omega) (by omega)) (k9 24 (by omega)) (fun x h1 h2 => e x (by omega) (by omega)) (fun k _ _ => by rw [e44]) e47 r5
  · exact TrR_c (fun x hx => e x (by omega) (by omega)) r6
  · unfold TpR
    rw [e 2 (by omega) (by omega), e 3 (by omega) (by omega), e 243 (by omega) (by omega), k9 8 (by omega)]
    exact r7
  · unfold MiR at r8 ⊢
    rw [m1 0 (by omega)]
    rw [c3.1, c3.2.1, c3.2.2, m3.1, m3.2.1, m3.2.2, k9 10 (by omega), k9 11 (by omega), k9 36 (by omega), c2 12 (by omega) (by omega) (by omega), c2 13 (by omega) (by omega) (by omega), c2 9 (by omega) (by omega) (by omega), e 143 (by omega) (by omega), e 253 (by omega) (by omega)]
    exact ⟨rfl, rfl, rfl, r8.2.2.2.1, r8.2.2.2.2.1, r8.2.2.2.2.2.1, r8.2.2.2.2.2.2⟩
  · exact KwR_c (e 4 (by omega) (by omega)) r9
/-- a call, done by the class and then by the reference -/
def Ok (V : Int) (Fc Fm : SS → Option (Int × SS)) (σ : SS) : Prop := Wd (Fc σ) (fun r σ1 => Wd (Fm σ1) (fun r2 σ2 => r2 = r ∧ Rel V σ2))
theorem op_q {V V' : Int} {Fc Fm : SS → Option (Int × SS)} {σ : SS} (R : Rel V σ) (hV : V ≤ V') (r st t b : Int) (hc : Wd (Fc σ) (fun x σ1 => x = r ∧ CQ V' (σ 244) st t b σ σ1)) (hm : ∀ σ1 : SS, σ1 244 = σ 244 → σ1 239 = σ 239 → Wd (Fm σ1) (fun x σ2 => x = r ∧ MQ st t b σ1 σ2)) : Ok V' Fc Fm σ := by
  refine Wd_mono hc (fun x σ1 hx => ?_)
  obtain ⟨hx, C⟩ := hx
  refine Wd_mono (hm σ1 (C.1 _ (by omega)) (C.1 _ (by omega))) (fun y σ2 hy => ?_)
  obtain ⟨hy, M⟩ := hy
  exact ⟨by rw [hx, hy], Rel_q R hV C M⟩
theorem CF_look {σ σ' : SS} (lf : LkF 5 σ σ') : CF σ σ' := fun a ha => lf.1 a (by omega)
theorem StK_look {V : Int} {c : Nat → Int} {σ σ' : SS} (K : StK 5 c V σ) (lf : LkF 5 σ σ') (ls : LkS 5 c σ') : StK 5 c V σ' := by
  obtain ⟨k1, k2, k3⟩ := K.1
  have e : σ' (5 + 1) 14 = σ (5 + 1) 14 := by rw [lf.1 _ (by omega)]
  refine ⟨?_, fun _ => ls.1⟩
  rw [ls.2.1, e]
  omega
theorem StV_c {s : Nat} {V : Int} {σ σ' : SS} (h : ∀ a, s ≤ a → a ≤ s + 41 → σ' a = σ a) (S : StV s V σ) : StV s V σ' := by
  unfold StV
  rw [h _ (by omega) (by omega), h _ (by omega) (by omega)]
  exact S
/-- the reference's beginning: thrown and status -/
theorem MQ_fin {st : Int} {σ σ1 σ2 : SS} (h2 : ∀ a, ¬ (a = 239 ∨ a = 245 ∨ a = 246 ∨ (248 ≤ a ∧ a ≤ 252)) → σ2 a = σ1 a) (h3 : ∀ k, k = 2 ∨ k = 3 ∨ k = 8 ∨ k = 10 ∨ k = 11 ∨ k = 24 ∨ k = 36 → σ2 239 k = σ1 239 k) (h0 : σ2 239 0 = st) (e : σ1 239 = σ 239) : MQ st (σ 239 2) (σ 239 3) σ1 σ2 :=
  ⟨h2, fun k hk => h3 k (by omega), h0, by rw [h3 2 (by omega), e], by rw [h3 3 (by omega), e]⟩
