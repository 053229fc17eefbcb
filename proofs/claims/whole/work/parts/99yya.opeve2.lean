/-! EVENINGS: the call -/
section FH
variable {B : Nat → Int} {n : Nat} {σ : SS} {V : Int}
def EuI (σ : SS) (i : Nat) (z : ZZ) : Prop := ∃ σ', z = ([0, 0, (i : Int)], [10, 78, 0], σ') ∧ (∀ x, ¬ (11 ≤ x ∧ x ≤ 16) → σ' x = σ x) ∧ ∀ k, k < i → σ' 11 k = σ 79 k ∧ σ' 12 k = σ 80 k ∧ σ' 13 k = σ 81 k ∧ σ' 14 k = σ 82 k ∧ σ' 15 k = σ 83 k ∧ σ' 16 k = σ 84 k
set_option maxHeartbeats 8000000 in
theorem kl_evU {m : Nat} (hm : σ 10 1 = (m : Int)) (m30 : m ≤ 30) : Wd (L_X1_takeFrom_0 ([0, 0, 0], [10, 78, 0], σ)) (fun o z => o = .inl 0 ∧ EuI σ m z) := by
  unfold L_X1_takeFrom_0
  refine Wd_it (EuI σ) m ⟨σ, rfl, fun _ _ => rfl, fun k hk => by omega⟩ ?_ ?_
  · intro i z hi hz
    obtain ⟨σ1, hz, f1, f2⟩ := hz
    subst hz
    have e1 : σ1 10 1 = (m : Int) := by rw [f1 10 (by omega)]; exact hm
    have lt : (i : Int) < (m : Int) := by omega
    have l30 : (i : Int) < 30 := by omega
    have po : EuI σ (i + 1) ([0, 0, (i : Int) + 1], [10, 78, 0], ups (ups (ups (ups (ups (ups σ1 11 i (σ1 79 i)) 12 i (σ1 80 i)) 13 i (σ1 81 i)) 14 i (σ1 82 i)) 15 i (σ1 83 i)) 16 i (σ1 84 i)) := by
      refine ⟨_, rfl, fun x hx => ?_, fun k hk => ?_⟩
      · rw [upsA (by omega), upsA (by omega), upsA (by omega), upsA (by omega), upsA (by omega), upsA (by omega)]; exact f1 x hx
      · by_cases e : k = i
        · subst e
          refine ⟨?_, ?_, ?_, ?_, ?_, ?_⟩
          · try simp (disch := omega) only [ups_11, upsN, upsA, upA_same, upA_neA, fl_at, fl_neA]; rw [f1 79 (by omega)]
          · try simp (disch := omega) only [ups_11, upsN, upsA, upA_same, upA_neA, fl_at, fl_neA]; rw [f1 80 (by omega)]
          · try simp (disch := omega) only [ups_11, upsN, upsA, upA_same, upA_neA, fl_at, fl_neA]; rw [f1 81 (by omega)]
          · try simp (disch := omega) only [ups_11, upsN, upsA, upA_same, upA_neA, fl_at, fl_neA]; rw [f1 82 (by omega)]
          · try simp (disch := omega) only [ups_11, upsN, upsA, upA_same, upA_neA, fl_at, fl_neA]; rw [f1 83 (by omega)]
          · try simp (disch := omega) only [ups_11, upsN, upsA, upA_same, upA_neA, fl_at, fl_neA]; rw [f1 84 (by omega)]
        · have q := f2 k (by omega)
          refine ⟨?_, ?_, ?_, ?_, ?_, ?_⟩
          · try simp (disch := omega) only [ups_11, upsN, upsA, upA_same, upA_neA, fl_at, fl_neA]; exact q.1
          · try simp (disch := omega) only [ups_11, upsN, upsA, upA_same, upA_neA, fl_at, fl_neA]; exact q.2.1
          · try simp (disch := omega) only [ups_11, upsN, upsA, upA_same, upA_neA, fl_at, fl_neA]; exact q.2.2.1
          · try simp (disch := omega) only [ups_11, upsN, upsA, upA_same, upA_neA, fl_at, fl_neA]; exact q.2.2.2.1
          · try simp (disch := omega) only [ups_11, upsN, upsA, upA_same, upA_neA, fl_at, fl_neA]; exact q.2.2.2.2.1
          · try simp (disch := omega) only [ups_11, upsN, upsA, upA_same, upA_neA, fl_at, fl_neA]; exact q.2.2.2.2.2
    clear f1 f2
    try simp (disch := omega) only [w_iff, iffM_t, iffM_f, iffM_d, iffM_nd, iffM_0, iffM_ite, Wd_iffM, iffM_v, w_tern, ternM_t, ternM_f, ternM_d, ternM_nd, ternM_0, ternM_ite, Wd_ternM, ternM_v, w_sw, swX_1, Wd_swX, Bool.not_true, Bool.not_false, C_X1_takeFrom_0, D_X1_takeFrom_0, U_X1_takeFrom_0, sh_10, sh_78, sh_11, sh_12, sh_13, sh_14, sh_15, sh_16, sh_79, sh_80, sh_81, sh_82, sh_83, sh_84, rf_10_2, rf_10_3, rf_10_4, rf_10_5, rf_10_6, rf_10_7, rf_78_2, rf_78_3, rf_78_4, rf_78_5, rf_78_6, rf_78_7, e1, lt, l30, Wd_some, Wd_bn, Wd_sqM, Wd_outV, Wd_blkM, Wd_swM, Wd_ite, Wd_map, v_kS_0, v_kS_b, v_kS_r, v_kO_r, v_kW_0, v_kW_1, v_kW_2, v_kW_r, v_kL_0, v_kL_1, v_kL_2, v_kL_r, v_kU_0, ups_11, upsN, upsA, upA_same, upA_neA, fl_at, fl_neA, v_sq_eq, v_sqM_0, v_sqM_r, v_sqM_b, v_sqM_n, sqM_ite, v_asI, v_asR, v_inc, v_pfI, v_pfZ, v_pfO, v_paI, v_paO, v_exI,  v_rtI, v_rtZ, v_rtV, v_sk, v_brk, v_cnt, v_blk_eq, v_blkM_some, blkM_ite, v_lI, v_lR, v_cI, v_gI, v_gR, v_op1, v_op2, v_arI, v_arR, v_alen,  v_cmp1, v_cmp2, v_cAnd, v_cOr, v_cNot, v_cTern, v_bn_some, bn_ite, v_bn_none, v_outV_r, v_outV_0, v_outV_n, outV_ite, List.getD_cons_zero, List.getD_cons_succ, List.set_cons_zero, List.set_cons_succ, List.take_succ_cons, List.take_zero, List.drop_succ_cons, List.drop_zero, List.nil_append, List.cons_append, Option.map_some, Option.map_none, if_true, if_false, ↓reduceIte, reduceCtorEq, decide_eq_true_eq, Bool.not_eq_true', decide_eq_false_iff_not, decide_eq_true, decide_eq_false, decide_true, decide_false, and_self, and_true, true_and, or_self, stO, v_caV_, v_caV_i, v_caV_ii, v_caV_iii, v_caV_iiii, v_caV_iiiii, v_caV_il, v_caV_iil, v_caV_l, v_caV_ll, v_caV_r, v_caV_ri, v_caV_rii, v_caV_riii, v_caV_riiii, v_caV_ir, v_caV_iri, v_caV_iiri, v_caS_i, v_caS_ii, v_caS_iii, v_caS_iiii, v_caS_iiiiii, v_caS_il, v_caS_li, v_caS_ll, v_caS_lll, v_caS_ri, v_caS_riii, sh_239, sh_240, sh_241, sh_242, sh_243, sh_244, sh_245, sh_246, sh_247, sh_248, sh_249, sh_250, sh_251, sh_252, sh_253, rf_239_4, rf_239_5, rf_239_6, rf_239_7, rf_239_20, rf_239_21, rf_239_22, rf_239_23, rf_239_27, rf_239_28, rf_239_32, rf_239_33, rf_239_34, rf_239_35, Int.reduceLE, Int.reduceLT, Int.reduceToNat, Int.reduceAdd, Int.reduceSub, Int.reduceMul, Int.reduceNeg, Int.reduceEq, Int.reduceNe, Nat.reduceAdd, Nat.reduceMul, Nat.reduceLT, Nat.reduceEqDiff, or_true, true_or, or_false, false_or, and_false, false_and, not_true_eq_false, not_false_eq_true, ne_eq, cN4, cN5, cN6, cN7, cN13, cN30, cN60, cN64, cN100, cN136, cN240, cN384, cN900, cN2040, cN3,  v_swM_0, v_swM_1, v_swM_r, v_swM_n, swM_ite, app_ite, ex_some, bI_0, bI_1, nn_iff, Int.toNat_natCast, Int.toNat_of_nonneg, Int.natCast_add, cN1, wI_id2, wL_id2, ↓if_pos, ↓if_neg, if_pos, if_neg]
    exact po
  · intro z hz
    obtain ⟨σ1, hz, f1, f2⟩ := hz
    subst hz
    have e1 : σ1 10 1 = (m : Int) := by rw [f1 10 (by omega)]; exact hm
    have ng : ¬ (m : Int) < (m : Int) := by omega
    have po : EuI σ m ([0, 0, (m : Int)], [10, 78, 0], σ1) := ⟨σ1, rfl, f1, f2⟩
    clear f1 f2
    try simp (disch := omega) only [w_iff, iffM_t, iffM_f, iffM_d, iffM_nd, iffM_0, iffM_ite, Wd_iffM, iffM_v, w_tern, ternM_t, ternM_f, ternM_d, ternM_nd, ternM_0, ternM_ite, Wd_ternM, ternM_v, w_sw, swX_1, Wd_swX, Bool.not_true, Bool.not_false, C_X1_takeFrom_0, D_X1_takeFrom_0, U_X1_takeFrom_0, sh_10, e1, ng, Wd_some, Wd_bn, Wd_sqM, Wd_outV, Wd_blkM, Wd_swM, Wd_ite, Wd_map, v_kS_0, v_kS_b, v_kS_r, v_kO_r, v_kW_0, v_kW_1, v_kW_2, v_kW_r, v_kL_0, v_kL_1, v_kL_2, v_kL_r, v_kU_0, ups_11, upsN, upsA, upA_same, upA_neA, fl_at, fl_neA, v_sq_eq, v_sqM_0, v_sqM_r, v_sqM_b, v_sqM_n, sqM_ite, v_asI, v_asR, v_inc, v_pfI, v_pfZ, v_pfO, v_paI, v_paO, v_exI,  v_rtI, v_rtZ, v_rtV, v_sk, v_brk, v_cnt, v_blk_eq, v_blkM_some, blkM_ite, v_lI, v_lR, v_cI, v_gI, v_gR, v_op1, v_op2, v_arI, v_arR, v_alen,  v_cmp1, v_cmp2, v_cAnd, v_cOr, v_cNot, v_cTern, v_bn_some, bn_ite, v_bn_none, v_outV_r, v_outV_0, v_outV_n, outV_ite, List.getD_cons_zero, List.getD_cons_succ, List.set_cons_zero, List.set_cons_succ, List.take_succ_cons, List.take_zero, List.drop_succ_cons, List.drop_zero, List.nil_append, List.cons_append, Option.map_some, Option.map_none, if_true, if_false, ↓reduceIte, reduceCtorEq, decide_eq_true_eq, Bool.not_eq_true', decide_eq_false_iff_not, decide_eq_true, decide_eq_false, decide_true, decide_false, and_self, and_true, true_and, or_self, stO, v_caV_, v_caV_i, v_caV_ii, v_caV_iii, v_caV_iiii, v_caV_iiiii, v_caV_il, v_caV_iil, v_caV_l, v_caV_ll, v_caV_r, v_caV_ri, v_caV_rii, v_caV_riii, v_caV_riiii, v_caV_ir, v_caV_iri, v_caV_iiri, v_caS_i, v_caS_ii, v_caS_iii, v_caS_iiii, v_caS_iiiiii, v_caS_il, v_caS_li, v_caS_ll, v_caS_lll, v_caS_ri, v_caS_riii, sh_239, sh_240, sh_241, sh_242, sh_243, sh_244, sh_245, sh_246, sh_247, sh_248, sh_249, sh_250, sh_251, sh_252, sh_253, rf_239_4, rf_239_5, rf_239_6, rf_239_7, rf_239_20, rf_239_21, rf_239_22, rf_239_23, rf_239_27, rf_239_28, rf_239_32, rf_239_33, rf_239_34, rf_239_35, Int.reduceLE, Int.reduceLT, Int.reduceToNat, Int.reduceAdd, Int.reduceSub, Int.reduceMul, Int.reduceNeg, Int.reduceEq, Int.reduceNe, Nat.reduceAdd, Nat.reduceMul, Nat.reduceLT, Nat.reduceEqDiff, or_true, true_or, or_false, false_or, and_false, false_and, not_true_eq_false, not_false_eq_true, ne_eq, cN4, cN5, cN6, cN7, cN13, cN30, cN60, cN64, cN100, cN136, cN240, cN384, cN900, cN2040, cN3,  v_swM_0, v_swM_1, v_swM_r, v_swM_n, swM_ite, app_ite, ex_some, bI_0, bI_1, nn_iff, Int.toNat_natCast, Int.toNat_of_nonneg, Int.natCast_add, cN1, wI_id2, wL_id2, ↓if_pos, ↓if_neg, if_pos, if_neg]
    exact po
def EuQ (m : Nat) (σ : SS) (r : Int) (σ' : SS) : Prop := (∀ x, ¬ (10 ≤ x ∧ x ≤ 16) → σ' x = σ x) ∧ σ' 10 0 = σ 78 0 ∧ σ' 10 1 = (m : Int) ∧ ∀ k, k < m → σ' 11 k = σ 79 k ∧ σ' 12 k = σ 80 k ∧ σ' 13 k = σ 81 k ∧ σ' 14 k = σ 82 k ∧ σ' 15 k = σ 83 k ∧ σ' 16 k = σ 84 k
theorem k_evU {m : Nat} (h0 : σ 78 0 = 1) (hm : σ 78 1 = (m : Int)) (m30 : m ≤ 30) : Wd (F_X1_takeFrom 10 78 σ) (EuQ m σ) := by
  have lp := kl_evU (σ := ups (ups σ 10 0 1) 10 1 (m : Int)) (m := m) (by try simp (disch := omega) only [ups_11, upsN, upsA, upA_same, upA_neA, fl_at, fl_neA]) m30
  try simp (disch := omega) only [w_iff, iffM_t, iffM_f, iffM_d, iffM_nd, iffM_0, iffM_ite, Wd_iffM, iffM_v, w_tern, ternM_t, ternM_f, ternM_d, ternM_nd, ternM_0, ternM_ite, Wd_ternM, ternM_v, w_sw, swX_1, Wd_swX, Bool.not_true, Bool.not_false, F_X1_takeFrom, E_X1_takeFrom, sh_10, sh_78, h0, hm, Wd_some, Wd_bn, Wd_sqM, Wd_outV, Wd_blkM, Wd_swM, Wd_ite, Wd_map, v_kS_0, v_kS_b, v_kS_r, v_kO_r, v_kW_0, v_kW_1, v_kW_2, v_kW_r, v_kL_0, v_kL_1, v_kL_2, v_kL_r, v_kU_0, ups_11, upsN, upsA, upA_same, upA_neA, fl_at, fl_neA, v_sq_eq, v_sqM_0, v_sqM_r, v_sqM_b, v_sqM_n, sqM_ite, v_asI, v_asR, v_inc, v_pfI, v_pfZ, v_pfO, v_paI, v_paO, v_exI,  v_rtI, v_rtZ, v_rtV, v_sk, v_brk, v_cnt, v_blk_eq, v_blkM_some, blkM_ite, v_lI, v_lR, v_cI, v_gI, v_gR, v_op1, v_op2, v_arI, v_arR, v_alen,  v_cmp1, v_cmp2, v_cAnd, v_cOr, v_cNot, v_cTern, v_bn_some, bn_ite, v_bn_none, v_outV_r, v_outV_0, v_outV_n, outV_ite, List.getD_cons_zero, List.getD_cons_succ, List.set_cons_zero, List.set_cons_succ, List.take_succ_cons, List.take_zero, List.drop_succ_cons, List.drop_zero, List.nil_append, List.cons_append, Option.map_some, Option.map_none, if_true, if_false, ↓reduceIte, reduceCtorEq, decide_eq_true_eq, Bool.not_eq_true', decide_eq_false_iff_not, decide_eq_true, decide_eq_false, decide_true, decide_false, and_self, and_true, true_and, or_self, stO, v_caV_, v_caV_i, v_caV_ii, v_caV_iii, v_caV_iiii, v_caV_iiiii, v_caV_il, v_caV_iil, v_caV_l, v_caV_ll, v_caV_r, v_caV_ri, v_caV_rii, v_caV_riii, v_caV_riiii, v_caV_ir, v_caV_iri, v_caV_iiri, v_caS_i, v_caS_ii, v_caS_iii, v_caS_iiii, v_caS_iiiiii, v_caS_il, v_caS_li, v_caS_ll, v_caS_lll, v_caS_ri, v_caS_riii, sh_239, sh_240, sh_241, sh_242, sh_243, sh_244, sh_245, sh_246, sh_247, sh_248, sh_249, sh_250, sh_251, sh_252, sh_253, rf_239_4, rf_239_5, rf_239_6, rf_239_7, rf_239_20, rf_239_21, rf_239_22, rf_239_23, rf_239_27, rf_239_28, rf_239_32, rf_239_33, rf_239_34, rf_239_35, Int.reduceLE, Int.reduceLT, Int.reduceToNat, Int.reduceAdd, Int.reduceSub, Int.reduceMul, Int.reduceNeg, Int.reduceEq, Int.reduceNe, Nat.reduceAdd, Nat.reduceMul, Nat.reduceLT, Nat.reduceEqDiff, or_true, true_or, or_false, false_or, and_false, false_and, not_true_eq_false, not_false_eq_true, ne_eq, cN4, cN5, cN6, cN7, cN13, cN30, cN60, cN64, cN100, cN136, cN240, cN384, cN900, cN2040, cN3,  v_swM_0, v_swM_1, v_swM_r, v_swM_n, swM_ite, app_ite, ex_some, bI_0, bI_1, nn_iff, Int.toNat_natCast, Int.toNat_of_nonneg, Int.natCast_add, cN1, wI_id2, wL_id2, ↓if_pos, ↓if_neg, if_pos, if_neg]
  refine Wd_mono lp (fun o z hz => ?_)
  obtain ⟨ho, σ1, hz, f1, f2⟩ := hz
  subst ho; subst hz
  have po : EuQ m σ 0 σ1 := by
    refine ⟨fun x hx => by rw [f1 x (by omega)]; try simp (disch := omega) only [ups_11, upsN, upsA, upA_same, upA_neA, fl_at, fl_neA], by rw [f1 10 (by omega), h0]; try simp (disch := omega) only [ups_11, upsN, upsA, upA_same, upA_neA, fl_at, fl_neA], by rw [f1 10 (by omega)]; try simp (disch := omega) only [ups_11, upsN, upsA, upA_same, upA_neA, fl_at, fl_neA], fun k hk => ?_⟩
    have q := f2 k hk
    try simp (disch := omega) only [ups_11, upsN, upsA, upA_same, upA_neA, fl_at, fl_neA] at q
    exact q
  clear f1 f2 lp
  try simp (disch := omega) only [w_iff, iffM_t, iffM_f, iffM_d, iffM_nd, iffM_0, iffM_ite, Wd_iffM, iffM_v, w_tern, ternM_t, ternM_f, ternM_d, ternM_nd, ternM_0, ternM_ite, Wd_ternM, ternM_v, w_sw, swX_1, Wd_swX, Bool.not_true, Bool.not_false, Wd_some, Wd_bn, Wd_sqM, Wd_outV, Wd_blkM, Wd_swM, Wd_ite, Wd_map, v_kS_0, v_kS_b, v_kS_r, v_kO_r, v_kW_0, v_kW_1, v_kW_2, v_kW_r, v_kL_0, v_kL_1, v_kL_2, v_kL_r, v_kU_0, ups_11, upsN, upsA, upA_same, upA_neA, fl_at, fl_neA, v_sq_eq, v_sqM_0, v_sqM_r, v_sqM_b, v_sqM_n, sqM_ite, v_asI, v_asR, v_inc, v_pfI, v_pfZ, v_pfO, v_paI, v_paO, v_exI,  v_rtI, v_rtZ, v_rtV, v_sk, v_brk, v_cnt, v_blk_eq, v_blkM_some, blkM_ite, v_lI, v_lR, v_cI, v_gI, v_gR, v_op1, v_op2, v_arI, v_arR, v_alen,  v_cmp1, v_cmp2, v_cAnd, v_cOr, v_cNot, v_cTern, v_bn_some, bn_ite, v_bn_none, v_outV_r, v_outV_0, v_outV_n, outV_ite, List.getD_cons_zero, List.getD_cons_succ, List.set_cons_zero, List.set_cons_succ, List.take_succ_cons, List.take_zero, List.drop_succ_cons, List.drop_zero, List.nil_append, List.cons_append, Option.map_some, Option.map_none, if_true, if_false, ↓reduceIte, reduceCtorEq, decide_eq_true_eq, Bool.not_eq_true', decide_eq_false_iff_not, decide_eq_true, decide_eq_false, decide_true, decide_false, and_self, and_true, true_and, or_self, stO, v_caV_, v_caV_i, v_caV_ii, v_caV_iii, v_caV_iiii, v_caV_iiiii, v_caV_il, v_caV_iil, v_caV_l, v_caV_ll, v_caV_r, v_caV_ri, v_caV_rii, v_caV_riii, v_caV_riiii, v_caV_ir, v_caV_iri, v_caV_iiri, v_caS_i, v_caS_ii, v_caS_iii, v_caS_iiii, v_caS_iiiiii, v_caS_il, v_caS_li, v_caS_ll, v_caS_lll, v_caS_ri, v_caS_riii, sh_239, sh_240, sh_241, sh_242, sh_243, sh_244, sh_245, sh_246, sh_247, sh_248, sh_249, sh_250, sh_251, sh_252, sh_253, rf_239_4, rf_239_5, rf_239_6, rf_239_7, rf_239_20, rf_239_21, rf_239_22, rf_239_23, rf_239_27, rf_239_28, rf_239_32, rf_239_33, rf_239_34, rf_239_35, Int.reduceLE, Int.reduceLT, Int.reduceToNat, Int.reduceAdd, Int.reduceSub, Int.reduceMul, Int.reduceNeg, Int.reduceEq, Int.reduceNe, Nat.reduceAdd, Nat.reduceMul, Nat.reduceLT, Nat.reduceEqDiff, or_true, true_or, or_false, false_or, and_false, false_and, not_true_eq_false, not_false_eq_true, ne_eq, cN4, cN5, cN6, cN7, cN13, cN30, cN60, cN64, cN100, cN136, cN240, cN384, cN900, cN2040, cN3,  v_swM_0, v_swM_1, v_swM_r, v_swM_n, swM_ite, app_ite, ex_some, bI_0, bI_1, nn_iff, Int.toNat_natCast, Int.toNat_of_nonneg, Int.natCast_add, cN1, wI_id2, wL_id2, ↓if_pos, ↓if_neg, if_pos, if_neg]
  exact po
def CyD (Y : EX) (σ : SS) (x : Int) (σ1 : SS) : Prop := (¬ Y.1.2.1 = 0 ∧ x = -1 ∧ σ1 0 11 = 10 ∧ σ1 0 12 = Y.1.2.1 ∧ σ1 0 13 = Y.1.2.2 ∧ ∀ a, 10 ≤ a → a ≤ 16 → σ1 a = σ a) ∨ (Y.1.2.1 = 0 ∧ x = (Y.2.1 : Int) ∧ σ1 0 11 = 0 ∧ σ1 0 12 = 0 ∧ σ1 0 13 = -1 ∧ σ1 10 0 = 1 ∧ σ1 10 1 = (Y.2.1 : Int) ∧ ∀ i, i < Y.2.1 → EvS σ1 10 Y.2.2.2.2.1 i)
def CyF (σ σ1 : SS) : Prop := (∀ a, ¬ (a = 0 ∨ a = 2 ∨ (10 ≤ a ∧ a ≤ 16) ∨ (77 ≤ a ∧ a ≤ 85)) → σ1 a = σ a) ∧ (∀ k, k ≠ 11 → k ≠ 12 → k ≠ 13 → σ1 0 k = σ 0 k) ∧ σ1 2 1 = 0
def CyQ (B : Nat → Int) (n : Nat) (F G : Int → Int) (X : EX) (σ : SS) (x : Int) (σ1 : SS) : Prop := ∃ j : Nat, ((∀ i, i < j → goE B n (eX B n F G X i)) ∧ ¬ goE B n (eX B n F G X j)) ∧ CyF σ σ1 ∧ CyD (eX B n F G X j) σ x σ1
theorem nmF_cc {c w : Nat → Int} (hw : WH c) : (∀ v, -1 ≤ nmF w 0 (c 2).toNat v ∧ nmF w 0 (c 2).toNat v < c 2) ∧ ∀ v, -1 ≤ nmF w 6 (c 3).toNat v ∧ nmF w 6 (c 3).toNat v < c 3 := by
  have h2 := hw.2.2.1
  have h3 := hw.2.2.2.1
  refine ⟨fun v => ?_, fun v => ?_⟩
  · have := nmF_rng w 0 (c 2).toNat v
    omega
  · have := nmF_rng w 6 (c 3).toNat v
    omega
theorem k_eve (R : Rel V σ) {fl : Int} (hf : σ 239 8 = fl) (hn : (n : Int) ≤ fl ∧ n ≤ 300) : Wd (F_X11_evenings 0 n σ) (CyQ (σ 3) n (nmF (σ 247) 0 (σ 244 2).toNat) (nmF (σ 247) 6 (σ 244 3).toNat) (e0E (σ 244)) σ) := by
  obtain ⟨t1, t2, t3⟩ := R.2.2.2.2.2.2.1
  have hw := R.1.2.2.1.1
  rw [hf] at t1 t2 t3
  have rd := k_readEve (σ := σ) (B := σ 3) (n := n) (fl := fl) (cE := σ 244) R.1.1 hw t1 hn (fun k hk => ⟨rfl, (t3 k (by omega)).2⟩) R.2.2.2.2.2.2.2.2
  obtain ⟨hF, hG⟩ := nmF_cc (w := σ 247) hw
  clear R t3
  try simp (disch := omega) only [w_iff, iffM_t, iffM_f, iffM_d, iffM_nd, iffM_0, iffM_ite, Wd_iffM, iffM_v, w_tern, ternM_t, ternM_f, ternM_d, ternM_nd, ternM_0, ternM_ite, Wd_ternM, ternM_v, w_sw, swX_1, Wd_swX, Bool.not_true, Bool.not_false, F_X11_evenings, B_X11_evenings, sh_0, sh_1, sh_2, sh_3, sh_4, sh_5, sh_6, sh_7, sh_8, sh_9, sh_10, sh_35, sh_46, sh_47, sh_48, sh_77, sh_86, sh_87, sh_116, sh_127, sh_128, sh_138, sh_142, sh_143, rf_0_0, rf_0_1, rf_0_2, rf_0_3, rf_0_4, rf_0_5, rf_0_6, rf_0_7, rf_0_8, rf_5_0, rf_5_1, rf_5_2, rf_6_8, rf_6_10, rf_6_12, rf_6_13, rf_86_0, rf_86_1, rf_86_2, rf_2_0, rf_2_4, rf_47_0, rf_47_1, rf_77_0, rf_77_1, rf_77_2, rf_77_3, rf_128_0, rf_128_1, rf_128_2, rf_128_3, rf_128_4, rf_128_5, rf_128_6, rf_128_7, N_rt, N_rb, N_rg, N_t, N_b, N_g, N_q, N_qr, N_qn, N_ql, N_m, t1, Wd_some, Wd_bn, Wd_sqM, Wd_outV, Wd_blkM, Wd_swM, Wd_ite, Wd_map, v_kS_0, v_kS_b, v_kS_r, v_kO_r, v_kW_0, v_kW_1, v_kW_2, v_kW_r, v_kL_0, v_kL_1, v_kL_2, v_kL_r, v_kU_0, ups_11, upsN, upsA, upA_same, upA_neA, fl_at, fl_neA, v_sq_eq, v_sqM_0, v_sqM_r, v_sqM_b, v_sqM_n, sqM_ite, v_asI, v_asR, v_inc, v_pfI, v_pfZ, v_pfO, v_paI, v_paO, v_exI,  v_rtI, v_rtZ, v_rtV, v_sk, v_brk, v_cnt, v_blk_eq, v_blkM_some, blkM_ite, v_lI, v_lR, v_cI, v_gI, v_gR, v_op1, v_op2, v_arI, v_arR, v_alen,  v_cmp1, v_cmp2, v_cAnd, v_cOr, v_cNot, v_cTern, v_bn_some, bn_ite, v_bn_none, v_outV_r, v_outV_0, v_outV_n, outV_ite, List.getD_cons_zero, List.getD_cons_succ, List.set_cons_zero, List.set_cons_succ, List.take_succ_cons, List.take_zero, List.drop_succ_cons, List.drop_zero, List.nil_append, List.cons_append, Option.map_some, Option.map_none, if_true, if_false, ↓reduceIte, reduceCtorEq, decide_eq_true_eq, Bool.not_eq_true', decide_eq_false_iff_not, decide_eq_true, decide_eq_false, decide_true, decide_false, and_self, and_true, true_and, or_self, stO, v_caV_, v_caV_i, v_caV_ii, v_caV_iii, v_caV_iiii, v_caV_iiiii, v_caV_il, v_caV_iil, v_caV_l, v_caV_ll, v_caV_r, v_caV_ri, v_caV_rii, v_caV_riii, v_caV_riiii, v_caV_ir, v_caV_iri, v_caV_iiri, v_caS_i, v_caS_ii, v_caS_iii, v_caS_iiii, v_caS_iiiiii, v_caS_il, v_caS_li, v_caS_ll, v_caS_lll, v_caS_ri, v_caS_riii, sh_239, sh_240, sh_241, sh_242, sh_243, sh_244, sh_245, sh_246, sh_247, sh_248, sh_249, sh_250, sh_251, sh_252, sh_253, rf_239_4, rf_239_5, rf_239_6, rf_239_7, rf_239_20, rf_239_21, rf_239_22, rf_239_23, rf_239_27, rf_239_28, rf_239_32, rf_239_33, rf_239_34, rf_239_35, Int.reduceLE, Int.reduceLT, Int.reduceToNat, Int.reduceAdd, Int.reduceSub, Int.reduceMul, Int.reduceNeg, Int.reduceEq, Int.reduceNe, Nat.reduceAdd, Nat.reduceMul, Nat.reduceLT, Nat.reduceEqDiff, or_true, true_or, or_false, false_or, and_false, false_and, not_true_eq_false, not_false_eq_true, ne_eq, cN4, cN5, cN6, cN7, cN13, cN30, cN60, cN64, cN100, cN136, cN240, cN384, cN900, cN2040, cN3,  v_swM_0, v_swM_1, v_swM_r, v_swM_n, swM_ite, app_ite, ex_some, bI_0, bI_1, nn_iff, Int.toNat_natCast, Int.toNat_of_nonneg, Int.natCast_add, cN1, wI_id2, wL_id2, ↓if_pos, ↓if_neg, if_pos, if_neg]
  refine Wd_mono rd (fun r σ1 h => ?_)
  obtain ⟨j, hg, ng, T, f1, f2, f0, f4, hr⟩ := h
  have px := eX_ok (B := σ 3) (n := n) (X := e0E (σ 244)) hF hG (e0E_I _ _ _) j
  have e22 := T.2.2.1
  have e23 := T.2.2.2.1
  have tk := T.2.1.2.2
  have fin : ∀ (x : Int) (σ2 : SS), CyF σ σ2 → CyD (eX (σ 3) n (nmF (σ 247) 0 (σ 244 2).toNat) (nmF (σ 247) 6 (σ 244 3).toNat) (e0E (σ 244)) j) σ x σ2 → CyQ (σ 3) n (nmF (σ 247) 0 (σ 244 2).toNat) (nmF (σ 247) 6 (σ 244 3).toNat) (e0E (σ 244)) σ x σ2 := fun x σ2 h1 h2 => ⟨j, ⟨hg, ng⟩, h1, h2⟩
  have px := fun h => (px h hg).1
  clear rd T hg ng
  generalize eX (σ 3) n (nmF (σ 247) 0 (σ 244 2).toNat) (nmF (σ 247) 6 (σ 244 3).toNat) (e0E (σ 244)) j = Y at *
  have o2 : ∀ a, a ≠ 0 → a ≠ 2 → ups (ups (ups σ1 0 12 (σ1 2 2)) 0 13 (σ1 2 3)) 2 1 0 a = σ1 a := fun a h1 h2 => by try simp (disch := omega) only [ups_11, upsN, upsA, upA_same, upA_neA, fl_at, fl_neA]
  by_cases g : Y.1.2.1 = 0
  · rw [if_pos g] at hr
    subst hr
    rw [g] at e22
    have e23' : σ1 2 3 = -1 := by rw [e23]; exact tk g
    obtain ⟨D1, D2, D3, D4⟩ := f4 g
    have m30 : Y.2.1 ≤ 30 := (px g).1.1
    rw [e22, e23'] at o2
    obtain ⟨m, hm⟩ : ∃ m : Nat, Y.2.1 = m := ⟨_, rfl⟩
    have tf := k_evU (σ := ups (ups (ups σ1 0 12 0) 0 13 (-1)) 2 1 0) (m := m) (by rw [o2 78 (by omega) (by omega)]; exact f0) (by rw [o2 78 (by omega) (by omega), ← hm]; exact D1) (by omega)
    have k0 : ∀ k, k ≠ 12 → k ≠ 13 → ups (ups (ups σ1 0 12 0) 0 13 (-1)) 2 1 0 0 k = σ 0 k := fun k h1 h2 => by
      rw [upsA (by omega), upsN h2, upsN h1, f1 0 (by omega) (by omega)]
    have k12 : ups (ups (ups σ1 0 12 0) 0 13 (-1)) 2 1 0 0 12 = 0 := by try simp (disch := omega) only [ups_11, upsN, upsA, upA_same, upA_neA, fl_at, fl_neA]
    have k13 : ups (ups (ups σ1 0 12 0) 0 13 (-1)) 2 1 0 0 13 = -1 := by try simp (disch := omega) only [ups_11, upsN, upsA, upA_same, upA_neA, fl_at, fl_neA]
    have k21 : ups (ups (ups σ1 0 12 0) 0 13 (-1)) 2 1 0 2 1 = 0 := by try simp (disch := omega) only [ups_11, upsN, upsA, upA_same, upA_neA, fl_at, fl_neA]
    clear f4 px D1 D2 D3
    try simp (disch := omega) only [w_iff, iffM_t, iffM_f, iffM_d, iffM_nd, iffM_0, iffM_ite, Wd_iffM, iffM_v, w_tern, ternM_t, ternM_f, ternM_d, ternM_nd, ternM_0, ternM_ite, Wd_ternM, ternM_v, w_sw, swX_1, Wd_swX, Bool.not_true, Bool.not_false, F_X11_keepFault, B_X11_keepFault, sh_0, sh_1, sh_2, sh_3, sh_4, sh_5, sh_6, sh_7, sh_8, sh_9, sh_10, sh_35, sh_46, sh_47, sh_48, sh_77, sh_86, sh_87, sh_116, sh_127, sh_128, sh_138, sh_142, sh_143, rf_0_0, rf_0_1, rf_0_2, rf_0_3, rf_0_4, rf_0_5, rf_0_6, rf_0_7, rf_0_8, rf_5_0, rf_5_1, rf_5_2, rf_6_8, rf_6_10, rf_6_12, rf_6_13, rf_86_0, rf_86_1, rf_86_2, rf_2_0, rf_2_4, rf_47_0, rf_47_1, rf_77_0, rf_77_1, rf_77_2, rf_77_3, rf_128_0, rf_128_1, rf_128_2, rf_128_3, rf_128_4, rf_128_5, rf_128_6, rf_128_7, N_rt, N_rb, N_rg, N_t, N_b, N_g, N_q, N_qr, N_qn, N_ql, N_m, rf_6_13, e22, e23', Wd_some, Wd_bn, Wd_sqM, Wd_outV, Wd_blkM, Wd_swM, Wd_ite, Wd_map, v_kS_0, v_kS_b, v_kS_r, v_kO_r, v_kW_0, v_kW_1, v_kW_2, v_kW_r, v_kL_0, v_kL_1, v_kL_2, v_kL_r, v_kU_0, ups_11, upsN, upsA, upA_same, upA_neA, fl_at, fl_neA, v_sq_eq, v_sqM_0, v_sqM_r, v_sqM_b, v_sqM_n, sqM_ite, v_asI, v_asR, v_inc, v_pfI, v_pfZ, v_pfO, v_paI, v_paO, v_exI,  v_rtI, v_rtZ, v_rtV, v_sk, v_brk, v_cnt, v_blk_eq, v_blkM_some, blkM_ite, v_lI, v_lR, v_cI, v_gI, v_gR, v_op1, v_op2, v_arI, v_arR, v_alen,  v_cmp1, v_cmp2, v_cAnd, v_cOr, v_cNot, v_cTern, v_bn_some, bn_ite, v_bn_none, v_outV_r, v_outV_0, v_outV_n, outV_ite, List.getD_cons_zero, List.getD_cons_succ, List.set_cons_zero, List.set_cons_succ, List.take_succ_cons, List.take_zero, List.drop_succ_cons, List.drop_zero, List.nil_append, List.cons_append, Option.map_some, Option.map_none, if_true, if_false, ↓reduceIte, reduceCtorEq, decide_eq_true_eq, Bool.not_eq_true', decide_eq_false_iff_not, decide_eq_true, decide_eq_false, decide_true, decide_false, and_self, and_true, true_and, or_self, stO, v_caV_, v_caV_i, v_caV_ii, v_caV_iii, v_caV_iiii, v_caV_iiiii, v_caV_il, v_caV_iil, v_caV_l, v_caV_ll, v_caV_r, v_caV_ri, v_caV_rii, v_caV_riii, v_caV_riiii, v_caV_ir, v_caV_iri, v_caV_iiri, v_caS_i, v_caS_ii, v_caS_iii, v_caS_iiii, v_caS_iiiiii, v_caS_il, v_caS_li, v_caS_ll, v_caS_lll, v_caS_ri, v_caS_riii, sh_239, sh_240, sh_241, sh_242, sh_243, sh_244, sh_245, sh_246, sh_247, sh_248, sh_249, sh_250, sh_251, sh_252, sh_253, rf_239_4, rf_239_5, rf_239_6, rf_239_7, rf_239_20, rf_239_21, rf_239_22, rf_239_23, rf_239_27, rf_239_28, rf_239_32, rf_239_33, rf_239_34, rf_239_35, Int.reduceLE, Int.reduceLT, Int.reduceToNat, Int.reduceAdd, Int.reduceSub, Int.reduceMul, Int.reduceNeg, Int.reduceEq, Int.reduceNe, Nat.reduceAdd, Nat.reduceMul, Nat.reduceLT, Nat.reduceEqDiff, or_true, true_or, or_false, false_or, and_false, false_and, not_true_eq_false, not_false_eq_true, ne_eq, cN4, cN5, cN6, cN7, cN13, cN30, cN60, cN64, cN100, cN136, cN240, cN384, cN900, cN2040, cN3,  v_swM_0, v_swM_1, v_swM_r, v_swM_n, swM_ite, app_ite, ex_some, bI_0, bI_1, nn_iff, Int.toNat_natCast, Int.toNat_of_nonneg, Int.natCast_add, cN1, wI_id2, wL_id2, ↓if_pos, ↓if_neg, if_pos, if_neg]
    generalize ups (ups (ups σ1 0 12 0) 0 13 (-1)) 2 1 0 = τ at *
    refine Wd_mono tf (fun r2 σ2 h2 => ?_)
    obtain ⟨w1, w2, w3, w4⟩ := h2
    have po := fin (m : Int) (ups σ2 0 11 0) ⟨fun a ha => ?_, fun k h1 h2 h3 => ?_, ?_⟩ (Or.inr ⟨g, by rw [hm], ?_, ?_, ?_, ?_, ?_, fun i hi => ?_⟩)
    · clear fin tf w1 w2 w4 o2 k0 f1 f2 D4
      try simp (disch := omega) only [w_iff, iffM_t, iffM_f, iffM_d, iffM_nd, iffM_0, iffM_ite, Wd_iffM, iffM_v, w_tern, ternM_t, ternM_f, ternM_d, ternM_nd, ternM_0, ternM_ite, Wd_ternM, ternM_v, w_sw, swX_1, Wd_swX, Bool.not_true, Bool.not_false, sh_0, sh_1, sh_2, sh_3, sh_4, sh_5, sh_6, sh_7, sh_8, sh_9, sh_10, sh_35, sh_46, sh_47, sh_48, sh_77, sh_86, sh_87, sh_116, sh_127, sh_128, sh_138, sh_142, sh_143, rf_0_0, rf_0_1, rf_0_2, rf_0_3, rf_0_4, rf_0_5, rf_0_6, rf_0_7, rf_0_8, rf_5_0, rf_5_1, rf_5_2, rf_6_8, rf_6_10, rf_6_12, rf_6_13, rf_86_0, rf_86_1, rf_86_2, rf_2_0, rf_2_4, rf_47_0, rf_47_1, rf_77_0, rf_77_1, rf_77_2, rf_77_3, rf_128_0, rf_128_1, rf_128_2, rf_128_3, rf_128_4, rf_128_5, rf_128_6, rf_128_7, N_rt, N_rb, N_rg, N_t, N_b, N_g, N_q, N_qr, N_qn, N_ql, N_m, rf_6_13, sh_10, w3, ev_c_yes, Wd_some, Wd_bn, Wd_sqM, Wd_outV, Wd_blkM, Wd_swM, Wd_ite, Wd_map, v_kS_0, v_kS_b, v_kS_r, v_kO_r, v_kW_0, v_kW_1, v_kW_2, v_kW_r, v_kL_0, v_kL_1, v_kL_2, v_kL_r, v_kU_0, ups_11, upsN, upsA, upA_same, upA_neA, fl_at, fl_neA, v_sq_eq, v_sqM_0, v_sqM_r, v_sqM_b, v_sqM_n, sqM_ite, v_asI, v_asR, v_inc, v_pfI, v_pfZ, v_pfO, v_paI, v_paO, v_exI,  v_rtI, v_rtZ, v_rtV, v_sk, v_brk, v_cnt, v_blk_eq, v_blkM_some, blkM_ite, v_lI, v_lR, v_cI, v_gI, v_gR, v_op1, v_op2, v_arI, v_arR, v_alen,  v_cmp1, v_cmp2, v_cAnd, v_cOr, v_cNot, v_cTern, v_bn_some, bn_ite, v_bn_none, v_outV_r, v_outV_0, v_outV_n, outV_ite, List.getD_cons_zero, List.getD_cons_succ, List.set_cons_zero, List.set_cons_succ, List.take_succ_cons, List.take_zero, List.drop_succ_cons, List.drop_zero, List.nil_append, List.cons_append, Option.map_some, Option.map_none, if_true, if_false, ↓reduceIte, reduceCtorEq, decide_eq_true_eq, Bool.not_eq_true', decide_eq_false_iff_not, decide_eq_true, decide_eq_false, decide_true, decide_false, and_self, and_true, true_and, or_self, stO, v_caV_, v_caV_i, v_caV_ii, v_caV_iii, v_caV_iiii, v_caV_iiiii, v_caV_il, v_caV_iil, v_caV_l, v_caV_ll, v_caV_r, v_caV_ri, v_caV_rii, v_caV_riii, v_caV_riiii, v_caV_ir, v_caV_iri, v_caV_iiri, v_caS_i, v_caS_ii, v_caS_iii, v_caS_iiii, v_caS_iiiiii, v_caS_il, v_caS_li, v_caS_ll, v_caS_lll, v_caS_ri, v_caS_riii, sh_239, sh_240, sh_241, sh_242, sh_243, sh_244, sh_245, sh_246, sh_247, sh_248, sh_249, sh_250, sh_251, sh_252, sh_253, rf_239_4, rf_239_5, rf_239_6, rf_239_7, rf_239_20, rf_239_21, rf_239_22, rf_239_23, rf_239_27, rf_239_28, rf_239_32, rf_239_33, rf_239_34, rf_239_35, Int.reduceLE, Int.reduceLT, Int.reduceToNat, Int.reduceAdd, Int.reduceSub, Int.reduceMul, Int.reduceNeg, Int.reduceEq, Int.reduceNe, Nat.reduceAdd, Nat.reduceMul, Nat.reduceLT, Nat.reduceEqDiff, or_true, true_or, or_false, false_or, and_false, false_and, not_true_eq_false, not_false_eq_true, ne_eq, cN4, cN5, cN6, cN7, cN13, cN30, cN60, cN64, cN100, cN136, cN240, cN384, cN900, cN2040, cN3,  v_swM_0, v_swM_1, v_swM_r, v_swM_n, swM_ite, app_ite, ex_some, bI_0, bI_1, nn_iff, Int.toNat_natCast, Int.toNat_of_nonneg, Int.natCast_add, cN1, wI_id2, wL_id2, ↓if_pos, ↓if_neg, if_pos, if_neg]
      exact po
    · rw [upsA (by omega), w1 a (by omega), o2 a (by omega) (by omega), f1 a (by omega) (by omega)]
    · rw [upsN h1, w1 0 (by omega)]; exact k0 k h2 h3
    · rw [upsA (by omega), w1 2 (by omega)]; exact k21
    · try simp (disch := omega) only [ups_11, upsN, upsA, upA_same, upA_neA, fl_at, fl_neA]
    · rw [upsN (by omega), w1 0 (by omega)]; exact k12
    · rw [upsN (by omega), w1 0 (by omega)]; exact k13
    · rw [upsA (by omega), w2, o2 78 (by omega) (by omega)]; exact f0
    · rw [upsA (by omega), w3, hm]
    · rw [hm] at hi
      have q := w4 i hi
      have base := D4 i (by rw [hm]; exact hi)
      unfold EvS at base ⊢
      rw [upsA (by omega), upsA (by omega), upsA (by omega), upsA (by omega), upsA (by omega), upsA (by omega)]
      show σ2 11 i = _ ∧ σ2 16 i = _ ∧ (_ → σ2 14 i = _) ∧ (_ → σ2 13 i = _ ∧ σ2 14 i = _ ∧ σ2 15 i = _) ∧ (_ → σ2 12 i = _ ∧ (_ → σ2 13 i = _) ∧ (_ → σ2 15 i = _ ∧ σ2 14 i = _))
      rw [q.1, q.2.1, q.2.2.1, q.2.2.2.1, q.2.2.2.2.1, q.2.2.2.2.2, o2 79 (by omega) (by omega), o2 80 (by omega) (by omega), o2 81 (by omega) (by omega), o2 82 (by omega) (by omega), o2 83 (by omega) (by omega), o2 84 (by omega) (by omega)]
      exact base
  · rw [if_neg g] at hr
    subst hr
    have po := fin (-1) (ups (ups (ups (ups σ1 0 12 (σ1 2 2)) 0 13 (σ1 2 3)) 2 1 0) 0 11 10) ⟨fun a ha => ?_, fun k h1 h2 h3 => ?_, ?_⟩ (Or.inl ⟨g, rfl, ?_, ?_, ?_, fun a h1 h2 => ?_⟩)
    · clear fin px f4 o2 f1 f2 tk
      try simp (disch := omega) only [w_iff, iffM_t, iffM_f, iffM_d, iffM_nd, iffM_0, iffM_ite, Wd_iffM, iffM_v, w_tern, ternM_t, ternM_f, ternM_d, ternM_nd, ternM_0, ternM_ite, Wd_ternM, ternM_v, w_sw, swX_1, Wd_swX, Bool.not_true, Bool.not_false, F_X11_keepFault, B_X11_keepFault, sh_0, sh_1, sh_2, sh_3, sh_4, sh_5, sh_6, sh_7, sh_8, sh_9, sh_10, sh_35, sh_46, sh_47, sh_48, sh_77, sh_86, sh_87, sh_116, sh_127, sh_128, sh_138, sh_142, sh_143, rf_0_0, rf_0_1, rf_0_2, rf_0_3, rf_0_4, rf_0_5, rf_0_6, rf_0_7, rf_0_8, rf_5_0, rf_5_1, rf_5_2, rf_6_8, rf_6_10, rf_6_12, rf_6_13, rf_86_0, rf_86_1, rf_86_2, rf_2_0, rf_2_4, rf_47_0, rf_47_1, rf_77_0, rf_77_1, rf_77_2, rf_77_3, rf_128_0, rf_128_1, rf_128_2, rf_128_3, rf_128_4, rf_128_5, rf_128_6, rf_128_7, N_rt, N_rb, N_rg, N_t, N_b, N_g, N_q, N_qr, N_qn, N_ql, N_m, ev_c_no, Wd_some, Wd_bn, Wd_sqM, Wd_outV, Wd_blkM, Wd_swM, Wd_ite, Wd_map, v_kS_0, v_kS_b, v_kS_r, v_kO_r, v_kW_0, v_kW_1, v_kW_2, v_kW_r, v_kL_0, v_kL_1, v_kL_2, v_kL_r, v_kU_0, ups_11, upsN, upsA, upA_same, upA_neA, fl_at, fl_neA, v_sq_eq, v_sqM_0, v_sqM_r, v_sqM_b, v_sqM_n, sqM_ite, v_asI, v_asR, v_inc, v_pfI, v_pfZ, v_pfO, v_paI, v_paO, v_exI,  v_rtI, v_rtZ, v_rtV, v_sk, v_brk, v_cnt, v_blk_eq, v_blkM_some, blkM_ite, v_lI, v_lR, v_cI, v_gI, v_gR, v_op1, v_op2, v_arI, v_arR, v_alen,  v_cmp1, v_cmp2, v_cAnd, v_cOr, v_cNot, v_cTern, v_bn_some, bn_ite, v_bn_none, v_outV_r, v_outV_0, v_outV_n, outV_ite, List.getD_cons_zero, List.getD_cons_succ, List.set_cons_zero, List.set_cons_succ, List.take_succ_cons, List.take_zero, List.drop_succ_cons, List.drop_zero, List.nil_append, List.cons_append, Option.map_some, Option.map_none, if_true, if_false, ↓reduceIte, reduceCtorEq, decide_eq_true_eq, Bool.not_eq_true', decide_eq_false_iff_not, decide_eq_true, decide_eq_false, decide_true, decide_false, and_self, and_true, true_and, or_self, stO, v_caV_, v_caV_i, v_caV_ii, v_caV_iii, v_caV_iiii, v_caV_iiiii, v_caV_il, v_caV_iil, v_caV_l, v_caV_ll, v_caV_r, v_caV_ri, v_caV_rii, v_caV_riii, v_caV_riiii, v_caV_ir, v_caV_iri, v_caV_iiri, v_caS_i, v_caS_ii, v_caS_iii, v_caS_iiii, v_caS_iiiiii, v_caS_il, v_caS_li, v_caS_ll, v_caS_lll, v_caS_ri, v_caS_riii, sh_239, sh_240, sh_241, sh_242, sh_243, sh_244, sh_245, sh_246, sh_247, sh_248, sh_249, sh_250, sh_251, sh_252, sh_253, rf_239_4, rf_239_5, rf_239_6, rf_239_7, rf_239_20, rf_239_21, rf_239_22, rf_239_23, rf_239_27, rf_239_28, rf_239_32, rf_239_33, rf_239_34, rf_239_35, Int.reduceLE, Int.reduceLT, Int.reduceToNat, Int.reduceAdd, Int.reduceSub, Int.reduceMul, Int.reduceNeg, Int.reduceEq, Int.reduceNe, Nat.reduceAdd, Nat.reduceMul, Nat.reduceLT, Nat.reduceEqDiff, or_true, true_or, or_false, false_or, and_false, false_and, not_true_eq_false, not_false_eq_true, ne_eq, cN4, cN5, cN6, cN7, cN13, cN30, cN60, cN64, cN100, cN136, cN240, cN384, cN900, cN2040, cN3,  v_swM_0, v_swM_1, v_swM_r, v_swM_n, swM_ite, app_ite, ex_some, bI_0, bI_1, nn_iff, Int.toNat_natCast, Int.toNat_of_nonneg, Int.natCast_add, cN1, wI_id2, wL_id2, ↓if_pos, ↓if_neg, if_pos, if_neg]
      exact po
    · rw [upsA (by omega), o2 a (by omega) (by omega), f1 a (by omega) (by omega)]
    · rw [upsN h1, upsA (by omega), upsN h3, upsN h2, f1 0 (by omega) (by omega)]
    · try simp (disch := omega) only [ups_11, upsN, upsA, upA_same, upA_neA, fl_at, fl_neA]
    · try simp (disch := omega) only [ups_11, upsN, upsA, upA_same, upA_neA, fl_at, fl_neA]
    · try simp (disch := omega) only [ups_11, upsN, upsA, upA_same, upA_neA, fl_at, fl_neA]; exact e22
    · try simp (disch := omega) only [ups_11, upsN, upsA, upA_same, upA_neA, fl_at, fl_neA]; exact e23
    · rw [upsA (by omega), o2 a (by omega) (by omega), f1 a (by omega) (by omega)]
/-- cells that the steps don't touch -/
theorem PkS_k {a : Nat} {c c' w : Nat → Int} (hw : WB c) (e : ∀ k, k < 136 → c' k = c k) (P : PkS σ a c w) : PkS σ a c' w := by
  obtain ⟨p1, p2, p3, p4⟩ := P
  obtain ⟨w1, w2, w3, w4⟩ := hw
  refine ⟨?_, fun t ht => ?_, fun b hb => ?_, fun k hk => ?_⟩
  · unfold kH
    rw [e 0 (by omega), e 1 (by omega), e 2 (by omega), e 3 (by omega), e 4 (by omega), e 5 (by omega), e 6 (by omega), e 7 (by omega), e 8 (by omega), e 9 (by omega)]
    exact p1
  · rw [e 2 (by omega)] at ht
    rw [e _ (by omega), e _ (by omega), e _ (by omega)]
    exact p2 t ht
  · rw [e 3 (by omega)] at hb
    have d1 := (w3 b (by omega) hb).1
    rw [e (28 + (b : Int)).toNat (by omega), e (34 + (b : Int)).toNat (by omega), e (40 + (b : Int)).toNat (by omega), e (46 + (b : Int)).toNat (by omega), e (52 + (b : Int)).toNat (by omega), e (58 + (b : Int)).toNat (by omega), e (64 + (b : Int)).toNat (by omega)]
    refine ⟨(p3 b hb).1, fun k hk => ?_⟩
    rw [e _ (by omega)]
    exact (p3 b hb).2 k hk
  · rw [e 0 (by omega), e 1 (by omega)] at hk
    obtain ⟨v1, v2, v3, v4⟩ := cell_rng w1 hk
    unfold pondB
    rw [e 0 (by omega), e _ (by omega)]
    exact p4 k hk
theorem WB_k {c c' : Nat → Int} (hw : WB c) (e : ∀ k, k < 136 → c' k = c k) : WB c' := by
  obtain ⟨w1, w2, w3, w4⟩ := hw
  have hH := w1
  refine ⟨WH_cc (fun k hk => e k (by omega)) w1, fun t t0 t1 => ?_, fun b b0 b1 => ?_, fun k k0 k1 => ?_⟩
  · rw [e 2 (by omega)] at t1
    unfold WTi
    rw [e (10 + t).toNat (by omega), e (16 + t).toNat (by omega), e (22 + t).toNat (by omega)]
    exact w2 t t0 t1
  · rw [e 3 (by omega)] at b1
    have d := w3 b b0 b1
    have d1 := d.1
    refine ⟨?_, fun k k0 k1 => ?_⟩
    · unfold WDi
      rw [e (28 + b).toNat (by omega), e (34 + b).toNat (by omega), e (40 + b).toNat (by omega), e (46 + b).toNat (by omega), e (52 + b).toNat (by omega), e (58 + b).toNat (by omega), e (64 + b).toNat (by omega), e 0 (by omega), e 1 (by omega)]
      exact d.1
    · rw [e (64 + b).toNat (by omega)] at k1
      unfold enB
      rw [e (70 + 6 * b + k).toNat (by omega), e 2 (by omega)]
      exact d.2 k k0 k1
  · rw [e (106 + k).toNat (by omega), e 0 (by omega), e 1 (by omega)]
    exact w4 k k0 k1
theorem WQ_k {c c' : Nat → Int} (hw : WH c) (e : ∀ k, k < 136 → c' k = c k) (H : WQ c) : WQ c' := by
  intro b b0 b1
  rw [e 3 (by omega)] at b1
  rw [e (58 + b).toNat (by omega), e 7 (by omega)]
  exact H b b0 b1
theorem EvS_A {e i : Nat} {c c' : Nat → Int} (A : RwA c c' i) (h8 : c' (146 + 9 * i) = c (146 + 9 * i)) (E : EvS σ e c i) : EvS σ e c' i := by
  obtain ⟨a0, a1, a5, a7⟩ := A
  obtain ⟨e1, e2, e3, e4, e5⟩ := E
  refine ⟨by rw [a0]; exact e1, by rw [h8]; exact e2, fun q => ?_, fun q => ?_, fun q => ?_⟩
  · rw [a0] at q
    rw [a1 q]; exact e3 q
  · rw [a0] at q
    rw [(a5 q).1, (a5 q).2.1, (a5 q).2.2]; exact e4 q
  · rw [a0] at q
    obtain ⟨b1, b2, b3⟩ := a7 q
    obtain ⟨d1, d2, d3⟩ := e5 q
    rw [b1]
    refine ⟨d1, fun z => by rw [b2 z]; exact d2 z, fun z => by rw [(b3 z).1, (b3 z).2]; exact d3 z⟩
theorem WfS_A {i : Nat} {c c' : Nat → Int} {m : Int} (hm : c' 137 = m) (A : RwA c c' i) (h8 : c' (146 + 9 * i) = c (146 + 9 * i)) (W : RwW (c' 2) (c' 3) c i m) : WfS c' i := by
  obtain ⟨a0, a1, a5, a7⟩ := A
  obtain ⟨e1, e2, e3, e4, e8, e5, e7, e9⟩ := W
  unfold WfS
  rw [a0, h8, hm]
  refine ⟨e1, e2, fun q => ?_, fun q => ?_, fun q => ?_, fun q => ?_, fun q => ?_, e9⟩
  · rw [a1 (by omega)]; exact e3 q
  · rw [a1 (by omega)]; exact e4 q
  · rw [a1 (by omega)]; exact e8 q
  · rw [(a5 q).1, (a5 q).2.1, (a5 q).2.2]; exact e5 q
  · obtain ⟨b1, b2, b3⟩ := a7 q
    rw [b1]
    rcases e7 q with z | ⟨z, y⟩ | ⟨z, y1, y2, y3⟩
    · exact Or.inl z
    · refine Or.inr (Or.inl ⟨z, ?_⟩)
      rw [b2 (by omega)]; exact y
    · refine Or.inr (Or.inr ⟨z, ?_, ?_, ?_⟩)
      · rw [b2 (by omega)]; exact y1
      · rw [(b3 z).1]; exact y2
      · rw [(b3 z).2]; exact y3
theorem cb0 (σ : SS) : cb σ 0 = σ 244 := by
  funext k
  unfold cb
  rw [Nat.mul_zero, Nat.zero_add]
theorem wb0 (σ : SS) : wb σ 0 = σ 247 := by
  funext k
  unfold wb
  rw [Nat.mul_zero, Nat.zero_add]
set_option maxHeartbeats 8000000 in
theorem op_evenings (R : Rel V σ) (nn : Int) : Ok V (F_X11_evenings 0 nn) (F_X12_evenings 239 nn) σ := by
  obtain ⟨t1, t2, t3⟩ := R.2.2.2.2.2.2.1
  have hw := R.1.2.2.1
  obtain ⟨fl, hf⟩ : ∃ fl, σ 239 8 = fl := ⟨_, rfl⟩
  by_cases ok : (0 ≤ nn ∧ nn ≤ fl) ∧ nn ≤ 300
  · obtain ⟨n, hn⟩ : ∃ n : Nat, nn = (n : Int) := ⟨nn.toNat, by omega⟩
    subst hn
    obtain ⟨hF, hG⟩ := nmF_cc (w := σ 247) hw.1
    refine Wd_mono (k_eve R hf ⟨ok.1.2, by omega⟩) (fun x σ1 hx => ?_)
    obtain ⟨j, hj, ⟨f1, f2, f3⟩, hd⟩ := hx
    have H1 : NmR (nmF (σ 247) 0 (σ 244 2).toNat) (nmF (σ 247) 6 (σ 244 3).toNat) σ1 := by
      refine NmR_c (σ := σ) (f1 247 (by omega)) (fun k _ => by rw [f1 244 (by omega)]) ⟨?_, ?_, ?_⟩
      · rw [cb0]; exact hw.1
      · rw [cb0, wb0]
      · rw [cb0, wb0]
    have mp := m_eve (σ := σ1) (B := σ 3) (n := n) (cE := σ 244) (fl := fl) hF hG (by rw [f1 239 (by omega)]; exact hf) ⟨ok.1.2, by omega⟩ (fun k hk => by rw [f1 243 (by omega)]; exact ⟨(t3 k (by omega)).1.symm, (t3 k (by omega)).2⟩) H1
    refine Wd_mono mp (fun y σ2 hy => ?_)
    obtain ⟨i, hi, ⟨g1, g2, g3, g4, g5⟩, hd2⟩ := hy
    have e := eX_same hj.1 hj.2 hi.1 hi.2
    subst e
    have px := eX_ok (B := σ 3) (n := n) (X := e0E (σ 244)) hF hG (e0E_I _ _ _) j
    have px := fun h => (px h hj.1).1
    have ng : ∀ h : (eX (σ 3) n (nmF (σ 247) 0 (σ 244 2).toNat) (nmF (σ 247) 6 (σ 244 3).toNat) (e0E (σ 244)) j).1.2.1 = 0, (eX (σ 3) n (nmF (σ 247) 0 (σ 244 2).toNat) (nmF (σ 247) 6 (σ 244 3).toNat) (e0E (σ 244)) j).2.2.1 = 0 := fun h => by
      by_cases q : (eX (σ 3) n (nmF (σ 247) 0 (σ 244 2).toNat) (nmF (σ 247) 6 (σ 244 3).toNat) (e0E (σ 244)) j).2.2.1 = 0
      · exact q
      · exact absurd ⟨h, fun z => q z.2⟩ hj.2
    generalize eX (σ 3) n (nmF (σ 247) 0 (σ 244 2).toNat) (nmF (σ 247) 6 (σ 244 3).toNat) (e0E (σ 244)) j = Y at *
    have vs : 0 ≤ σ 48 14 ∧ σ 48 14 ≤ V := R.2.2.2.1.1
    have o : ∀ a, ¬ (a = 0 ∨ a = 2 ∨ (10 ≤ a ∧ a ≤ 16) ∨ (77 ≤ a ∧ a ≤ 85) ∨ a = 239 ∨ a = 244) → σ2 a = σ a := fun a ha => by rw [g1 a (by omega) (by omega), f1 a (by omega)]
    have o' : ∀ a, ¬ (a = 0 ∨ a = 2 ∨ (6 ≤ a ∧ a ≤ 34) ∨ (47 ≤ a ∧ a ≤ 85) ∨ a = 239 ∨ a = 244 ∨ a = 247) → σ2 a = σ a := fun a ha => o a (by omega)
    have o0 : ∀ k, k ≠ 11 → k ≠ 12 → k ≠ 13 → σ2 0 k = σ 0 k := fun k h1 h2 h3 => by rw [g1 0 (by omega) (by omega)]; exact f2 k h1 h2 h3
    have o9 : ∀ k, k = 2 ∨ k = 3 ∨ k = 24 ∨ k = 36 → σ2 239 k = σ 239 k := fun k hk => by rw [g2 k hk, f1 239 (by omega)]
    have o4 : ∀ k, 408 ≤ k → k < 1632 → σ2 244 k = σ 244 k := fun k h1 h2 => by rw [g5 k h1 h2, f1 244 (by omega)]
    have l4 : ∀ k, k < 136 → σ2 244 k = σ 244 k := fun k h1 => by rw [g4 k h1, f1 244 (by omega)]
    have o7 : σ2 247 = σ 247 := o 247 (by omega)
    have o21 : σ2 2 1 = 0 := by rw [g1 2 (by omega) (by omega)]; exact f3
    have o48 : 0 ≤ σ2 48 14 ∧ σ2 48 14 ≤ V := by rw [o 48 (by omega)]; exact vs
    have snd : sndE (σ 244) (σ2 244) := fun k h1 h2 => l4 k (by omega)
    have K2 := StK_e hw.1 R.2.1 (σ' := σ2) (fun a h1 h2 => o a (by omega)) (by rw [o 6 (by omega)]) snd
    rcases hd with ⟨q, x1, x2, x3, x4, x5⟩ | ⟨q, x1, x2, x3, x4, x5, x6, x7⟩
    · rcases hd2 with ⟨_, y1, y2, y3, y4, y5⟩ | ⟨q2, _⟩
      · refine ⟨by rw [x1, y1], Rel_p R (Int.le_refl _) o' o0 o9 ?_ ?_ ?_ o21 g3 o4 (fun k _ _ => by rw [o7]) ?_ K2 o48⟩
        · rw [g1 0 (by omega) (by omega), x2, y2]
        · rw [g1 0 (by omega) (by omega), x3, y3]
        · rw [g1 0 (by omega) (by omega), x4, y4]
        · have z6 : ∀ a, 6 ≤ a → a < 35 → σ2 a = σ a := fun a h1 h2 => by
            by_cases z : 10 ≤ a ∧ a ≤ 16
            · rw [g1 a (by omega) (by omega)]; exact x5 a z.1 z.2
            · exact o a (by omega)
          rw [o7]
          refine PkW_kk (fun k hk => ?_) (PkW_c0 (σ' := σ2) (fun x h1 h2 => z6 x (by omega) (by omega)) R.1)
          rw [y5 k hk, f1 244 (by omega)]
      · exact absurd q2 q
    · rcases hd2 with ⟨q2, _⟩ | ⟨_, y1, y2, y3, y4, y6, y7, y8⟩
      · exact absurd q q2
      · obtain ⟨i1, i2, i3, i4, i5⟩ := px q
        have d0 := ng q
        refine ⟨by rw [x1, y1], Rel_p R (Int.le_refl _) o' o0 o9 ?_ ?_ ?_ o21 g3 o4 (fun k _ _ => by rw [o7]) ?_ K2 o48⟩
        · rw [g1 0 (by omega) (by omega), x2, y2]
        · rw [g1 0 (by omega) (by omega), x3, y3]
        · rw [g1 0 (by omega) (by omega), x4, y4]
        · rw [o7]
          have P2 : PkS σ2 6 (σ 244) (σ 247) := PkS_new (σ := σ) (fun k _ => by rw [o 6 (by omega)]) (o 7 (by omega)) (fun t ht => by have := hw.1.2.2.1; exact o _ (by omega)) (fun b hb => by have := hw.1.2.2.2.1; exact ⟨o _ (by omega), o _ (by omega)⟩) R.1.1
          have e10 : ∀ x, 10 ≤ x → x ≤ 16 → σ2 x = σ1 x := fun x h1 h2 => g1 x (by omega) (by omega)
          have c2 : σ2 244 2 = σ 244 2 := l4 2 (by omega)
          have c3 : σ2 244 3 = σ 244 3 := l4 3 (by omega)
          have k0 : ∀ i, i < Y.2.1 → σ2 244 (138 + 9 * i) = Y.2.2.2.2.1 (138 + 9 * i) := fun i hi => (y8 i hi).1.1
          refine ⟨PkS_k hw l4 P2, ⟨?_, ?_, fun i hi => ?_⟩, WB_k hw l4, WQ_k hw.1 l4 R.1.2.2.2.1, ⟨Or.inr y6, by rw [y7]; omega, fun i hi => ?_, ?_⟩, by rw [l4 7 (by omega)]; exact R.1.2.2.2.2.2⟩
          · rw [e10 (6 + 4) (by omega) (by omega), y6]; exact x5
          · rw [e10 (6 + 4) (by omega) (by omega), y7]; exact x6
          · rw [y7] at hi
            have hi : i < Y.2.1 := by omega
            have E := x7 i hi
            have E : EvS σ2 10 Y.2.2.2.2.1 i := EvS_cc (by rw [e10 (10 + 1) (by omega) (by omega)]) (by rw [e10 (10 + 2) (by omega) (by omega)]) (by rw [e10 (10 + 3) (by omega) (by omega)]) (by rw [e10 (10 + 4) (by omega) (by omega)]) (by rw [e10 (10 + 5) (by omega) (by omega)]) (by rw [e10 (10 + 6) (by omega) (by omega)]) (fun _ _ _ => rfl) E
            exact EvS_A (y8 i hi).1 (y8 i hi).2 E
          · rw [y7] at hi
            have hi : i < Y.2.1 := by omega
            refine WfS_A y7 (y8 i hi).1 (y8 i hi).2 ?_
            rw [c2, c3]
            exact i3 i hi
          · rw [y7]
            refine NB_dp (c := σ2 244) (dp := Y.2.2.2.2.2) (m := (Y.2.1 : Int)) (fun i hi hb => ?_) (fun j hj hb i h1 h2 => ?_) 3 0 _ (Int.le_refl _) (by omega) (fun j _ _ _ => by omega)
            · have hi : i < Y.2.1 := by omega
              rw [k0 i hi] at hb
              rw [(y8 i hi).2]
              exact ⟨i4 i hi hb, (i3 i hi).2.1.2⟩
            · have hj : j < Y.2.1 := by omega
              rw [k0 j hj] at hb
              rw [(y8 j hj).2] at h2
              exact i5 j hj hb (fun t ht => by rw [d0] at ht; omega) i h1 h2
  · refine op_n R (Int.le_refl _) (-1) 5 ?_ ?_
    · rw [hf] at t1
      by_cases g1 : nn < 0
      · try simp (disch := omega) only [w_iff, iffM_t, iffM_f, iffM_d, iffM_nd, iffM_0, iffM_ite, Wd_iffM, iffM_v, w_tern, ternM_t, ternM_f, ternM_d, ternM_nd, ternM_0, ternM_ite, Wd_ternM, ternM_v, w_sw, swX_1, Wd_swX, Bool.not_true, Bool.not_false, F_X11_evenings, B_X11_evenings, sh_0, sh_1, sh_2, sh_3, sh_4, sh_5, sh_6, sh_7, sh_8, sh_9, sh_10, sh_35, sh_46, sh_47, sh_48, sh_77, sh_86, sh_87, sh_116, sh_127, sh_128, sh_138, sh_142, sh_143, rf_0_0, rf_0_1, rf_0_2, rf_0_3, rf_0_4, rf_0_5, rf_0_6, rf_0_7, rf_0_8, rf_5_0, rf_5_1, rf_5_2, rf_6_8, rf_6_10, rf_6_12, rf_6_13, rf_86_0, rf_86_1, rf_86_2, rf_2_0, rf_2_4, rf_47_0, rf_47_1, rf_77_0, rf_77_1, rf_77_2, rf_77_3, rf_128_0, rf_128_1, rf_128_2, rf_128_3, rf_128_4, rf_128_5, rf_128_6, rf_128_7, N_rt, N_rb, N_rg, N_t, N_b, N_g, N_q, N_qr, N_qn, N_ql, N_m, t1, g1, ev_c_no, Wd_some, Wd_bn, Wd_sqM, Wd_outV, Wd_blkM, Wd_swM, Wd_ite, Wd_map, v_kS_0, v_kS_b, v_kS_r, v_kO_r, v_kW_0, v_kW_1, v_kW_2, v_kW_r, v_kL_0, v_kL_1, v_kL_2, v_kL_r, v_kU_0, ups_11, upsN, upsA, upA_same, upA_neA, fl_at, fl_neA, v_sq_eq, v_sqM_0, v_sqM_r, v_sqM_b, v_sqM_n, sqM_ite, v_asI, v_asR, v_inc, v_pfI, v_pfZ, v_pfO, v_paI, v_paO, v_exI,  v_rtI, v_rtZ, v_rtV, v_sk, v_brk, v_cnt, v_blk_eq, v_blkM_some, blkM_ite, v_lI, v_lR, v_cI, v_gI, v_gR, v_op1, v_op2, v_arI, v_arR, v_alen,  v_cmp1, v_cmp2, v_cAnd, v_cOr, v_cNot, v_cTern, v_bn_some, bn_ite, v_bn_none, v_outV_r, v_outV_0, v_outV_n, outV_ite, List.getD_cons_zero, List.getD_cons_succ, List.set_cons_zero, List.set_cons_succ, List.take_succ_cons, List.take_zero, List.drop_succ_cons, List.drop_zero, List.nil_append, List.cons_append, Option.map_some, Option.map_none, if_true, if_false, ↓reduceIte, reduceCtorEq, decide_eq_true_eq, Bool.not_eq_true', decide_eq_false_iff_not, decide_eq_true, decide_eq_false, decide_true, decide_false, and_self, and_true, true_and, or_self, stO, v_caV_, v_caV_i, v_caV_ii, v_caV_iii, v_caV_iiii, v_caV_iiiii, v_caV_il, v_caV_iil, v_caV_l, v_caV_ll, v_caV_r, v_caV_ri, v_caV_rii, v_caV_riii, v_caV_riiii, v_caV_ir, v_caV_iri, v_caV_iiri, v_caS_i, v_caS_ii, v_caS_iii, v_caS_iiii, v_caS_iiiiii, v_caS_il, v_caS_li, v_caS_ll, v_caS_lll, v_caS_ri, v_caS_riii, sh_239, sh_240, sh_241, sh_242, sh_243, sh_244, sh_245, sh_246, sh_247, sh_248, sh_249, sh_250, sh_251, sh_252, sh_253, rf_239_4, rf_239_5, rf_239_6, rf_239_7, rf_239_20, rf_239_21, rf_239_22, rf_239_23, rf_239_27, rf_239_28, rf_239_32, rf_239_33, rf_239_34, rf_239_35, Int.reduceLE, Int.reduceLT, Int.reduceToNat, Int.reduceAdd, Int.reduceSub, Int.reduceMul, Int.reduceNeg, Int.reduceEq, Int.reduceNe, Nat.reduceAdd, Nat.reduceMul, Nat.reduceLT, Nat.reduceEqDiff, or_true, true_or, or_false, false_or, and_false, false_and, not_true_eq_false, not_false_eq_true, ne_eq, cN4, cN5, cN6, cN7, cN13, cN30, cN60, cN64, cN100, cN136, cN240, cN384, cN900, cN2040, cN3,  v_swM_0, v_swM_1, v_swM_r, v_swM_n, swM_ite, app_ite, ex_some, bI_0, bI_1, nn_iff, Int.toNat_natCast, Int.toNat_of_nonneg, Int.natCast_add, cN1, wI_id2, wL_id2, ↓if_pos, ↓if_neg, if_pos, if_neg]
        exact CQ_fin hw.1 (CF_r _) R.2.1 R.2.2.1
      · by_cases g2 : fl < nn
        · try simp (disch := omega) only [w_iff, iffM_t, iffM_f, iffM_d, iffM_nd, iffM_0, iffM_ite, Wd_iffM, iffM_v, w_tern, ternM_t, ternM_f, ternM_d, ternM_nd, ternM_0, ternM_ite, Wd_ternM, ternM_v, w_sw, swX_1, Wd_swX, Bool.not_true, Bool.not_false, F_X11_evenings, B_X11_evenings, sh_0, sh_1, sh_2, sh_3, sh_4, sh_5, sh_6, sh_7, sh_8, sh_9, sh_10, sh_35, sh_46, sh_47, sh_48, sh_77, sh_86, sh_87, sh_116, sh_127, sh_128, sh_138, sh_142, sh_143, rf_0_0, rf_0_1, rf_0_2, rf_0_3, rf_0_4, rf_0_5, rf_0_6, rf_0_7, rf_0_8, rf_5_0, rf_5_1, rf_5_2, rf_6_8, rf_6_10, rf_6_12, rf_6_13, rf_86_0, rf_86_1, rf_86_2, rf_2_0, rf_2_4, rf_47_0, rf_47_1, rf_77_0, rf_77_1, rf_77_2, rf_77_3, rf_128_0, rf_128_1, rf_128_2, rf_128_3, rf_128_4, rf_128_5, rf_128_6, rf_128_7, N_rt, N_rb, N_rg, N_t, N_b, N_g, N_q, N_qr, N_qn, N_ql, N_m, t1, g1, g2, ev_c_no, Wd_some, Wd_bn, Wd_sqM, Wd_outV, Wd_blkM, Wd_swM, Wd_ite, Wd_map, v_kS_0, v_kS_b, v_kS_r, v_kO_r, v_kW_0, v_kW_1, v_kW_2, v_kW_r, v_kL_0, v_kL_1, v_kL_2, v_kL_r, v_kU_0, ups_11, upsN, upsA, upA_same, upA_neA, fl_at, fl_neA, v_sq_eq, v_sqM_0, v_sqM_r, v_sqM_b, v_sqM_n, sqM_ite, v_asI, v_asR, v_inc, v_pfI, v_pfZ, v_pfO, v_paI, v_paO, v_exI,  v_rtI, v_rtZ, v_rtV, v_sk, v_brk, v_cnt, v_blk_eq, v_blkM_some, blkM_ite, v_lI, v_lR, v_cI, v_gI, v_gR, v_op1, v_op2, v_arI, v_arR, v_alen,  v_cmp1, v_cmp2, v_cAnd, v_cOr, v_cNot, v_cTern, v_bn_some, bn_ite, v_bn_none, v_outV_r, v_outV_0, v_outV_n, outV_ite, List.getD_cons_zero, List.getD_cons_succ, List.set_cons_zero, List.set_cons_succ, List.take_succ_cons, List.take_zero, List.drop_succ_cons, List.drop_zero, List.nil_append, List.cons_append, Option.map_some, Option.map_none, if_true, if_false, ↓reduceIte, reduceCtorEq, decide_eq_true_eq, Bool.not_eq_true', decide_eq_false_iff_not, decide_eq_true, decide_eq_false, decide_true, decide_false, and_self, and_true, true_and, or_self, stO, v_caV_, v_caV_i, v_caV_ii, v_caV_iii, v_caV_iiii, v_caV_iiiii, v_caV_il, v_caV_iil, v_caV_l, v_caV_ll, v_caV_r, v_caV_ri, v_caV_rii, v_caV_riii, v_caV_riiii, v_caV_ir, v_caV_iri, v_caV_iiri, v_caS_i, v_caS_ii, v_caS_iii, v_caS_iiii, v_caS_iiiiii, v_caS_il, v_caS_li, v_caS_ll, v_caS_lll, v_caS_ri, v_caS_riii, sh_239, sh_240, sh_241, sh_242, sh_243, sh_244, sh_245, sh_246, sh_247, sh_248, sh_249, sh_250, sh_251, sh_252, sh_253, rf_239_4, rf_239_5, rf_239_6, rf_239_7, rf_239_20, rf_239_21, rf_239_22, rf_239_23, rf_239_27, rf_239_28, rf_239_32, rf_239_33, rf_239_34, rf_239_35, Int.reduceLE, Int.reduceLT, Int.reduceToNat, Int.reduceAdd, Int.reduceSub, Int.reduceMul, Int.reduceNeg, Int.reduceEq, Int.reduceNe, Nat.reduceAdd, Nat.reduceMul, Nat.reduceLT, Nat.reduceEqDiff, or_true, true_or, or_false, false_or, and_false, false_and, not_true_eq_false, not_false_eq_true, ne_eq, cN4, cN5, cN6, cN7, cN13, cN30, cN60, cN64, cN100, cN136, cN240, cN384, cN900, cN2040, cN3,  v_swM_0, v_swM_1, v_swM_r, v_swM_n, swM_ite, app_ite, ex_some, bI_0, bI_1, nn_iff, Int.toNat_natCast, Int.toNat_of_nonneg, Int.natCast_add, cN1, wI_id2, wL_id2, ↓if_pos, ↓if_neg, if_pos, if_neg]
          exact CQ_fin hw.1 (CF_r _) R.2.1 R.2.2.1
        · have g3 : (300 : Int) < nn := by omega
          try simp (disch := omega) only [w_iff, iffM_t, iffM_f, iffM_d, iffM_nd, iffM_0, iffM_ite, Wd_iffM, iffM_v, w_tern, ternM_t, ternM_f, ternM_d, ternM_nd, ternM_0, ternM_ite, Wd_ternM, ternM_v, w_sw, swX_1, Wd_swX, Bool.not_true, Bool.not_false, F_X11_evenings, B_X11_evenings, sh_0, sh_1, sh_2, sh_3, sh_4, sh_5, sh_6, sh_7, sh_8, sh_9, sh_10, sh_35, sh_46, sh_47, sh_48, sh_77, sh_86, sh_87, sh_116, sh_127, sh_128, sh_138, sh_142, sh_143, rf_0_0, rf_0_1, rf_0_2, rf_0_3, rf_0_4, rf_0_5, rf_0_6, rf_0_7, rf_0_8, rf_5_0, rf_5_1, rf_5_2, rf_6_8, rf_6_10, rf_6_12, rf_6_13, rf_86_0, rf_86_1, rf_86_2, rf_2_0, rf_2_4, rf_47_0, rf_47_1, rf_77_0, rf_77_1, rf_77_2, rf_77_3, rf_128_0, rf_128_1, rf_128_2, rf_128_3, rf_128_4, rf_128_5, rf_128_6, rf_128_7, N_rt, N_rb, N_rg, N_t, N_b, N_g, N_q, N_qr, N_qn, N_ql, N_m, t1, g1, g2, g3, ev_c_no, Wd_some, Wd_bn, Wd_sqM, Wd_outV, Wd_blkM, Wd_swM, Wd_ite, Wd_map, v_kS_0, v_kS_b, v_kS_r, v_kO_r, v_kW_0, v_kW_1, v_kW_2, v_kW_r, v_kL_0, v_kL_1, v_kL_2, v_kL_r, v_kU_0, ups_11, upsN, upsA, upA_same, upA_neA, fl_at, fl_neA, v_sq_eq, v_sqM_0, v_sqM_r, v_sqM_b, v_sqM_n, sqM_ite, v_asI, v_asR, v_inc, v_pfI, v_pfZ, v_pfO, v_paI, v_paO, v_exI,  v_rtI, v_rtZ, v_rtV, v_sk, v_brk, v_cnt, v_blk_eq, v_blkM_some, blkM_ite, v_lI, v_lR, v_cI, v_gI, v_gR, v_op1, v_op2, v_arI, v_arR, v_alen,  v_cmp1, v_cmp2, v_cAnd, v_cOr, v_cNot, v_cTern, v_bn_some, bn_ite, v_bn_none, v_outV_r, v_outV_0, v_outV_n, outV_ite, List.getD_cons_zero, List.getD_cons_succ, List.set_cons_zero, List.set_cons_succ, List.take_succ_cons, List.take_zero, List.drop_succ_cons, List.drop_zero, List.nil_append, List.cons_append, Option.map_some, Option.map_none, if_true, if_false, ↓reduceIte, reduceCtorEq, decide_eq_true_eq, Bool.not_eq_true', decide_eq_false_iff_not, decide_eq_true, decide_eq_false, decide_true, decide_false, and_self, and_true, true_and, or_self, stO, v_caV_, v_caV_i, v_caV_ii, v_caV_iii, v_caV_iiii, v_caV_iiiii, v_caV_il, v_caV_iil, v_caV_l, v_caV_ll, v_caV_r, v_caV_ri, v_caV_rii, v_caV_riii, v_caV_riiii, v_caV_ir, v_caV_iri, v_caV_iiri, v_caS_i, v_caS_ii, v_caS_iii, v_caS_iiii, v_caS_iiiiii, v_caS_il, v_caS_li, v_caS_ll, v_caS_lll, v_caS_ri, v_caS_riii, sh_239, sh_240, sh_241, sh_242, sh_243, sh_244, sh_245, sh_246, sh_247, sh_248, sh_249, sh_250, sh_251, sh_252, sh_253, rf_239_4, rf_239_5, rf_239_6, rf_239_7, rf_239_20, rf_239_21, rf_239_22, rf_239_23, rf_239_27, rf_239_28, rf_239_32, rf_239_33, rf_239_34, rf_239_35, Int.reduceLE, Int.reduceLT, Int.reduceToNat, Int.reduceAdd, Int.reduceSub, Int.reduceMul, Int.reduceNeg, Int.reduceEq, Int.reduceNe, Nat.reduceAdd, Nat.reduceMul, Nat.reduceLT, Nat.reduceEqDiff, or_true, true_or, or_false, false_or, and_false, false_and, not_true_eq_false, not_false_eq_true, ne_eq, cN4, cN5, cN6, cN7, cN13, cN30, cN60, cN64, cN100, cN136, cN240, cN384, cN900, cN2040, cN3,  v_swM_0, v_swM_1, v_swM_r, v_swM_n, swM_ite, app_ite, ex_some, bI_0, bI_1, nn_iff, Int.toNat_natCast, Int.toNat_of_nonneg, Int.natCast_add, cN1, wI_id2, wL_id2, ↓if_pos, ↓if_neg, if_pos, if_neg]
          exact CQ_fin hw.1 (CF_r _) R.2.1 R.2.2.1
    · intro σ1 e4 e9
      have st := m_starts_no (σ := ups (ups σ1 239 1 0) 239 0 0) (nn := nn) (fl := fl) (hi := 300) (by try simp (disch := omega) only [ups_11, upsN, upsA, upA_same, upA_neA, fl_at, fl_neA]; rw [e9]; exact hf) (by omega)
      try simp (disch := omega) only [w_iff, iffM_t, iffM_f, iffM_d, iffM_nd, iffM_0, iffM_ite, Wd_iffM, iffM_v, w_tern, ternM_t, ternM_f, ternM_d, ternM_nd, ternM_0, ternM_ite, Wd_ternM, ternM_v, w_sw, swX_1, Wd_swX, Bool.not_true, Bool.not_false, F_X12_evenings, B_X12_evenings, st, Wd_some, Wd_bn, Wd_sqM, Wd_outV, Wd_blkM, Wd_swM, Wd_ite, Wd_map, v_kS_0, v_kS_b, v_kS_r, v_kO_r, v_kW_0, v_kW_1, v_kW_2, v_kW_r, v_kL_0, v_kL_1, v_kL_2, v_kL_r, v_kU_0, ups_11, upsN, upsA, upA_same, upA_neA, fl_at, fl_neA, v_sq_eq, v_sqM_0, v_sqM_r, v_sqM_b, v_sqM_n, sqM_ite, v_asI, v_asR, v_inc, v_pfI, v_pfZ, v_pfO, v_paI, v_paO, v_exI,  v_rtI, v_rtZ, v_rtV, v_sk, v_brk, v_cnt, v_blk_eq, v_blkM_some, blkM_ite, v_lI, v_lR, v_cI, v_gI, v_gR, v_op1, v_op2, v_arI, v_arR, v_alen,  v_cmp1, v_cmp2, v_cAnd, v_cOr, v_cNot, v_cTern, v_bn_some, bn_ite, v_bn_none, v_outV_r, v_outV_0, v_outV_n, outV_ite, List.getD_cons_zero, List.getD_cons_succ, List.set_cons_zero, List.set_cons_succ, List.take_succ_cons, List.take_zero, List.drop_succ_cons, List.drop_zero, List.nil_append, List.cons_append, Option.map_some, Option.map_none, if_true, if_false, ↓reduceIte, reduceCtorEq, decide_eq_true_eq, Bool.not_eq_true', decide_eq_false_iff_not, decide_eq_true, decide_eq_false, decide_true, decide_false, and_self, and_true, true_and, or_self, stO, v_caV_, v_caV_i, v_caV_ii, v_caV_iii, v_caV_iiii, v_caV_iiiii, v_caV_il, v_caV_iil, v_caV_l, v_caV_ll, v_caV_r, v_caV_ri, v_caV_rii, v_caV_riii, v_caV_riiii, v_caV_ir, v_caV_iri, v_caV_iiri, v_caS_i, v_caS_ii, v_caS_iii, v_caS_iiii, v_caS_iiiiii, v_caS_il, v_caS_li, v_caS_ll, v_caS_lll, v_caS_ri, v_caS_riii, sh_239, sh_240, sh_241, sh_242, sh_243, sh_244, sh_245, sh_246, sh_247, sh_248, sh_249, sh_250, sh_251, sh_252, sh_253, rf_239_4, rf_239_5, rf_239_6, rf_239_7, rf_239_20, rf_239_21, rf_239_22, rf_239_23, rf_239_27, rf_239_28, rf_239_32, rf_239_33, rf_239_34, rf_239_35, Int.reduceLE, Int.reduceLT, Int.reduceToNat, Int.reduceAdd, Int.reduceSub, Int.reduceMul, Int.reduceNeg, Int.reduceEq, Int.reduceNe, Nat.reduceAdd, Nat.reduceMul, Nat.reduceLT, Nat.reduceEqDiff, or_true, true_or, or_false, false_or, and_false, false_and, not_true_eq_false, not_false_eq_true, ne_eq, cN4, cN5, cN6, cN7, cN13, cN30, cN60, cN64, cN100, cN136, cN240, cN384, cN900, cN2040, cN3,  v_swM_0, v_swM_1, v_swM_r, v_swM_n, swM_ite, app_ite, ex_some, bI_0, bI_1, nn_iff, Int.toNat_natCast, Int.toNat_of_nonneg, Int.natCast_add, cN1, wI_id2, wL_id2, ↓if_pos, ↓if_neg, if_pos, if_neg]
      exact MQ_fin (fun a ha => by try simp (disch := omega) only [nowM_a, ups_11, upsN, upsA, upA_same, upA_neA, fl_at, fl_neA]) (fun k hk => by try simp (disch := omega) only [nowM_f, ups_11, upsN, upsA, upA_same, upA_neA, fl_at, fl_neA]) (by try simp (disch := omega) only [nowM_f, ups_11, upsN, upsA, upA_same, upA_neA, fl_at, fl_neA]) e9
end FH
