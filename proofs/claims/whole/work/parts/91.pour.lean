/-! pour -/
section PR
variable {σ : SS} {V : Int}
/-- what is poured so far: from lo up to hi -/
def pouR (f : Nat → Int) (src dst lo hi : Nat) : Nat → Int := fun q => if lo ≤ q ∧ q < hi then f (src + (q - dst)) else f q
set_option maxHeartbeats 8000000 in
theorem ml_pour {s d i j m : Nat} (s4 : s < 4) (d4 : d < 4) (hi : i + m ≤ 60) (hj : j + m ≤ 60) {rs : Int} (hr : rs = if i < j then 1 else 0) : Wd (L_X12_pour_0 ([0, (s : Int), (i : Int), (d : Int), (j : Int), (m : Int), rs, 0, 0], [239, 0, 0, 0, 0, 0, 0, 0, 0], σ)) (fun o z => o = .inl 0 ∧ z = ([0, (s : Int), (i : Int), (d : Int), (j : Int), (m : Int), rs, (m : Int), 0], [239, 0, 0, 0, 0, 0, 0, 0, 0], upA σ 242 (pouR (σ 242) (60 * s + i) (60 * d + j) (60 * d + j) (60 * d + j + m)))) := by
  unfold L_X12_pour_0
  by_cases g : i < j
  · rw [if_pos g] at hr
    subst hr
    refine Wd_it (fun k z => z = ([0, (s : Int), (i : Int), (d : Int), (j : Int), (m : Int), 1, (k : Int), 0], [239, 0, 0, 0, 0, 0, 0, 0, 0], upA σ 242 (pouR (σ 242) (60 * s + i) (60 * d + j) (60 * d + j + (m - k)) (60 * d + j + m)))) m ?_ ?_ ?_
    · have e : pouR (σ 242) (60 * s + i) (60 * d + j) (60 * d + j + (m - 0)) (60 * d + j + m) = σ 242 := by
        funext q
        unfold pouR
        rw [if_neg (by omega)]
      rw [e, upA_id]
      rfl
    · intro k z hk hz
      subst hz
      have ix : (60 * (d : Int) + (j : Int) + ((m : Int) - 1 - (k : Int))).toNat = 60 * d + j + (m - 1 - k) := by omega
      have ix2 : (60 * (s : Int) + (i : Int) + ((m : Int) - 1 - (k : Int))).toNat = 60 * s + i + (m - 1 - k) := by omega
      have km : (k : Int) < m := by omega
      have rd : pouR (σ 242) (60 * s + i) (60 * d + j) (60 * d + j + (m - k)) (60 * d + j + m) (60 * s + i + (m - 1 - k)) = σ 242 (60 * s + i + (m - 1 - k)) := by
        unfold pouR
        rw [if_neg (by omega)]
      have st : upc (pouR (σ 242) (60 * s + i) (60 * d + j) (60 * d + j + (m - k)) (60 * d + j + m)) (60 * d + j + (m - 1 - k)) (σ 242 (60 * s + i + (m - 1 - k))) = pouR (σ 242) (60 * s + i) (60 * d + j) (60 * d + j + (m - (k + 1))) (60 * d + j + m) := by
        funext q
        unfold upc pouR
        by_cases e : q = 60 * d + j + (m - 1 - k)
        · subst e
          rw [if_pos rfl, if_pos (by omega)]
          congr 1
          omega
        · rw [if_neg e]
          by_cases e2 : 60 * d + j + (m - k) ≤ q ∧ q < 60 * d + j + m
          · rw [if_pos e2, if_pos (by omega)]
          · rw [if_neg e2, if_neg (by omega)]
      try simp (disch := omega) only [w_iff, iffM_t, iffM_f, iffM_d, iffM_nd, iffM_0, iffM_ite, Wd_iffM, iffM_v, w_tern, ternM_t, ternM_f, ternM_d, ternM_nd, ternM_0, ternM_ite, Wd_ternM, ternM_v, w_sw, swX_1, Wd_swX, Bool.not_true, Bool.not_false, C_X12_pour_0, D_X12_pour_0, U_X12_pour_0, ix, ix2, rd, Wd_some, Wd_bn, Wd_sqM, Wd_outV, Wd_blkM, Wd_swM, Wd_ite, Wd_map, v_kS_0, v_kS_b, v_kS_r, v_kO_r, v_kW_0, v_kW_1, v_kW_2, v_kW_r, v_kL_0, v_kL_1, v_kL_2, v_kL_r, v_kU_0, ups_11, upsN, upsA, upA_same, upA_neA, fl_at, fl_neA, v_sq_eq, v_sqM_0, v_sqM_r, v_sqM_b, v_sqM_n, sqM_ite, v_asI, v_asR, v_inc, v_pfI, v_pfZ, v_pfO, v_paI, v_paO, v_exI,  v_rtI, v_rtZ, v_rtV, v_sk, v_brk, v_cnt, v_blk_eq, v_blkM_some, blkM_ite, v_lI, v_lR, v_cI, v_gI, v_gR, v_op1, v_op2, v_arI, v_arR, v_alen,  v_cmp1, v_cmp2, v_cAnd, v_cOr, v_cNot, v_cTern, v_bn_some, bn_ite, v_bn_none, v_outV_r, v_outV_0, v_outV_n, outV_ite, List.getD_cons_zero, List.getD_cons_succ, List.set_cons_zero, List.set_cons_succ, List.take_succ_cons, List.take_zero, List.drop_succ_cons, List.drop_zero, List.nil_append, List.cons_append, Option.map_some, Option.map_none, if_true, if_false, ↓reduceIte, reduceCtorEq, decide_eq_true_eq, Bool.not_eq_true', decide_eq_false_iff_not, decide_eq_true, decide_eq_false, decide_true, decide_false, and_self, and_true, true_and, or_self, stO, v_caV_, v_caV_i, v_caV_ii, v_caV_iii, v_caV_iiii, v_caV_iiiii, v_caV_il, v_caV_iil, v_caV_l, v_caV_ll, v_caV_r, v_caV_ri, v_caV_rii, v_caV_riii, v_caV_riiii, v_caV_ir, v_caV_iri, v_caV_iiri, v_caS_i, v_caS_ii, v_caS_iii, v_caS_iiii, v_caS_iiiiii, v_caS_il, v_caS_li, v_caS_ll, v_caS_lll, v_caS_ri, v_caS_riii, sh_239, sh_240, sh_241, sh_242, sh_243, sh_244, sh_245, sh_246, sh_247, sh_248, sh_249, sh_250, sh_251, sh_252, sh_253, rf_239_4, rf_239_5, rf_239_6, rf_239_7, rf_239_20, rf_239_21, rf_239_22, rf_239_23, rf_239_27, rf_239_28, rf_239_32, rf_239_33, rf_239_34, rf_239_35, Int.reduceLE, Int.reduceLT, Int.reduceToNat, Int.reduceAdd, Int.reduceSub, Int.reduceMul, Int.reduceNeg, Int.reduceEq, Int.reduceNe, Nat.reduceAdd, Nat.reduceMul, Nat.reduceLT, Nat.reduceEqDiff, or_true, true_or, or_false, false_or, and_false, false_and, not_true_eq_false, not_false_eq_true, ne_eq, cN4, cN5, cN6, cN7, cN13, cN30, cN60, cN64, cN100, cN136, cN240, cN384, cN900, cN2040, cN3,  v_swM_0, v_swM_1, v_swM_r, v_swM_n, swM_ite, app_ite, ex_some, bI_0, bI_1, nn_iff, Int.toNat_natCast, Int.toNat_of_nonneg, Int.natCast_add, cN1, wI_id2, wL_id2, ↓if_pos, ↓if_neg, if_pos, if_neg]
      rw [upA_ups, st]
    · intro z hz
      subst hz
      rw [Nat.sub_self, Nat.add_zero]
      try simp (disch := omega) only [w_iff, iffM_t, iffM_f, iffM_d, iffM_nd, iffM_0, iffM_ite, Wd_iffM, iffM_v, w_tern, ternM_t, ternM_f, ternM_d, ternM_nd, ternM_0, ternM_ite, Wd_ternM, ternM_v, w_sw, swX_1, Wd_swX, Bool.not_true, Bool.not_false, C_X12_pour_0, D_X12_pour_0, U_X12_pour_0, Wd_some, Wd_bn, Wd_sqM, Wd_outV, Wd_blkM, Wd_swM, Wd_ite, Wd_map, v_kS_0, v_kS_b, v_kS_r, v_kO_r, v_kW_0, v_kW_1, v_kW_2, v_kW_r, v_kL_0, v_kL_1, v_kL_2, v_kL_r, v_kU_0, ups_11, upsN, upsA, upA_same, upA_neA, fl_at, fl_neA, v_sq_eq, v_sqM_0, v_sqM_r, v_sqM_b, v_sqM_n, sqM_ite, v_asI, v_asR, v_inc, v_pfI, v_pfZ, v_pfO, v_paI, v_paO, v_exI,  v_rtI, v_rtZ, v_rtV, v_sk, v_brk, v_cnt, v_blk_eq, v_blkM_some, blkM_ite, v_lI, v_lR, v_cI, v_gI, v_gR, v_op1, v_op2, v_arI, v_arR, v_alen,  v_cmp1, v_cmp2, v_cAnd, v_cOr, v_cNot, v_cTern, v_bn_some, bn_ite, v_bn_none, v_outV_r, v_outV_0, v_outV_n, outV_ite, List.getD_cons_zero, List.getD_cons_succ, List.set_cons_zero, List.set_cons_succ, List.take_succ_cons, List.take_zero, List.drop_succ_cons, List.drop_zero, List.nil_append, List.cons_append, Option.map_some, Option.map_none, if_true, if_false, ↓reduceIte, reduceCtorEq, decide_eq_true_eq, Bool.not_eq_true', decide_eq_false_iff_not, decide_eq_true, decide_eq_false, decide_true, decide_false, and_self, and_true, true_and, or_self, stO, v_caV_, v_caV_i, v_caV_ii, v_caV_iii, v_caV_iiii, v_caV_iiiii, v_caV_il, v_caV_iil, v_caV_l, v_caV_ll, v_caV_r, v_caV_ri, v_caV_rii, v_caV_riii, v_caV_riiii, v_caV_ir, v_caV_iri, v_caV_iiri, v_caS_i, v_caS_ii, v_caS_iii, v_caS_iiii, v_caS_iiiiii, v_caS_il, v_caS_li, v_caS_ll, v_caS_lll, v_caS_ri, v_caS_riii, sh_239, sh_240, sh_241, sh_242, sh_243, sh_244, sh_245, sh_246, sh_247, sh_248, sh_249, sh_250, sh_251, sh_252, sh_253, rf_239_4, rf_239_5, rf_239_6, rf_239_7, rf_239_20, rf_239_21, rf_239_22, rf_239_23, rf_239_27, rf_239_28, rf_239_32, rf_239_33, rf_239_34, rf_239_35, Int.reduceLE, Int.reduceLT, Int.reduceToNat, Int.reduceAdd, Int.reduceSub, Int.reduceMul, Int.reduceNeg, Int.reduceEq, Int.reduceNe, Nat.reduceAdd, Nat.reduceMul, Nat.reduceLT, Nat.reduceEqDiff, or_true, true_or, or_false, false_or, and_false, false_and, not_true_eq_false, not_false_eq_true, ne_eq, cN4, cN5, cN6, cN7, cN13, cN30, cN60, cN64, cN100, cN136, cN240, cN384, cN900, cN2040, cN3,  v_swM_0, v_swM_1, v_swM_r, v_swM_n, swM_ite, app_ite, ex_some, bI_0, bI_1, nn_iff, Int.toNat_natCast, Int.toNat_of_nonneg, Int.natCast_add, cN1, wI_id2, wL_id2, ↓if_pos, ↓if_neg, if_pos, if_neg]
  · rw [if_neg g] at hr
    subst hr
    refine Wd_it (fun k z => z = ([0, (s : Int), (i : Int), (d : Int), (j : Int), (m : Int), 0, (k : Int), 0], [239, 0, 0, 0, 0, 0, 0, 0, 0], upA σ 242 (pouR (σ 242) (60 * s + i) (60 * d + j) (60 * d + j) (60 * d + j + k)))) m ?_ ?_ ?_
    · have e : pouR (σ 242) (60 * s + i) (60 * d + j) (60 * d + j) (60 * d + j + 0) = σ 242 := by
        funext q
        unfold pouR
        rw [if_neg (by omega)]
      rw [e, upA_id]
      rfl
    · intro k z hk hz
      subst hz
      have ix : (60 * (d : Int) + (j : Int) + (k : Int)).toNat = 60 * d + j + k := by omega
      have ix2 : (60 * (s : Int) + (i : Int) + (k : Int)).toNat = 60 * s + i + k := by omega
      have km : (k : Int) < m := by omega
      have rd : pouR (σ 242) (60 * s + i) (60 * d + j) (60 * d + j) (60 * d + j + k) (60 * s + i + k) = σ 242 (60 * s + i + k) := by
        unfold pouR
        rw [if_neg (by omega)]
      have st : upc (pouR (σ 242) (60 * s + i) (60 * d + j) (60 * d + j) (60 * d + j + k)) (60 * d + j + k) (σ 242 (60 * s + i + k)) = pouR (σ 242) (60 * s + i) (60 * d + j) (60 * d + j) (60 * d + j + (k + 1)) := by
        funext q
        unfold upc pouR
        by_cases e : q = 60 * d + j + k
        · subst e
          rw [if_pos rfl, if_pos (by omega)]
          congr 1
          omega
        · rw [if_neg e]
          by_cases e2 : 60 * d + j ≤ q ∧ q < 60 * d + j + k
          · rw [if_pos e2, if_pos (by omega)]
          · rw [if_neg e2, if_neg (by omega)]
      try simp (disch := omega) only [w_iff, iffM_t, iffM_f, iffM_d, iffM_nd, iffM_0, iffM_ite, Wd_iffM, iffM_v, w_tern, ternM_t, ternM_f, ternM_d, ternM_nd, ternM_0, ternM_ite, Wd_ternM, ternM_v, w_sw, swX_1, Wd_swX, Bool.not_true, Bool.not_false, C_X12_pour_0, D_X12_pour_0, U_X12_pour_0, ix, ix2, rd, Wd_some, Wd_bn, Wd_sqM, Wd_outV, Wd_blkM, Wd_swM, Wd_ite, Wd_map, v_kS_0, v_kS_b, v_kS_r, v_kO_r, v_kW_0, v_kW_1, v_kW_2, v_kW_r, v_kL_0, v_kL_1, v_kL_2, v_kL_r, v_kU_0, ups_11, upsN, upsA, upA_same, upA_neA, fl_at, fl_neA, v_sq_eq, v_sqM_0, v_sqM_r, v_sqM_b, v_sqM_n, sqM_ite, v_asI, v_asR, v_inc, v_pfI, v_pfZ, v_pfO, v_paI, v_paO, v_exI,  v_rtI, v_rtZ, v_rtV, v_sk, v_brk, v_cnt, v_blk_eq, v_blkM_some, blkM_ite, v_lI, v_lR, v_cI, v_gI, v_gR, v_op1, v_op2, v_arI, v_arR, v_alen,  v_cmp1, v_cmp2, v_cAnd, v_cOr, v_cNot, v_cTern, v_bn_some, bn_ite, v_bn_none, v_outV_r, v_outV_0, v_outV_n, outV_ite, List.getD_cons_zero, List.getD_cons_succ, List.set_cons_zero, List.set_cons_succ, List.take_succ_cons, List.take_zero, List.drop_succ_cons, List.drop_zero, List.nil_append, List.cons_append, Option.map_some, Option.map_none, if_true, if_false, ↓reduceIte, reduceCtorEq, decide_eq_true_eq, Bool.not_eq_true', decide_eq_false_iff_not, decide_eq_true, decide_eq_false, decide_true, decide_false, and_self, and_true, true_and, or_self, stO, v_caV_, v_caV_i, v_caV_ii, v_caV_iii, v_caV_iiii, v_caV_iiiii, v_caV_il, v_caV_iil, v_caV_l, v_caV_ll, v_caV_r, v_caV_ri, v_caV_rii, v_caV_riii, v_caV_riiii, v_caV_ir, v_caV_iri, v_caV_iiri, v_caS_i, v_caS_ii, v_caS_iii, v_caS_iiii, v_caS_iiiiii, v_caS_il, v_caS_li, v_caS_ll, v_caS_lll, v_caS_ri, v_caS_riii, sh_239, sh_240, sh_241, sh_242, sh_243, sh_244, sh_245, sh_246, sh_247, sh_248, sh_249, sh_250, sh_251, sh_252, sh_253, rf_239_4, rf_239_5, rf_239_6, rf_239_7, rf_239_20, rf_239_21, rf_239_22, rf_239_23, rf_239_27, rf_239_28, rf_239_32, rf_239_33, rf_239_34, rf_239_35, Int.reduceLE, Int.reduceLT, Int.reduceToNat, Int.reduceAdd, Int.reduceSub, Int.reduceMul, Int.reduceNeg, Int.reduceEq, Int.reduceNe, Nat.reduceAdd, Nat.reduceMul, Nat.reduceLT, Nat.reduceEqDiff, or_true, true_or, or_false, false_or, and_false, false_and, not_true_eq_false, not_false_eq_true, ne_eq, cN4, cN5, cN6, cN7, cN13, cN30, cN60, cN64, cN100, cN136, cN240, cN384, cN900, cN2040, cN3,  v_swM_0, v_swM_1, v_swM_r, v_swM_n, swM_ite, app_ite, ex_some, bI_0, bI_1, nn_iff, Int.toNat_natCast, Int.toNat_of_nonneg, Int.natCast_add, cN1, wI_id2, wL_id2, ↓if_pos, ↓if_neg, if_pos, if_neg]
      rw [upA_ups, st]
    · intro z hz
      subst hz
      try simp (disch := omega) only [w_iff, iffM_t, iffM_f, iffM_d, iffM_nd, iffM_0, iffM_ite, Wd_iffM, iffM_v, w_tern, ternM_t, ternM_f, ternM_d, ternM_nd, ternM_0, ternM_ite, Wd_ternM, ternM_v, w_sw, swX_1, Wd_swX, Bool.not_true, Bool.not_false, C_X12_pour_0, D_X12_pour_0, U_X12_pour_0, Wd_some, Wd_bn, Wd_sqM, Wd_outV, Wd_blkM, Wd_swM, Wd_ite, Wd_map, v_kS_0, v_kS_b, v_kS_r, v_kO_r, v_kW_0, v_kW_1, v_kW_2, v_kW_r, v_kL_0, v_kL_1, v_kL_2, v_kL_r, v_kU_0, ups_11, upsN, upsA, upA_same, upA_neA, fl_at, fl_neA, v_sq_eq, v_sqM_0, v_sqM_r, v_sqM_b, v_sqM_n, sqM_ite, v_asI, v_asR, v_inc, v_pfI, v_pfZ, v_pfO, v_paI, v_paO, v_exI,  v_rtI, v_rtZ, v_rtV, v_sk, v_brk, v_cnt, v_blk_eq, v_blkM_some, blkM_ite, v_lI, v_lR, v_cI, v_gI, v_gR, v_op1, v_op2, v_arI, v_arR, v_alen,  v_cmp1, v_cmp2, v_cAnd, v_cOr, v_cNot, v_cTern, v_bn_some, bn_ite, v_bn_none, v_outV_r, v_outV_0, v_outV_n, outV_ite, List.getD_cons_zero, List.getD_cons_succ, List.set_cons_zero, List.set_cons_succ, List.take_succ_cons, List.take_zero, List.drop_succ_cons, List.drop_zero, List.nil_append, List.cons_append, Option.map_some, Option.map_none, if_true, if_false, ↓reduceIte, reduceCtorEq, decide_eq_true_eq, Bool.not_eq_true', decide_eq_false_iff_not, decide_eq_true, decide_eq_false, decide_true, decide_false, and_self, and_true, true_and, or_self, stO, v_caV_, v_caV_i, v_caV_ii, v_caV_iii, v_caV_iiii, v_caV_iiiii, v_caV_il, v_caV_iil, v_caV_l, v_caV_ll, v_caV_r, v_caV_ri, v_caV_rii, v_caV_riii, v_caV_riiii, v_caV_ir, v_caV_iri, v_caV_iiri, v_caS_i, v_caS_ii, v_caS_iii, v_caS_iiii, v_caS_iiiiii, v_caS_il, v_caS_li, v_caS_ll, v_caS_lll, v_caS_ri, v_caS_riii, sh_239, sh_240, sh_241, sh_242, sh_243, sh_244, sh_245, sh_246, sh_247, sh_248, sh_249, sh_250, sh_251, sh_252, sh_253, rf_239_4, rf_239_5, rf_239_6, rf_239_7, rf_239_20, rf_239_21, rf_239_22, rf_239_23, rf_239_27, rf_239_28, rf_239_32, rf_239_33, rf_239_34, rf_239_35, Int.reduceLE, Int.reduceLT, Int.reduceToNat, Int.reduceAdd, Int.reduceSub, Int.reduceMul, Int.reduceNeg, Int.reduceEq, Int.reduceNe, Nat.reduceAdd, Nat.reduceMul, Nat.reduceLT, Nat.reduceEqDiff, or_true, true_or, or_false, false_or, and_false, false_and, not_true_eq_false, not_false_eq_true, ne_eq, cN4, cN5, cN6, cN7, cN13, cN30, cN60, cN64, cN100, cN136, cN240, cN384, cN900, cN2040, cN3,  v_swM_0, v_swM_1, v_swM_r, v_swM_n, swM_ite, app_ite, ex_some, bI_0, bI_1, nn_iff, Int.toNat_natCast, Int.toNat_of_nonneg, Int.natCast_add, cN1, wI_id2, wL_id2, ↓if_pos, ↓if_neg, if_pos, if_neg]
end PR
