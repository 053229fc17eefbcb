/-! what is there, told at once -/
theorem bI_c {c : Prop} [Decidable c] (h : c) : bI c = 1 := if_pos h
theorem bI_n {c : Prop} [Decidable c] (h : ¬ c) : bI c = 0 := if_neg h
section SP
variable {σ : SS} {V : Int}
theorem ok_now {σ1 : SS} (hw : WB (σ 244)) (e4 : σ1 244 = σ 244) : F_X12_laysNow 239 (ups (ups σ1 239 1 0) 239 0 0) = some (0, nowM (ups (ups σ1 239 1 0) 239 0 0) (bn3 (σ 244))) ∧ nwM (σ 244) (nowM (ups (ups σ1 239 1 0) 239 0 0) (bn3 (σ 244))) := by
  have t : ups (ups σ1 239 1 0) 239 0 0 244 = σ 244 := by try simp (disch := omega) only [ups_11, upsN, upsA, upA_same, upA_neA, fl_at, fl_neA]; exact e4
  have q := m_laysNow (σ := ups (ups σ1 239 1 0) 239 0 0) (by rw [t]; exact hw.1) (by rw [t]; exact hw.2.2.1)
  have q2 := nwM_n (σ := ups (ups σ1 239 1 0) 239 0 0) (by rw [t]; exact hw)
  rw [t] at q q2
  exact ⟨q, q2⟩
theorem ok_isBand {σ1 : SS} (hw : WB (σ 244)) (e4 : σ1 244 = σ 244) (b : Int) : F_X12_isBandAt 239 b (ups (ups σ1 239 1 0) 239 0 0) = some (bI (0 ≤ b ∧ b < σ 244 3), ups (ups σ1 239 1 0) 239 0 0) := by
  have t1 := m_isBandAt b (σ := ups (ups σ1 239 1 0) 239 0 0) (by try simp (disch := omega) only [ups_11, upsN, upsA, upA_same, upA_neA, fl_at, fl_neA]; rw [e4]; exact hw.1)
  try simp (disch := omega) only [e4, ups_11, upsN, upsA, upA_same, upA_neA, fl_at, fl_neA] at t1
  exact t1
theorem ok_isTune {σ1 : SS} (hw : WB (σ 244)) (e4 : σ1 244 = σ 244) (b : Int) : F_X12_isTuneAt 239 b (ups (ups σ1 239 1 0) 239 0 0) = some (bI (0 ≤ b ∧ b < σ 244 2), ups (ups σ1 239 1 0) 239 0 0) := by
  have t1 := m_isTuneAt b (σ := ups (ups σ1 239 1 0) 239 0 0) (by try simp (disch := omega) only [ups_11, upsN, upsA, upA_same, upA_neA, fl_at, fl_neA]; rw [e4]; exact hw.1)
  try simp (disch := omega) only [e4, ups_11, upsN, upsA, upA_same, upA_neA, fl_at, fl_neA] at t1
  exact t1
theorem ok_isField {σ1 : SS} (hw : WB (σ 244)) (e4 : σ1 244 = σ 244) (x y : Int) : F_X12_isField 239 x y (ups (ups σ1 239 1 0) 239 0 0) = some (bI ((0 ≤ x ∧ x < σ 244 0) ∧ (0 ≤ y ∧ y < σ 244 1)), ups (ups σ1 239 1 0) 239 0 0) := by
  have t1 := m_isField x y (σ := ups (ups σ1 239 1 0) 239 0 0) (by try simp (disch := omega) only [ups_11, upsN, upsA, upA_same, upA_neA, fl_at, fl_neA]; rw [e4]; exact hw.1)
  try simp (disch := omega) only [e4, ups_11, upsN, upsA, upA_same, upA_neA, fl_at, fl_neA] at t1
  exact t1
theorem cB_t {c w : Nat → Int} (P : PkS σ 6 c w) (hw : WB c) {b : Int} (h : 0 ≤ b ∧ b < c 3) : F_X3_hasBand 6 b σ = some (1, σ) := by rw [k_hasBand P6 P.1 hw.1, bI_c h]
theorem cB_f {c w : Nat → Int} (P : PkS σ 6 c w) (hw : WB c) {b : Int} (h : ¬ (0 ≤ b ∧ b < c 3)) : F_X3_hasBand 6 b σ = some (0, σ) := by rw [k_hasBand P6 P.1 hw.1, bI_n h]
theorem cT_t {c w : Nat → Int} (P : PkS σ 6 c w) (hw : WB c) {b : Int} (h : 0 ≤ b ∧ b < c 2) : F_X3_hasTune 6 b σ = some (1, σ) := by rw [k_hasTune P6 P.1 hw.1, bI_c h]
theorem cT_f {c w : Nat → Int} (P : PkS σ 6 c w) (hw : WB c) {b : Int} (h : ¬ (0 ≤ b ∧ b < c 2)) : F_X3_hasTune 6 b σ = some (0, σ) := by rw [k_hasTune P6 P.1 hw.1, bI_n h]
theorem cE_t {c w : Nat → Int} (P : PkS σ 6 c w) (hw : WB c) {b : Int} (h : enB c b) : F_X3_hasEntry 6 b σ = some (1, σ) := by rw [k_hasEntry P6 P.1 hw.1, bI_c h]
theorem cE_f {c w : Nat → Int} (P : PkS σ 6 c w) (hw : WB c) {b : Int} (h : ¬ enB c b) : F_X3_hasEntry 6 b σ = some (0, σ) := by rw [k_hasEntry P6 P.1 hw.1, bI_n h]
theorem cC_f {c w : Nat → Int} (P : PkS σ 6 c w) (hw : WB c) {x y : Int} (h : ¬ ((0 ≤ x ∧ x < c 0) ∧ (0 ≤ y ∧ y < c 1))) : F_X3_cellAt 6 x y σ = some (-1, σ) := by rw [k_cellAt P6 P.1 hw.1, if_neg h]
theorem cC_t {c w : Nat → Int} (P : PkS σ 6 c w) (hw : WB c) {x y : Int} (h : (0 ≤ x ∧ x < c 0) ∧ (0 ≤ y ∧ y < c 1)) : ∃ k : Nat, F_X3_cellAt 6 x y σ = some ((k : Int), σ) ∧ (k : Int) < c 0 * c 1 ∧ (k : Int) % c 0 = x ∧ (k : Int) / c 0 = y ∧ k < 30 := by
  obtain ⟨k, k1, k2, k3, k4⟩ := field_cell hw.1 h
  have hN := nC_c hw.1
  exact ⟨k, by rw [k_cellAt P6 P.1 hw.1, if_pos h, k1], k2, k3, k4, by omega⟩
theorem cA_t {n : Int} (h : 0 ≤ n ∧ n ≤ 200) (σ : SS) : F_X11_isAhead n σ = some (1, σ) := by rw [ev_c_isAhead, bI_c h]
theorem cA_f {n : Int} (h : ¬ (0 ≤ n ∧ n ≤ 200)) (σ : SS) : F_X11_isAhead n σ = some (0, σ) := by rw [ev_c_isAhead, bI_n h]
theorem mA_e (n : Int) (σ : SS) : F_X12_isAhead n σ = some (bI (0 ≤ n ∧ n ≤ 200), σ) := by
  try simp (disch := omega) only [w_iff, iffM_t, iffM_f, iffM_d, iffM_nd, iffM_0, iffM_ite, Wd_iffM, iffM_v, w_tern, ternM_t, ternM_f, ternM_d, ternM_nd, ternM_0, ternM_ite, Wd_ternM, ternM_v, w_sw, swX_1, Wd_swX, Bool.not_true, Bool.not_false, F_X12_isAhead, B_X12_isAhead, ev_isIn, Wd_some, Wd_bn, Wd_sqM, Wd_outV, Wd_blkM, Wd_swM, Wd_ite, Wd_map, v_kS_0, v_kS_b, v_kS_r, v_kO_r, v_kW_0, v_kW_1, v_kW_2, v_kW_r, v_kL_0, v_kL_1, v_kL_2, v_kL_r, v_kU_0, ups_11, upsN, upsA, upA_same, upA_neA, fl_at, fl_neA, v_sq_eq, v_sqM_0, v_sqM_r, v_sqM_b, v_sqM_n, sqM_ite, v_asI, v_asR, v_inc, v_pfI, v_pfZ, v_pfO, v_paI, v_paO, v_exI,  v_rtI, v_rtZ, v_rtV, v_sk, v_brk, v_cnt, v_blk_eq, v_blkM_some, blkM_ite, v_lI, v_lR, v_cI, v_gI, v_gR, v_op1, v_op2, v_arI, v_arR, v_alen,  v_cmp1, v_cmp2, v_cAnd, v_cOr, v_cNot, v_cTern, v_bn_some, bn_ite, v_bn_none, v_outV_r, v_outV_0, v_outV_n, outV_ite, List.getD_cons_zero, List.getD_cons_succ, List.set_cons_zero, List.set_cons_succ, List.take_succ_cons, List.take_zero, List.drop_succ_cons, List.drop_zero, List.nil_append, List.cons_append, Option.map_some, Option.map_none, if_true, if_false, ↓reduceIte, reduceCtorEq, decide_eq_true_eq, Bool.not_eq_true', decide_eq_false_iff_not, decide_eq_true, decide_eq_false, decide_true, decide_false, and_self, and_true, true_and, or_self, stO, v_caV_, v_caV_i, v_caV_ii, v_caV_iii, v_caV_iiii, v_caV_iiiii, v_caV_il, v_caV_iil, v_caV_l, v_caV_ll, v_caV_r, v_caV_ri, v_caV_rii, v_caV_riii, v_caV_riiii, v_caV_ir, v_caV_iri, v_caV_iiri, v_caS_i, v_caS_ii, v_caS_iii, v_caS_iiii, v_caS_iiiiii, v_caS_il, v_caS_li, v_caS_ll, v_caS_lll, v_caS_ri, v_caS_riii, sh_239, sh_240, sh_241, sh_242, sh_243, sh_244, sh_245, sh_246, sh_247, sh_248, sh_249, sh_250, sh_251, sh_252, sh_253, rf_239_4, rf_239_5, rf_239_6, rf_239_7, rf_239_20, rf_239_21, rf_239_22, rf_239_23, rf_239_27, rf_239_28, rf_239_32, rf_239_33, rf_239_34, rf_239_35, Int.reduceLE, Int.reduceLT, Int.reduceToNat, Int.reduceAdd, Int.reduceSub, Int.reduceMul, Int.reduceNeg, Int.reduceEq, Int.reduceNe, Nat.reduceAdd, Nat.reduceMul, Nat.reduceLT, Nat.reduceEqDiff, or_true, true_or, or_false, false_or, and_false, false_and, not_true_eq_false, not_false_eq_true, ne_eq, cN4, cN5, cN6, cN7, cN13, cN30, cN60, cN64, cN100, cN136, cN240, cN384, cN900, cN2040, cN3,  v_swM_0, v_swM_1, v_swM_r, v_swM_n, swM_ite, app_ite, ex_some, bI_0, bI_1, nn_iff, Int.toNat_natCast, Int.toNat_of_nonneg, Int.natCast_add, cN1, wI_id2, wL_id2, ↓if_pos, ↓if_neg, if_pos, if_neg]
  try unfold bI
  repeat' split
  all_goals first | rfl | omega | (exfalso; omega)
theorem mA_t {n : Int} (h : 0 ≤ n ∧ n ≤ 200) (σ : SS) : F_X12_isAhead n σ = some (1, σ) := by rw [mA_e, bI_c h]
theorem mA_f {n : Int} (h : ¬ (0 ≤ n ∧ n ≤ 200)) (σ : SS) : F_X12_isAhead n σ = some (0, σ) := by rw [mA_e, bI_n h]
theorem mB_t {σ1 : SS} (hw : WB (σ 244)) (e4 : σ1 244 = σ 244) {b : Int} (h : 0 ≤ b ∧ b < σ 244 3) : F_X12_isBandAt 239 b (ups (ups σ1 239 1 0) 239 0 0) = some (1, ups (ups σ1 239 1 0) 239 0 0) := by rw [ok_isBand hw e4, bI_c h]
theorem mB_f {σ1 : SS} (hw : WB (σ 244)) (e4 : σ1 244 = σ 244) {b : Int} (h : ¬ (0 ≤ b ∧ b < σ 244 3)) : F_X12_isBandAt 239 b (ups (ups σ1 239 1 0) 239 0 0) = some (0, ups (ups σ1 239 1 0) 239 0 0) := by rw [ok_isBand hw e4, bI_n h]
theorem mT_t {σ1 : SS} (hw : WB (σ 244)) (e4 : σ1 244 = σ 244) {b : Int} (h : 0 ≤ b ∧ b < σ 244 2) : F_X12_isTuneAt 239 b (ups (ups σ1 239 1 0) 239 0 0) = some (1, ups (ups σ1 239 1 0) 239 0 0) := by rw [ok_isTune hw e4, bI_c h]
theorem mT_f {σ1 : SS} (hw : WB (σ 244)) (e4 : σ1 244 = σ 244) {b : Int} (h : ¬ (0 ≤ b ∧ b < σ 244 2)) : F_X12_isTuneAt 239 b (ups (ups σ1 239 1 0) 239 0 0) = some (0, ups (ups σ1 239 1 0) 239 0 0) := by rw [ok_isTune hw e4, bI_n h]
theorem mF_t {σ1 : SS} (hw : WB (σ 244)) (e4 : σ1 244 = σ 244) {x y : Int} (h : (0 ≤ x ∧ x < σ 244 0) ∧ (0 ≤ y ∧ y < σ 244 1)) : F_X12_isField 239 x y (ups (ups σ1 239 1 0) 239 0 0) = some (1, ups (ups σ1 239 1 0) 239 0 0) := by rw [ok_isField hw e4, bI_c h]
theorem mF_f {σ1 : SS} (hw : WB (σ 244)) (e4 : σ1 244 = σ 244) {x y : Int} (h : ¬ ((0 ≤ x ∧ x < σ 244 0) ∧ (0 ≤ y ∧ y < σ 244 1))) : F_X12_isField 239 x y (ups (ups σ1 239 1 0) 239 0 0) = some (0, ups (ups σ1 239 1 0) 239 0 0) := by rw [ok_isField hw e4, bI_n h]
end SP
