/-! evaluating without looking at what isn't reached -/
def iffM (o : Option (Bool × SS)) (f g : XS) (z : ZZ) : Option (OO × ZZ) := match o with
  | some (y, s) => if y = true then f (z.1, z.2.1, s) else g (z.1, z.2.1, s)
  | none => none
theorem w_iff {c : XC} {f g : XS} {z : ZZ} : iff c f g z = iffM (c z) f g z := by
  unfold iff iffM bn
  cases c z <;> rfl
theorem iffM_t {s : SS} {f g : XS} {z : ZZ} : iffM (some (true, s)) f g z = f (z.1, z.2.1, s) := Eq.trans rfl rfl
theorem iffM_f {s : SS} {f g : XS} {z : ZZ} : iffM (some (false, s)) f g z = g (z.1, z.2.1, s) := Eq.trans rfl rfl
theorem iffM_d {P : Prop} [Decidable P] {s : SS} {f g : XS} {z : ZZ} : iffM (some (decide P, s)) f g z = if P then f (z.1, z.2.1, s) else g (z.1, z.2.1, s) := by
  show (if decide P = true then _ else _) = _
  by_cases h : P
  · rw [if_pos h, if_pos (decide_eq_true h)]
  · rw [if_neg h, if_neg (by rw [decide_eq_false h]; decide)]
theorem iffM_nd {P : Prop} [Decidable P] {s : SS} {f g : XS} {z : ZZ} : iffM (some (!decide P, s)) f g z = if P then g (z.1, z.2.1, s) else f (z.1, z.2.1, s) := by
  show (if (!decide P) = true then _ else _) = _
  by_cases h : P
  · rw [if_pos h, if_neg (by rw [decide_eq_true h]; decide)]
  · rw [if_neg h, if_pos (by rw [decide_eq_false h]; decide)]
theorem iffM_0 {f g : XS} {z : ZZ} : iffM none f g z = none := Eq.trans rfl rfl
theorem iffM_ite {c : Prop} [Decidable c] {a b : Option (Bool × SS)} {f g : XS} {z : ZZ} : iffM (if c then a else b) f g z = if c then iffM a f g z else iffM b f g z := by split <;> rfl
theorem Wd_iffM {x : Option (Bool × SS)} {f g : XS} {z : ZZ} {Q : OO → ZZ → Prop} : Wd (iffM x f g z) Q = Wd x (fun y s => Wd (iffM (some (y, s)) f g z) Q) := by
  cases x with
  | none => refine propext ⟨?_, ?_⟩ <;> (rintro ⟨a, b, e, _⟩; cases e)
  | some y => obtain ⟨a, s⟩ := y; rw [Wd_some]
theorem iffM_v {y : Bool} {s : SS} {f g : XS} {z : ZZ} : iffM (some (y, s)) f g z = if y = true then f (z.1, z.2.1, s) else g (z.1, z.2.1, s) := Eq.trans rfl rfl
def ternM (o : Option (Bool × SS)) (f g : XI) (z : ZZ) : Option (Int × SS) := match o with
  | some (y, s) => if y = true then f (z.1, z.2.1, s) else g (z.1, z.2.1, s)
  | none => none
theorem w_tern {c : XC} {f g : XI} {z : ZZ} : tern c f g z = ternM (c z) f g z := by
  unfold tern ternM bn
  cases c z <;> rfl
theorem ternM_t {s : SS} {f g : XI} {z : ZZ} : ternM (some (true, s)) f g z = f (z.1, z.2.1, s) := Eq.trans rfl rfl
theorem ternM_f {s : SS} {f g : XI} {z : ZZ} : ternM (some (false, s)) f g z = g (z.1, z.2.1, s) := Eq.trans rfl rfl
theorem ternM_d {P : Prop} [Decidable P] {s : SS} {f g : XI} {z : ZZ} : ternM (some (decide P, s)) f g z = if P then f (z.1, z.2.1, s) else g (z.1, z.2.1, s) := by
  show (if decide P = true then _ else _) = _
  by_cases h : P
  · rw [if_pos h, if_pos (decide_eq_true h)]
  · rw [if_neg h, if_neg (by rw [decide_eq_false h]; decide)]
theorem ternM_nd {P : Prop} [Decidable P] {s : SS} {f g : XI} {z : ZZ} : ternM (some (!decide P, s)) f g z = if P then g (z.1, z.2.1, s) else f (z.1, z.2.1, s) := by
  show (if (!decide P) = true then _ else _) = _
  by_cases h : P
  · rw [if_pos h, if_neg (by rw [decide_eq_true h]; decide)]
  · rw [if_neg h, if_pos (by rw [decide_eq_false h]; decide)]
theorem ternM_0 {f g : XI} {z : ZZ} : ternM none f g z = none := Eq.trans rfl rfl
theorem ternM_ite {c : Prop} [Decidable c] {a b : Option (Bool × SS)} {f g : XI} {z : ZZ} : ternM (if c then a else b) f g z = if c then ternM a f g z else ternM b f g z := by split <;> rfl
theorem Wd_ternM {x : Option (Bool × SS)} {f g : XI} {z : ZZ} {Q : Int → SS → Prop} : Wd (ternM x f g z) Q = Wd x (fun y s => Wd (ternM (some (y, s)) f g z) Q) := by
  cases x with
  | none => refine propext ⟨?_, ?_⟩ <;> (rintro ⟨a, b, e, _⟩; cases e)
  | some y => obtain ⟨a, s⟩ := y; rw [Wd_some]
theorem ternM_v {y : Bool} {s : SS} {f g : XI} {z : ZZ} : ternM (some (y, s)) f g z = if y = true then f (z.1, z.2.1, s) else g (z.1, z.2.1, s) := Eq.trans rfl rfl
def swX (o : Option (Int × SS)) (f : Int → XS) (z : ZZ) : Option (OO × ZZ) := match o with
  | some (x, s) => swM (f x (z.1, z.2.1, s))
  | none => none
theorem w_sw {e : XI} {f : Int → XS} {z : ZZ} : sw e f z = swX (e z) f z := by
  rw [sw_eq]
  unfold swX bn
  cases e z <;> rfl
theorem swX_1 {x : Int} {s : SS} {f : Int → XS} {z : ZZ} : swX (some (x, s)) f z = swM (f x (z.1, z.2.1, s)) := Eq.trans rfl rfl
theorem Wd_swX {x : Option (Int × SS)} {f : Int → XS} {z : ZZ} {Q : OO → ZZ → Prop} : Wd (swX x f z) Q = Wd x (fun y s => Wd (swX (some (y, s)) f z) Q) := by
  cases x with
  | none => refine propext ⟨?_, ?_⟩ <;> (rintro ⟨a, b, e, _⟩; cases e)
  | some y => obtain ⟨a, s⟩ := y; rw [Wd_some]
theorem try_band {σ : SS} {V : Int} (R : Rel V σ) (n : Nat) (h : 0 ≤ (n : Int) ∧ (n : Int) < σ 244 3) (h6 : n < 6) : Wd (F_X11_band 0 n 4 σ) (fun x σ1 => x = σ 244 (28 + 6 * 4 + (n : Int)).toNat ∧ CQ V (σ 244) 0 (σ 0 14) (σ 0 15) σ σ1) := by
  have hw := R.1.2.2.1
  have P := R.1.1
  have hb : F_X3_hasBand 6 n σ = some (1, σ) := by rw [k_hasBand P6 P.1 hw.1, bI_t h]
  try simp (disch := omega) only [w_iff, iffM_t, iffM_f, iffM_d, iffM_nd, iffM_0, iffM_ite, Wd_iffM, iffM_v, w_tern, ternM_t, ternM_f, ternM_d, ternM_nd, ternM_0, ternM_ite, Wd_ternM, ternM_v, w_sw, swX_1, Wd_swX, Bool.not_true, Bool.not_false, F_X11_band, B_X11_band, sh_0, sh_1, sh_2, sh_3, sh_4, sh_5, sh_6, sh_7, sh_8, sh_9, sh_10, sh_47, sh_48, sh_77, sh_86, sh_87, sh_128, sh_142, sh_143, rf_0_0, rf_0_1, rf_0_2, rf_0_3, rf_0_4, rf_0_5, rf_0_6, rf_0_7, rf_0_8, rf_5_0, rf_5_1, rf_5_2, rf_6_8, rf_6_10, rf_6_12, rf_6_13, rf_86_0, rf_86_1, rf_86_2, rf_2_0, rf_2_4, rf_47_0, rf_47_1, rf_77_0, rf_77_1, rf_77_2, rf_77_3, rf_128_0, rf_128_1, rf_128_2, rf_128_3, rf_128_4, rf_128_5, rf_128_6, rf_128_7, N_rt, N_rb, N_rg, N_t, N_b, N_g, N_q, N_qr, N_qn, N_ql, N_m, hb, n6B1 P, n6B2 P, n6B3 P, n6B4 P, n6B5 P, n6B6 P, n6B7 P, ev_c_yes, Wd_some, Wd_bn, Wd_sqM, Wd_outV, Wd_blkM, Wd_swM, Wd_ite, Wd_map, v_kS_0, v_kS_b, v_kS_r, v_kO_r, v_kW_0, v_kW_1, v_kW_2, v_kW_r, v_kL_0, v_kL_1, v_kL_2, v_kL_r, v_kU_0, ups_11, upsN, upsA, upA_same, upA_neA, fl_at, fl_neA, v_sq_eq, v_sqM_0, v_sqM_r, v_sqM_b, v_sqM_n, sqM_ite, v_asI, v_asR, v_inc, v_pfI, v_pfZ, v_pfO, v_paI, v_paO, v_exI,  v_rtI, v_rtZ, v_rtV, v_sk, v_brk, v_cnt, v_blk_eq, v_blkM_some, blkM_ite, v_lI, v_lR, v_cI, v_gI, v_gR, v_op1, v_op2, v_arI, v_arR, v_alen,  v_cmp1, v_cmp2, v_cAnd, v_cOr, v_cNot, v_cTern, v_bn_some, bn_ite, v_bn_none, v_outV_r, v_outV_0, v_outV_n, outV_ite, List.getD_cons_zero, List.getD_cons_succ, List.set_cons_zero, List.set_cons_succ, List.take_succ_cons, List.take_zero, List.drop_succ_cons, List.drop_zero, List.nil_append, List.cons_append, Option.map_some, Option.map_none, if_true, if_false, ↓reduceIte, reduceCtorEq, decide_eq_true_eq, Bool.not_eq_true', decide_eq_false_iff_not, decide_eq_true, decide_eq_false, decide_true, decide_false, and_self, and_true, true_and, or_self, stO, v_caV_, v_caV_i, v_caV_ii, v_caV_iii, v_caV_iiii, v_caV_iiiii, v_caV_il, v_caV_iil, v_caV_l, v_caV_ll, v_caV_r, v_caV_ri, v_caV_rii, v_caV_riii, v_caV_riiii, v_caV_ir, v_caV_iri, v_caV_iiri, v_caS_i, v_caS_ii, v_caS_iii, v_caS_iiii, v_caS_iiiiii, v_caS_il, v_caS_li, v_caS_ll, v_caS_lll, v_caS_ri, v_caS_riii, sh_239, sh_240, sh_241, sh_242, sh_243, sh_244, sh_245, sh_246, sh_247, sh_248, sh_249, sh_250, sh_251, sh_252, sh_253, rf_239_4, rf_239_5, rf_239_6, rf_239_7, rf_239_20, rf_239_21, rf_239_22, rf_239_23, rf_239_27, rf_239_28, rf_239_32, rf_239_33, rf_239_34, rf_239_35, Int.reduceLE, Int.reduceLT, Int.reduceToNat, Int.reduceAdd, Int.reduceSub, Int.reduceMul, Int.reduceNeg, Int.reduceEq, Int.reduceNe, Nat.reduceAdd, Nat.reduceMul, Nat.reduceLT, Nat.reduceEqDiff, or_true, true_or, or_false, false_or, and_false, false_and, not_true_eq_false, not_false_eq_true, ne_eq, cN4, cN5, cN6, cN7, cN13, cN30, cN60, cN64, cN100, cN136, cN240, cN384, cN900, cN2040, cN3,  v_swM_0, v_swM_1, v_swM_r, v_swM_n, swM_ite, app_ite, ex_some, bI_0, bI_1, nn_iff, Int.toNat_natCast, Int.toNat_of_nonneg, Int.natCast_add, cN1, wI_id2, wL_id2, ↓if_pos, ↓if_neg, if_pos, if_neg]
  exact CQ_fin hw.1 (CF_r _) R.2.1 R.2.2.1
