/-! a Stage of the class: what is kept of the sound, what all play -/
def upc (c : Nat → Int) (k : Nat) (v : Int) : Nat → Int := fun j => if j = k then v else c j
theorem upc_eq (c : Nat → Int) (k : Nat) (v : Int) (j : Nat) : upc c k v j = if j = k then v else c j := rfl
theorem upc_same (c : Nat → Int) (k : Nat) (v : Int) : upc c k v k = v := if_pos rfl
theorem upc_ne {c : Nat → Int} {k j : Nat} {v : Int} (h : j ≠ k) : upc c k v j = c j := if_neg h
def PkS (σ : SS) (a : Nat) (c w : Nat → Int) : Prop := kH σ a c ∧ kT σ a c w ∧ kB σ a c w ∧ kP σ a c
theorem PkS_c {σ σ' : SS} {a : Nat} {c w : Nat → Int} (hw : WH c) (h : ∀ k, k ≠ 14 → σ' a k = σ a k) (h2 : ∀ x, a < x → x < a + 29 → σ' x = σ x) (P : PkS σ a c w) : PkS σ' a c w := by
  obtain ⟨p1, p2, p3, p4⟩ := P
  refine ⟨?_, kT_c h2 hw p2, kB_c h2 hw p3, kP_c h2 p4⟩
  unfold kH
  rw [h 0 (by omega), h 1 (by omega), h 2 (by omega), h 3 (by omega), h 4 (by omega), h 5 (by omega), h 6 (by omega), h 7 (by omega), h 9 (by omega), h 11 (by omega)]
  exact p1
theorem PkS_upF {σ : SS} {a : Nat} {c w : Nat → Int} (hw : WH c) (P : PkS σ a c w) {i f : Nat} (hi : (i : Int) < c 3) (hf : 1 ≤ f ∧ f ≤ 6) (v : Int) : PkS (ups σ (a + 17 + 2 * i) f v) a (upc c (22 + 6 * f + i) v) w := by
  obtain ⟨p1, p2, p3, p4⟩ := P
  have u0 : ∀ j, j < 28 → upc c (22 + 6 * f + i) v j = c j := fun j hj => upc_ne (by omega)
  have u1 : ∀ j, 64 ≤ j → upc c (22 + 6 * f + i) v j = c j := fun j hj => upc_ne (by omega)
  refine ⟨?_, ?_, ?_, ?_⟩
  · unfold kH
    rw [upsA (by omega), u0 0 (by omega), u0 1 (by omega), u0 2 (by omega), u0 3 (by omega), u0 4 (by omega), u0 5 (by omega), u0 6 (by omega), u0 7 (by omega), u0 8 (by omega), u0 9 (by omega)]
    exact p1
  · intro t ht
    rw [u0 2 (by omega)] at ht
    rw [upsA (by omega), u0 _ (by omega), u0 _ (by omega), u0 _ (by omega)]
    exact p2 t ht
  · intro b hb
    rw [u0 3 (by omega)] at hb
    obtain ⟨⟨q0, q1, q2, q3, q4, q5, q6, q7⟩, q8⟩ := p3 b hb
    refine ⟨⟨?_, ?_, ?_, ?_, ?_, ?_, ?_, ?_⟩, fun k hk => ?_⟩
    · rw [upsN (by omega)]; exact q0
    · unfold ups upc; split <;> split <;> first | rfl | exact q1 | omega
    · unfold ups upc; split <;> split <;> first | rfl | exact q2 | omega
    · unfold ups upc; split <;> split <;> first | rfl | exact q3 | omega
    · unfold ups upc; split <;> split <;> first | rfl | exact q4 | omega
    · unfold ups upc; split <;> split <;> first | rfl | exact q5 | omega
    · unfold ups upc; split <;> split <;> first | rfl | exact q6 | omega
    · rw [upsN (by omega), u1 _ (by omega)]; exact q7
    · rw [u1 _ (by omega)] at hk
      rw [upsA (by omega), u1 _ (by omega)]
      exact q8 k hk
  · intro k hk
    rw [u0 0 (by omega), u0 1 (by omega)] at hk
    unfold pondB
    rw [upsA (by omega), u0 0 (by omega)]
    have w4 := cell_rng hw hk
    rw [u1 _ (by omega)]
    exact p4 k hk
theorem PkS_upH {σ : SS} {a : Nat} {c w : Nat → Int} (hw : WH c) (P : PkS σ a c w) {f : Nat} (hf : 2 ≤ f ∧ f ≤ 7) (v : Int) : PkS (ups σ a f v) a (upc c (f + 2) v) w := by
  obtain ⟨p1, p2, p3, p4⟩ := P
  have u0 : ∀ j, j < 4 → upc c (f + 2) v j = c j := fun j hj => upc_ne (by omega)
  have u1 : ∀ j, 10 ≤ j → upc c (f + 2) v j = c j := fun j hj => upc_ne (by omega)
  refine ⟨?_, ?_, ?_, ?_⟩
  · obtain ⟨q0, q1, q2, q3, q4, q5, q6, q7, q8, q9⟩ := p1
    unfold kH
    rw [u0 0 (by omega), u0 1 (by omega), u0 2 (by omega), u0 3 (by omega)]
    refine ⟨?_, ?_, ?_, ?_, ?_, ?_, ?_, ?_, ?_, ?_⟩
    · rw [upsN (by omega)]; exact q0
    · rw [upsN (by omega)]; exact q1
    · unfold ups upc; split <;> split <;> first | rfl | exact q2 | omega
    · unfold ups upc; split <;> split <;> first | rfl | exact q3 | omega
    · unfold ups upc; split <;> split <;> first | rfl | exact q4 | omega
    · unfold ups upc; split <;> split <;> first | rfl | exact q5 | omega
    · unfold ups upc; split <;> split <;> first | rfl | exact q6 | omega
    · unfold ups upc; split <;> split <;> first | rfl | exact q7 | omega
    · rw [upsN (by omega)]; exact q8
    · rw [upsN (by omega)]; exact q9
  · intro t ht
    rw [u0 2 (by omega)] at ht
    rw [upsA (by omega), u1 _ (by omega), u1 _ (by omega), u1 _ (by omega)]
    exact p2 t ht
  · intro b hb
    rw [u0 3 (by omega)] at hb
    rw [u1 _ (by omega), u1 _ (by omega), u1 _ (by omega), u1 _ (by omega), u1 _ (by omega), u1 _ (by omega), u1 _ (by omega), upsA (by omega), upsA (by omega)]
    obtain ⟨q, q8⟩ := p3 b hb
    refine ⟨q, fun k hk => ?_⟩
    rw [u1 _ (by omega)]
    exact q8 k hk
  · intro k hk
    rw [u0 0 (by omega), u0 1 (by omega)] at hk
    unfold pondB
    have w4 := cell_rng hw hk
    rw [upsA (by omega), u0 0 (by omega), u1 _ (by omega)]
    exact p4 k hk
def keyP (p : Nat → Int) : Nat → Int
  | 0 => 0
  | n + 1 => keyP p n * 8 + p n
theorem keyP_bd {p : Nat → Int} : ∀ n : Nat, (∀ k, k < n → 0 ≤ p k ∧ p k ≤ 7) → 0 ≤ keyP p n ∧ keyP p n < 8 ^ n
  | 0, _ => by unfold keyP; omega
  | n + 1, h => by
    have ih := keyP_bd n (fun k hk => h k (by omega))
    have hn := h n (by omega)
    unfold keyP
    rw [Int.pow_succ]
    omega
theorem p8 : ∀ n : Nat, n ≤ 6 → (8 : Int) ^ n ≤ 262144 := by decide +kernel
theorem keyP_inj {p q : Nat → Int} : ∀ n : Nat, (∀ k, k < n → 0 ≤ p k ∧ p k ≤ 7) → (∀ k, k < n → 0 ≤ q k ∧ q k ≤ 7) → keyP p n = keyP q n → ∀ k, k < n → p k = q k
  | 0, _, _, _, k, hk => by omega
  | n + 1, hp, hq, h, k, hk => by
    have h : keyP p n * 8 + p n = keyP q n * 8 + q n := h
    have h1 := hp n (by omega)
    have h2 := hq n (by omega)
    by_cases e : k = n
    · subst e; omega
    · exact keyP_inj n (fun k hk => hp k (by omega)) (fun k hk => hq k (by omega)) (by omega) k (by omega)
theorem andI_63 (x : Int) : 0 ≤ andI x 63 ∧ andI x 63 ≤ 63 := by
  have e : andI x 63 = ((Int32.ofInt x).toBitVec &&& 63#32).toInt := rfl
  have h : ((Int32.ofInt x).toBitVec &&& 63#32).toNat ≤ 63 := by
    rw [BitVec.toNat_and]
    exact Nat.and_le_right
  rw [e, BitVec.toInt_eq_toNat_of_lt (by omega)]
  omega
/-- who plays the same is heard the same -/
theorem noiB_p {c p p' : Nat → Int} (h : ∀ k : Nat, k < bn3 c → p k = p' k) (x y : Int) : ∀ k : Nat, k < bn3 c → noiB c p x y k = noiB c p' x y k := fun k hk => by
  unfold noiB
  rw [h k hk]
theorem holdB_p {c p p' : Nat → Int} (h : ∀ k : Nat, k < bn3 c → p k = p' k) (x y : Int) : holdB c p x y = holdB c p' x y := whoN_congr _ (noiB_p h x y)
theorem loudB_p {c p p' : Nat → Int} (h : ∀ k : Nat, k < bn3 c → p k = p' k) (x y : Int) : loudB c p x y = loudB c p' x y := mostN_congr _ (noiB_p h x y)
theorem cellsB_p {c p p' : Nat → Int} (h : ∀ k : Nat, k < bn3 c → p k = p' k) (who : Int) : cellsB c p who = cellsB c p' who := sumN_congr _ (fun k _ => by simp only [holdB_p h])
theorem gainB_p {c p p' : Nat → Int} (h : ∀ k : Nat, k < bn3 c → p k = p' k) (who : Int) (n : Nat) : gainB c p who n = gainB c p' who n := sumN_congr _ (fun k _ => by simp only [holdB_p h])
def SlT (s : Nat) (c : Nat → Int) (σ : SS) : Prop := ∀ q : Nat, q < 64 → ∀ p : Nat → Int, plO c p → keyP p (bn3 c) = σ (s + 38) q → ∀ b : Nat, b < 6 → σ (s + 39) (6 * q + b) = cellsB c p b ∧ σ (s + 40) (6 * q + b) = gainB c p b (nC c)
def StT (s : Nat) (c : Nat → Int) (σ : SS) : Prop := LossT s c (c 3) σ ∧ SlT s c σ
def StK (s : Nat) (c : Nat → Int) (V : Int) (σ : SS) : Prop := (-1 ≤ σ (s + 30) 5 ∧ σ (s + 30) 5 ≤ σ (s + 1) 14 ∧ σ (s + 1) 14 ≤ V) ∧ (σ (s + 30) 5 = σ (s + 1) 14 → StT s c σ)
def LkF (s : Nat) (σ σ' : SS) : Prop := (∀ a, ¬ (a = s ∨ (s + 30 ≤ a ∧ a ≤ s + 41)) → σ' a = σ a) ∧ (∀ k, k ≠ 4 → σ' s k = σ s k)
def LkS (s : Nat) (c : Nat → Int) (σ : SS) : Prop := StT s c σ ∧ σ (s + 30) 5 = σ (s + 1) 14 ∧ σ s 4 = tirB c (bn3 c) ∧ ∀ k : Nat, k < 6 → σ (s + 41) k = if (k : Int) < c 3 then playB c k else 6
theorem LossT_c {s : Nat} {c : Nat → Int} {σ σ' : SS} (hw : WH c) (h : ∀ a, s + 32 ≤ a → a < s + 38 → σ' a = σ a) (H : LossT s c (c 3) σ) : LossT s c (c 3) σ' := by
  intro b k hb hk
  rw [h _ (by omega) (by omega)]
  exact H b k hb hk
theorem SlT_c {s : Nat} {c : Nat → Int} {σ σ' : SS} (h : ∀ a, s + 38 ≤ a → a < s + 41 → σ' a = σ a) (H : SlT s c σ) : SlT s c σ' := by
  intro q hq p hp hk b hb
  rw [h _ (by omega) (by omega)] at hk
  rw [h _ (by omega) (by omega), h _ (by omega) (by omega)]
  exact H q hq p hp hk b hb
theorem StT_c {s : Nat} {c : Nat → Int} {σ σ' : SS} (hw : WH c) (h : ∀ a, s + 32 ≤ a → a < s + 41 → σ' a = σ a) (H : StT s c σ) : StT s c σ' := ⟨LossT_c hw (fun a h1 h2 => h a h1 (by omega)) H.1, SlT_c (fun a h1 h2 => h a (by omega) h2) H.2⟩
theorem plO_key {c p : Nat → Int} (hw : WH c) (hp : plO c p) : ∀ k : Nat, k < bn3 c → 0 ≤ p k ∧ p k ≤ 7 := by
  intro k hk
  have hn := bn3_c hw
  have := hp k (by omega)
  omega
section KT
variable {σ : SS} {s : Nat} {c w : Nat → Int}
/-- behind i bands -/
def LkI (s : Nat) (c : Nat → Int) (σ : SS) (i : Nat) (z : ZZ) : Prop := ∃ σ' : SS, z = ([0, (i : Int), 0], [s, 0, 0], σ') ∧ (∀ a, a ≠ s → a ≠ s + 41 → σ' a = σ a) ∧ (∀ k, k ≠ 4 → σ' s k = σ s k) ∧ σ' s 4 = tirB c (if i ≤ bn3 c then i else bn3 c) ∧ ∀ k : Nat, k < i → σ' (s + 41) k = if (k : Int) < c 3 then playB c k else 6
theorem kl_look (hs : isS s) (P : PkS σ (s + 1) c w) (hw : WB c) (h4 : σ s 4 = 0) : Wd (L_X7_look_0 ([0, 0, 0], [s, 0, 0], σ)) (fun o z => o = .inl 0 ∧ LkI s c σ 6 z) := by
  obtain ⟨hH, hT, hD, _⟩ := hw
  obtain ⟨p1, p2, p3, p4⟩ := P
  have hn := bn3_c hH
  unfold L_X7_look_0
  refine Wd_it (LkI s c σ) 6 ⟨σ, rfl, fun _ _ _ => rfl, fun _ _ => rfl, by rw [h4]; split <;> (try rfl); omega, fun k hk => by omega⟩ ?_ ?_
  · intro i z hi hz
    obtain ⟨σ1, hz, f1, f2, f3, f4⟩ := hz
    subst hz
    have H' : kH σ1 (s + 1) c := kH_c (f1 _ (by omega) (by omega)) p1
    have T' : kT σ1 (s + 1) c w := kT_c (fun x h1 h2 => f1 _ (by omega) (by omega)) hH p2
    have B' : kB σ1 (s + 1) c w := kB_c (fun x h1 h2 => f1 _ (by omega) (by omega)) hH p3
    by_cases hb : (i : Int) < c 3
    · have d1 := (hD i (by omega) hb).1
      have en := wantB_en hD (b := (i : Int)) (h := c 7) (by omega) hb
      have H2 : kH (ups σ1 (s + 41) i 6) (s + 1) c := kH_c (upsA (by omega)) H'
      have T2 : kT (ups σ1 (s + 41) i 6) (s + 1) c w := kT_c (fun x h1 h2 => upsA (by omega)) hH T'
      have B2 : kB (ups σ1 (s + 41) i 6) (s + 1) c w := kB_c (fun x h1 h2 => upsA (by omega)) hH B'
      have e1 := k_wantedIn (S_P hs) H2 B2 hH hD hb (h := c 7) (by omega)
      have e2 := k_tollOf (S_P hs) H2 T2 hH en
      have t1 : tirB c (i + 1) = if wantB c i (c 7) < 6 ∧ playB c i = 6 then orI (tirB c i) (shlI 1 i) else tirB c i := rfl
      rw [if_pos (by omega)] at f3
      by_cases g6 : wantB c i (c 7) = 6
      · have pl : playB c i = 6 := by unfold playB; rw [if_neg (by omega)]
        rw [g6, if_neg (by omega)] at e2
        simp (disch := omega) only [C_X7_look_0, D_X7_look_0, U_X7_look_0, S_s hs, S_r0 hs, S_r1 hs, S_r2 hs, S_q hs, S_q0 hs, S_q1 hs, S_q2 hs, S_q3 hs, S_q4 hs, S_l hs, S_k hs, S_w hs, S_n hs, S_y hs, S_rl hs, S_sl hs, P_a (S_P hs), P_1 (S_P hs), P_2 (S_P hs), P_3 (S_P hs), P_4 (S_P hs), P_5 (S_P hs), P_6 (S_P hs), P_7 (S_P hs), P_8 (S_P hs), P_9 (S_P hs), P_10 (S_P hs), P_t (S_P hs), P_b (S_P hs), P_g (S_P hs), P_r8 (S_P hs), P_r10 (S_P hs), P_r12 (S_P hs), P_r13 (S_P hs), P_e2 (S_P hs), P_e3 (S_P hs), P_e4 (S_P hs), P_e5 (S_P hs), P_e6 (S_P hs), P_e7 (S_P hs), P_rt (S_P hs), P_rb (S_P hs), P_rg (S_P hs), H'.1, H'.2.1, H'.2.2.1, H'.2.2.2.1, H'.2.2.2.2.1, H'.2.2.2.2.2.1, H'.2.2.2.2.2.2.1, H'.2.2.2.2.2.2.2.1, H'.2.2.2.2.2.2.2.2.1, H'.2.2.2.2.2.2.2.2.2, e1, e2, g6, kB_4 B', Wd_some, Wd_bn, Wd_sqM, Wd_outV, Wd_blkM, Wd_swM, Wd_ite, Wd_map, v_kS_0, v_kS_b, v_kS_r, v_kO_r, v_kW_0, v_kW_1, v_kW_2, v_kW_r, v_kL_0, v_kL_1, v_kL_2, v_kL_r, v_kU_0, ups_11, upsN, upsA, upA_same, upA_neA, fl_at, fl_neA, v_sq_eq, v_sqM_0, v_sqM_r, v_sqM_b, v_sqM_n, sqM_ite, v_asI, v_asR, v_inc, v_pfI, v_pfZ, v_pfO, v_paI, v_paO, v_exI, v_iff, v_rtI, v_rtZ, v_rtV, v_sk, v_brk, v_cnt, v_blk_eq, v_blkM_some, blkM_ite, v_lI, v_lR, v_cI, v_gI, v_gR, v_op1, v_op2, v_arI, v_arR, v_alen, v_tern, v_cmp1, v_cmp2, v_cAnd, v_cOr, v_cNot, v_cTern, v_bn_some, bn_ite, v_bn_none, v_outV_r, v_outV_0, v_outV_n, outV_ite, List.getD_cons_zero, List.getD_cons_succ, List.set_cons_zero, List.set_cons_succ, List.take_succ_cons, List.take_zero, List.drop_succ_cons, List.drop_zero, List.nil_append, List.cons_append, Option.map_some, Option.map_none, if_true, if_false, reduceIte, reduceCtorEq, decide_eq_true_eq, Bool.not_eq_true', decide_eq_false_iff_not, decide_eq_true, decide_eq_false, decide_true, decide_false, and_self, and_true, true_and, or_self, stO, v_caV_, v_caV_i, v_caV_ii, v_caV_iii, v_caV_iiii, v_caV_iiiii, v_caV_il, v_caV_iil, v_caV_l, v_caV_ll, v_caV_r, v_caV_ri, v_caV_rii, v_caV_riii, v_caV_riiii, v_caV_ir, v_caV_iri, v_caV_iiri, v_caS_i, v_caS_ii, v_caS_iii, v_caS_iiii, v_caS_iiiiii, v_caS_il, v_caS_li, v_caS_ll, v_caS_lll, v_caS_ri, v_caS_riii, sh_239, sh_240, sh_241, sh_242, sh_243, sh_244, sh_245, sh_246, sh_247, sh_248, sh_249, sh_250, sh_251, sh_252, sh_253, rf_239_4, rf_239_5, rf_239_6, rf_239_7, rf_239_20, rf_239_21, rf_239_22, rf_239_23, rf_239_27, rf_239_28, rf_239_32, rf_239_33, rf_239_34, rf_239_35, Int.reduceLE, Int.reduceLT, Int.reduceToNat, Int.reduceAdd, Int.reduceSub, Int.reduceMul, Int.reduceNeg, Int.reduceEq, Int.reduceNe, Nat.reduceAdd, Nat.reduceMul, Nat.reduceLT, Nat.reduceEqDiff, or_true, true_or, or_false, false_or, and_false, false_and, not_true_eq_false, not_false_eq_true, ne_eq, cN4, cN5, cN6, cN7, cN13, cN30, cN60, cN64, cN100, cN136, cN240, cN384, cN900, cN2040, cN3, v_sw_eq, v_swM_0, v_swM_1, v_swM_r, v_swM_n, swM_ite, app_ite, ex_some, bI_0, bI_1, nn_iff, Int.toNat_natCast, Int.toNat_of_nonneg, Int.natCast_add, cN1, wI_id2, wL_id2, if_pos, if_neg]
        refine ⟨_, rfl, fun a h1 h2 => ?_, fun k hk => ?_, ?_, fun k hk => ?_⟩
        · simp (disch := omega) only [ups_11, upsN, upsA, upA_same, upA_neA, fl_at, fl_neA]; exact f1 a h1 h2
        · simp (disch := omega) only [ups_11, upsN, upsA, upA_same, upA_neA, fl_at, fl_neA]; exact f2 k hk
        · simp (disch := omega) only [ups_11, upsN, upsA, upA_same, upA_neA, fl_at, fl_neA]; rw [if_pos (by omega), t1, if_neg (by omega)]; exact f3
        · by_cases e : k = i
          · subst e
            simp (disch := omega) only [ups_11, upsN, upsA, upA_same, upA_neA, fl_at, fl_neA]
            rw [if_pos hb, pl]
          · simp (disch := omega) only [ups_11, upsN, upsA, upA_same, upA_neA, fl_at, fl_neA]; exact f4 k (by omega)
      · have hlt : wantB c i (c 7) < 6 := by omega
        rw [if_pos hlt] at e2
        by_cases g7 : c (16 + wantB c i (c 7)).toNat ≤ c (46 + (i : Int)).toNat
        · have pl : playB c i = wantB c i (c 7) := by unfold playB; rw [if_pos ⟨hlt, g7⟩]
          simp (disch := omega) only [C_X7_look_0, D_X7_look_0, U_X7_look_0, S_s hs, S_r0 hs, S_r1 hs, S_r2 hs, S_q hs, S_q0 hs, S_q1 hs, S_q2 hs, S_q3 hs, S_q4 hs, S_l hs, S_k hs, S_w hs, S_n hs, S_y hs, S_rl hs, S_sl hs, P_a (S_P hs), P_1 (S_P hs), P_2 (S_P hs), P_3 (S_P hs), P_4 (S_P hs), P_5 (S_P hs), P_6 (S_P hs), P_7 (S_P hs), P_8 (S_P hs), P_9 (S_P hs), P_10 (S_P hs), P_t (S_P hs), P_b (S_P hs), P_g (S_P hs), P_r8 (S_P hs), P_r10 (S_P hs), P_r12 (S_P hs), P_r13 (S_P hs), P_e2 (S_P hs), P_e3 (S_P hs), P_e4 (S_P hs), P_e5 (S_P hs), P_e6 (S_P hs), P_e7 (S_P hs), P_rt (S_P hs), P_rb (S_P hs), P_rg (S_P hs), H'.1, H'.2.1, H'.2.2.1, H'.2.2.2.1, H'.2.2.2.2.1, H'.2.2.2.2.2.1, H'.2.2.2.2.2.2.1, H'.2.2.2.2.2.2.2.1, H'.2.2.2.2.2.2.2.2.1, H'.2.2.2.2.2.2.2.2.2, e1, e2, kB_4 B', Wd_some, Wd_bn, Wd_sqM, Wd_outV, Wd_blkM, Wd_swM, Wd_ite, Wd_map, v_kS_0, v_kS_b, v_kS_r, v_kO_r, v_kW_0, v_kW_1, v_kW_2, v_kW_r, v_kL_0, v_kL_1, v_kL_2, v_kL_r, v_kU_0, ups_11, upsN, upsA, upA_same, upA_neA, fl_at, fl_neA, v_sq_eq, v_sqM_0, v_sqM_r, v_sqM_b, v_sqM_n, sqM_ite, v_asI, v_asR, v_inc, v_pfI, v_pfZ, v_pfO, v_paI, v_paO, v_exI, v_iff, v_rtI, v_rtZ, v_rtV, v_sk, v_brk, v_cnt, v_blk_eq, v_blkM_some, blkM_ite, v_lI, v_lR, v_cI, v_gI, v_gR, v_op1, v_op2, v_arI, v_arR, v_alen, v_tern, v_cmp1, v_cmp2, v_cAnd, v_cOr, v_cNot, v_cTern, v_bn_some, bn_ite, v_bn_none, v_outV_r, v_outV_0, v_outV_n, outV_ite, List.getD_cons_zero, List.getD_cons_succ, List.set_cons_zero, List.set_cons_succ, List.take_succ_cons, List.take_zero, List.drop_succ_cons, List.drop_zero, List.nil_append, List.cons_append, Option.map_some, Option.map_none, if_true, if_false, reduceIte, reduceCtorEq, decide_eq_true_eq, Bool.not_eq_true', decide_eq_false_iff_not, decide_eq_true, decide_eq_false, decide_true, decide_false, and_self, and_true, true_and, or_self, stO, v_caV_, v_caV_i, v_caV_ii, v_caV_iii, v_caV_iiii, v_caV_iiiii, v_caV_il, v_caV_iil, v_caV_l, v_caV_ll, v_caV_r, v_caV_ri, v_caV_rii, v_caV_riii, v_caV_riiii, v_caV_ir, v_caV_iri, v_caV_iiri, v_caS_i, v_caS_ii, v_caS_iii, v_caS_iiii, v_caS_iiiiii, v_caS_il, v_caS_li, v_caS_ll, v_caS_lll, v_caS_ri, v_caS_riii, sh_239, sh_240, sh_241, sh_242, sh_243, sh_244, sh_245, sh_246, sh_247, sh_248, sh_249, sh_250, sh_251, sh_252, sh_253, rf_239_4, rf_239_5, rf_239_6, rf_239_7, rf_239_20, rf_239_21, rf_239_22, rf_239_23, rf_239_27, rf_239_28, rf_239_32, rf_239_33, rf_239_34, rf_239_35, Int.reduceLE, Int.reduceLT, Int.reduceToNat, Int.reduceAdd, Int.reduceSub, Int.reduceMul, Int.reduceNeg, Int.reduceEq, Int.reduceNe, Nat.reduceAdd, Nat.reduceMul, Nat.reduceLT, Nat.reduceEqDiff, or_true, true_or, or_false, false_or, and_false, false_and, not_true_eq_false, not_false_eq_true, ne_eq, cN4, cN5, cN6, cN7, cN13, cN30, cN60, cN64, cN100, cN136, cN240, cN384, cN900, cN2040, cN3, v_sw_eq, v_swM_0, v_swM_1, v_swM_r, v_swM_n, swM_ite, app_ite, ex_some, bI_0, bI_1, nn_iff, Int.toNat_natCast, Int.toNat_of_nonneg, Int.natCast_add, cN1, wI_id2, wL_id2, if_pos, if_neg]
          refine ⟨_, rfl, fun a h1 h2 => ?_, fun k hk => ?_, ?_, fun k hk => ?_⟩
          · simp (disch := omega) only [ups_11, upsN, upsA, upA_same, upA_neA, fl_at, fl_neA]; exact f1 a h1 h2
          · simp (disch := omega) only [ups_11, upsN, upsA, upA_same, upA_neA, fl_at, fl_neA]; exact f2 k hk
          · simp (disch := omega) only [ups_11, upsN, upsA, upA_same, upA_neA, fl_at, fl_neA]; rw [if_pos (by omega), t1, if_neg (by omega)]; exact f3
          · by_cases e : k = i
            · subst e
              simp (disch := omega) only [ups_11, upsN, upsA, upA_same, upA_neA, fl_at, fl_neA]
              rw [if_pos hb, pl]
            · simp (disch := omega) only [ups_11, upsN, upsA, upA_same, upA_neA, fl_at, fl_neA]; exact f4 k (by omega)
        · have pl : playB c i = 6 := by unfold playB; rw [if_neg (by omega)]
          simp (disch := omega) only [C_X7_look_0, D_X7_look_0, U_X7_look_0, S_s hs, S_r0 hs, S_r1 hs, S_r2 hs, S_q hs, S_q0 hs, S_q1 hs, S_q2 hs, S_q3 hs, S_q4 hs, S_l hs, S_k hs, S_w hs, S_n hs, S_y hs, S_rl hs, S_sl hs, P_a (S_P hs), P_1 (S_P hs), P_2 (S_P hs), P_3 (S_P hs), P_4 (S_P hs), P_5 (S_P hs), P_6 (S_P hs), P_7 (S_P hs), P_8 (S_P hs), P_9 (S_P hs), P_10 (S_P hs), P_t (S_P hs), P_b (S_P hs), P_g (S_P hs), P_r8 (S_P hs), P_r10 (S_P hs), P_r12 (S_P hs), P_r13 (S_P hs), P_e2 (S_P hs), P_e3 (S_P hs), P_e4 (S_P hs), P_e5 (S_P hs), P_e6 (S_P hs), P_e7 (S_P hs), P_rt (S_P hs), P_rb (S_P hs), P_rg (S_P hs), H'.1, H'.2.1, H'.2.2.1, H'.2.2.2.1, H'.2.2.2.2.1, H'.2.2.2.2.2.1, H'.2.2.2.2.2.2.1, H'.2.2.2.2.2.2.2.1, H'.2.2.2.2.2.2.2.2.1, H'.2.2.2.2.2.2.2.2.2, e1, e2, kB_4 B', Wd_some, Wd_bn, Wd_sqM, Wd_outV, Wd_blkM, Wd_swM, Wd_ite, Wd_map, v_kS_0, v_kS_b, v_kS_r, v_kO_r, v_kW_0, v_kW_1, v_kW_2, v_kW_r, v_kL_0, v_kL_1, v_kL_2, v_kL_r, v_kU_0, ups_11, upsN, upsA, upA_same, upA_neA, fl_at, fl_neA, v_sq_eq, v_sqM_0, v_sqM_r, v_sqM_b, v_sqM_n, sqM_ite, v_asI, v_asR, v_inc, v_pfI, v_pfZ, v_pfO, v_paI, v_paO, v_exI, v_iff, v_rtI, v_rtZ, v_rtV, v_sk, v_brk, v_cnt, v_blk_eq, v_blkM_some, blkM_ite, v_lI, v_lR, v_cI, v_gI, v_gR, v_op1, v_op2, v_arI, v_arR, v_alen, v_tern, v_cmp1, v_cmp2, v_cAnd, v_cOr, v_cNot, v_cTern, v_bn_some, bn_ite, v_bn_none, v_outV_r, v_outV_0, v_outV_n, outV_ite, List.getD_cons_zero, List.getD_cons_succ, List.set_cons_zero, List.set_cons_succ, List.take_succ_cons, List.take_zero, List.drop_succ_cons, List.drop_zero, List.nil_append, List.cons_append, Option.map_some, Option.map_none, if_true, if_false, reduceIte, reduceCtorEq, decide_eq_true_eq, Bool.not_eq_true', decide_eq_false_iff_not, decide_eq_true, decide_eq_false, decide_true, decide_false, and_self, and_true, true_and, or_self, stO, v_caV_, v_caV_i, v_caV_ii, v_caV_iii, v_caV_iiii, v_caV_iiiii, v_caV_il, v_caV_iil, v_caV_l, v_caV_ll, v_caV_r, v_caV_ri, v_caV_rii, v_caV_riii, v_caV_riiii, v_caV_ir, v_caV_iri, v_caV_iiri, v_caS_i, v_caS_ii, v_caS_iii, v_caS_iiii, v_caS_iiiiii, v_caS_il, v_caS_li, v_caS_ll, v_caS_lll, v_caS_ri, v_caS_riii, sh_239, sh_240, sh_241, sh_242, sh_243, sh_244, sh_245, sh_246, sh_247, sh_248, sh_249, sh_250, sh_251, sh_252, sh_253, rf_239_4, rf_239_5, rf_239_6, rf_239_7, rf_239_20, rf_239_21, rf_239_22, rf_239_23, rf_239_27, rf_239_28, rf_239_32, rf_239_33, rf_239_34, rf_239_35, Int.reduceLE, Int.reduceLT, Int.reduceToNat, Int.reduceAdd, Int.reduceSub, Int.reduceMul, Int.reduceNeg, Int.reduceEq, Int.reduceNe, Nat.reduceAdd, Nat.reduceMul, Nat.reduceLT, Nat.reduceEqDiff, or_true, true_or, or_false, false_or, and_false, false_and, not_true_eq_false, not_false_eq_true, ne_eq, cN4, cN5, cN6, cN7, cN13, cN30, cN60, cN64, cN100, cN136, cN240, cN384, cN900, cN2040, cN3, v_sw_eq, v_swM_0, v_swM_1, v_swM_r, v_swM_n, swM_ite, app_ite, ex_some, bI_0, bI_1, nn_iff, Int.toNat_natCast, Int.toNat_of_nonneg, Int.natCast_add, cN1, wI_id2, wL_id2, if_pos, if_neg]
          refine ⟨_, rfl, fun a h1 h2 => ?_, fun k hk => ?_, ?_, fun k hk => ?_⟩
          · simp (disch := omega) only [ups_11, upsN, upsA, upA_same, upA_neA, fl_at, fl_neA]; exact f1 a h1 h2
          · simp (disch := omega) only [ups_11, upsN, upsA, upA_same, upA_neA, fl_at, fl_neA]; exact f2 k hk
          · simp (disch := omega) only [ups_11, upsN, upsA, upA_same, upA_neA, fl_at, fl_neA]; rw [if_pos (by omega), t1, if_pos ⟨hlt, pl⟩, f3]
          · by_cases e : k = i
            · subst e
              simp (disch := omega) only [ups_11, upsN, upsA, upA_same, upA_neA, fl_at, fl_neA]
              rw [if_pos hb, pl]
            · simp (disch := omega) only [ups_11, upsN, upsA, upA_same, upA_neA, fl_at, fl_neA]; exact f4 k (by omega)
    · simp (disch := omega) only [C_X7_look_0, D_X7_look_0, U_X7_look_0, S_s hs, S_r0 hs, S_r1 hs, S_r2 hs, S_q hs, S_q0 hs, S_q1 hs, S_q2 hs, S_q3 hs, S_q4 hs, S_l hs, S_k hs, S_w hs, S_n hs, S_y hs, S_rl hs, S_sl hs, P_a (S_P hs), P_1 (S_P hs), P_2 (S_P hs), P_3 (S_P hs), P_4 (S_P hs), P_5 (S_P hs), P_6 (S_P hs), P_7 (S_P hs), P_8 (S_P hs), P_9 (S_P hs), P_10 (S_P hs), P_t (S_P hs), P_b (S_P hs), P_g (S_P hs), P_r8 (S_P hs), P_r10 (S_P hs), P_r12 (S_P hs), P_r13 (S_P hs), P_e2 (S_P hs), P_e3 (S_P hs), P_e4 (S_P hs), P_e5 (S_P hs), P_e6 (S_P hs), P_e7 (S_P hs), P_rt (S_P hs), P_rb (S_P hs), P_rg (S_P hs), H'.1, H'.2.1, H'.2.2.1, H'.2.2.2.1, H'.2.2.2.2.1, H'.2.2.2.2.2.1, H'.2.2.2.2.2.2.1, H'.2.2.2.2.2.2.2.1, H'.2.2.2.2.2.2.2.2.1, H'.2.2.2.2.2.2.2.2.2, Wd_some, Wd_bn, Wd_sqM, Wd_outV, Wd_blkM, Wd_swM, Wd_ite, Wd_map, v_kS_0, v_kS_b, v_kS_r, v_kO_r, v_kW_0, v_kW_1, v_kW_2, v_kW_r, v_kL_0, v_kL_1, v_kL_2, v_kL_r, v_kU_0, ups_11, upsN, upsA, upA_same, upA_neA, fl_at, fl_neA, v_sq_eq, v_sqM_0, v_sqM_r, v_sqM_b, v_sqM_n, sqM_ite, v_asI, v_asR, v_inc, v_pfI, v_pfZ, v_pfO, v_paI, v_paO, v_exI, v_iff, v_rtI, v_rtZ, v_rtV, v_sk, v_brk, v_cnt, v_blk_eq, v_blkM_some, blkM_ite, v_lI, v_lR, v_cI, v_gI, v_gR, v_op1, v_op2, v_arI, v_arR, v_alen, v_tern, v_cmp1, v_cmp2, v_cAnd, v_cOr, v_cNot, v_cTern, v_bn_some, bn_ite, v_bn_none, v_outV_r, v_outV_0, v_outV_n, outV_ite, List.getD_cons_zero, List.getD_cons_succ, List.set_cons_zero, List.set_cons_succ, List.take_succ_cons, List.take_zero, List.drop_succ_cons, List.drop_zero, List.nil_append, List.cons_append, Option.map_some, Option.map_none, if_true, if_false, reduceIte, reduceCtorEq, decide_eq_true_eq, Bool.not_eq_true', decide_eq_false_iff_not, decide_eq_true, decide_eq_false, decide_true, decide_false, and_self, and_true, true_and, or_self, stO, v_caV_, v_caV_i, v_caV_ii, v_caV_iii, v_caV_iiii, v_caV_iiiii, v_caV_il, v_caV_iil, v_caV_l, v_caV_ll, v_caV_r, v_caV_ri, v_caV_rii, v_caV_riii, v_caV_riiii, v_caV_ir, v_caV_iri, v_caV_iiri, v_caS_i, v_caS_ii, v_caS_iii, v_caS_iiii, v_caS_iiiiii, v_caS_il, v_caS_li, v_caS_ll, v_caS_lll, v_caS_ri, v_caS_riii, sh_239, sh_240, sh_241, sh_242, sh_243, sh_244, sh_245, sh_246, sh_247, sh_248, sh_249, sh_250, sh_251, sh_252, sh_253, rf_239_4, rf_239_5, rf_239_6, rf_239_7, rf_239_20, rf_239_21, rf_239_22, rf_239_23, rf_239_27, rf_239_28, rf_239_32, rf_239_33, rf_239_34, rf_239_35, Int.reduceLE, Int.reduceLT, Int.reduceToNat, Int.reduceAdd, Int.reduceSub, Int.reduceMul, Int.reduceNeg, Int.reduceEq, Int.reduceNe, Nat.reduceAdd, Nat.reduceMul, Nat.reduceLT, Nat.reduceEqDiff, or_true, true_or, or_false, false_or, and_false, false_and, not_true_eq_false, not_false_eq_true, ne_eq, cN4, cN5, cN6, cN7, cN13, cN30, cN60, cN64, cN100, cN136, cN240, cN384, cN900, cN2040, cN3, v_sw_eq, v_swM_0, v_swM_1, v_swM_r, v_swM_n, swM_ite, app_ite, ex_some, bI_0, bI_1, nn_iff, Int.toNat_natCast, Int.toNat_of_nonneg, Int.natCast_add, cN1, wI_id2, wL_id2, if_pos, if_neg]
      refine ⟨_, rfl, fun a h1 h2 => ?_, fun k hk => ?_, ?_, fun k hk => ?_⟩
      · simp (disch := omega) only [ups_11, upsN, upsA, upA_same, upA_neA, fl_at, fl_neA]; exact f1 a h1 h2
      · simp (disch := omega) only [ups_11, upsN, upsA, upA_same, upA_neA, fl_at, fl_neA]; exact f2 k hk
      · simp (disch := omega) only [ups_11, upsN, upsA, upA_same, upA_neA, fl_at, fl_neA]
        rw [if_neg (by omega), f3]
        congr 1
        split <;> omega
      · by_cases e : k = i
        · subst e
          simp (disch := omega) only [ups_11, upsN, upsA, upA_same, upA_neA, fl_at, fl_neA]
          rw [if_neg hb]
        · simp (disch := omega) only [ups_11, upsN, upsA, upA_same, upA_neA, fl_at, fl_neA]; exact f4 k (by omega)
  · intro z hz
    obtain ⟨σ1, hz, f1, f2, f3, f4⟩ := hz
    subst hz
    simp (disch := omega) only [C_X7_look_0, D_X7_look_0, U_X7_look_0, S_s hs, S_r0 hs, S_r1 hs, S_r2 hs, S_q hs, S_q0 hs, S_q1 hs, S_q2 hs, S_q3 hs, S_q4 hs, S_l hs, S_k hs, S_w hs, S_n hs, S_y hs, S_rl hs, S_sl hs, P_a (S_P hs), P_1 (S_P hs), P_2 (S_P hs), P_3 (S_P hs), P_4 (S_P hs), P_5 (S_P hs), P_6 (S_P hs), P_7 (S_P hs), P_8 (S_P hs), P_9 (S_P hs), P_10 (S_P hs), P_t (S_P hs), P_b (S_P hs), P_g (S_P hs), P_r8 (S_P hs), P_r10 (S_P hs), P_r12 (S_P hs), P_r13 (S_P hs), P_e2 (S_P hs), P_e3 (S_P hs), P_e4 (S_P hs), P_e5 (S_P hs), P_e6 (S_P hs), P_e7 (S_P hs), P_rt (S_P hs), P_rb (S_P hs), P_rg (S_P hs), Wd_some, Wd_bn, Wd_sqM, Wd_outV, Wd_blkM, Wd_swM, Wd_ite, Wd_map, v_kS_0, v_kS_b, v_kS_r, v_kO_r, v_kW_0, v_kW_1, v_kW_2, v_kW_r, v_kL_0, v_kL_1, v_kL_2, v_kL_r, v_kU_0, ups_11, upsN, upsA, upA_same, upA_neA, fl_at, fl_neA, v_sq_eq, v_sqM_0, v_sqM_r, v_sqM_b, v_sqM_n, sqM_ite, v_asI, v_asR, v_inc, v_pfI, v_pfZ, v_pfO, v_paI, v_paO, v_exI, v_iff, v_rtI, v_rtZ, v_rtV, v_sk, v_brk, v_cnt, v_blk_eq, v_blkM_some, blkM_ite, v_lI, v_lR, v_cI, v_gI, v_gR, v_op1, v_op2, v_arI, v_arR, v_alen, v_tern, v_cmp1, v_cmp2, v_cAnd, v_cOr, v_cNot, v_cTern, v_bn_some, bn_ite, v_bn_none, v_outV_r, v_outV_0, v_outV_n, outV_ite, List.getD_cons_zero, List.getD_cons_succ, List.set_cons_zero, List.set_cons_succ, List.take_succ_cons, List.take_zero, List.drop_succ_cons, List.drop_zero, List.nil_append, List.cons_append, Option.map_some, Option.map_none, if_true, if_false, reduceIte, reduceCtorEq, decide_eq_true_eq, Bool.not_eq_true', decide_eq_false_iff_not, decide_eq_true, decide_eq_false, decide_true, decide_false, and_self, and_true, true_and, or_self, stO, v_caV_, v_caV_i, v_caV_ii, v_caV_iii, v_caV_iiii, v_caV_iiiii, v_caV_il, v_caV_iil, v_caV_l, v_caV_ll, v_caV_r, v_caV_ri, v_caV_rii, v_caV_riii, v_caV_riiii, v_caV_ir, v_caV_iri, v_caV_iiri, v_caS_i, v_caS_ii, v_caS_iii, v_caS_iiii, v_caS_iiiiii, v_caS_il, v_caS_li, v_caS_ll, v_caS_lll, v_caS_ri, v_caS_riii, sh_239, sh_240, sh_241, sh_242, sh_243, sh_244, sh_245, sh_246, sh_247, sh_248, sh_249, sh_250, sh_251, sh_252, sh_253, rf_239_4, rf_239_5, rf_239_6, rf_239_7, rf_239_20, rf_239_21, rf_239_22, rf_239_23, rf_239_27, rf_239_28, rf_239_32, rf_239_33, rf_239_34, rf_239_35, Int.reduceLE, Int.reduceLT, Int.reduceToNat, Int.reduceAdd, Int.reduceSub, Int.reduceMul, Int.reduceNeg, Int.reduceEq, Int.reduceNe, Nat.reduceAdd, Nat.reduceMul, Nat.reduceLT, Nat.reduceEqDiff, or_true, true_or, or_false, false_or, and_false, false_and, not_true_eq_false, not_false_eq_true, ne_eq, cN4, cN5, cN6, cN7, cN13, cN30, cN60, cN64, cN100, cN136, cN240, cN384, cN900, cN2040, cN3, v_sw_eq, v_swM_0, v_swM_1, v_swM_r, v_swM_n, swM_ite, app_ite, ex_some, bI_0, bI_1, nn_iff, Int.toNat_natCast, Int.toNat_of_nonneg, Int.natCast_add, cN1, wI_id2, wL_id2, if_pos, if_neg]
    exact ⟨σ1, rfl, f1, f2, f3, f4⟩
theorem k_look (hs : isS s) (P : PkS σ (s + 1) c w) (hw : WB c) {V : Int} (K : StK s c V σ) : Wd (F_X7_look s σ) (fun r σ' => r = 0 ∧ LkF s σ σ' ∧ LkS s c σ') := by
  have q := k_refresh hs P.1 P.2.2.1 hw.1 hw.2.2.1
  have hn := bn3_c hw.1
  have hH := hw.1
  simp (disch := omega) only [F_X7_look, E_X7_look, S_s hs, S_r0 hs, S_r1 hs, S_r2 hs, S_q hs, S_q0 hs, S_q1 hs, S_q2 hs, S_q3 hs, S_q4 hs, S_l hs, S_k hs, S_w hs, S_n hs, S_y hs, S_rl hs, S_sl hs, P_a (S_P hs), P_1 (S_P hs), P_2 (S_P hs), P_3 (S_P hs), P_4 (S_P hs), P_5 (S_P hs), P_6 (S_P hs), P_7 (S_P hs), P_8 (S_P hs), P_9 (S_P hs), P_10 (S_P hs), P_t (S_P hs), P_b (S_P hs), P_g (S_P hs), P_r8 (S_P hs), P_r10 (S_P hs), P_r12 (S_P hs), P_r13 (S_P hs), P_e2 (S_P hs), P_e3 (S_P hs), P_e4 (S_P hs), P_e5 (S_P hs), P_e6 (S_P hs), P_e7 (S_P hs), P_rt (S_P hs), P_rb (S_P hs), P_rg (S_P hs), Wd_some, Wd_bn, Wd_sqM, Wd_outV, Wd_blkM, Wd_swM, Wd_ite, Wd_map, v_kS_0, v_kS_b, v_kS_r, v_kO_r, v_kW_0, v_kW_1, v_kW_2, v_kW_r, v_kL_0, v_kL_1, v_kL_2, v_kL_r, v_kU_0, ups_11, upsN, upsA, upA_same, upA_neA, fl_at, fl_neA, v_sq_eq, v_sqM_0, v_sqM_r, v_sqM_b, v_sqM_n, sqM_ite, v_asI, v_asR, v_inc, v_pfI, v_pfZ, v_pfO, v_paI, v_paO, v_exI, v_iff, v_rtI, v_rtZ, v_rtV, v_sk, v_brk, v_cnt, v_blk_eq, v_blkM_some, blkM_ite, v_lI, v_lR, v_cI, v_gI, v_gR, v_op1, v_op2, v_arI, v_arR, v_alen, v_tern, v_cmp1, v_cmp2, v_cAnd, v_cOr, v_cNot, v_cTern, v_bn_some, bn_ite, v_bn_none, v_outV_r, v_outV_0, v_outV_n, outV_ite, List.getD_cons_zero, List.getD_cons_succ, List.set_cons_zero, List.set_cons_succ, List.take_succ_cons, List.take_zero, List.drop_succ_cons, List.drop_zero, List.nil_append, List.cons_append, Option.map_some, Option.map_none, if_true, if_false, reduceIte, reduceCtorEq, decide_eq_true_eq, Bool.not_eq_true', decide_eq_false_iff_not, decide_eq_true, decide_eq_false, decide_true, decide_false, and_self, and_true, true_and, or_self, stO, v_caV_, v_caV_i, v_caV_ii, v_caV_iii, v_caV_iiii, v_caV_iiiii, v_caV_il, v_caV_iil, v_caV_l, v_caV_ll, v_caV_r, v_caV_ri, v_caV_rii, v_caV_riii, v_caV_riiii, v_caV_ir, v_caV_iri, v_caV_iiri, v_caS_i, v_caS_ii, v_caS_iii, v_caS_iiii, v_caS_iiiiii, v_caS_il, v_caS_li, v_caS_ll, v_caS_lll, v_caS_ri, v_caS_riii, sh_239, sh_240, sh_241, sh_242, sh_243, sh_244, sh_245, sh_246, sh_247, sh_248, sh_249, sh_250, sh_251, sh_252, sh_253, rf_239_4, rf_239_5, rf_239_6, rf_239_7, rf_239_20, rf_239_21, rf_239_22, rf_239_23, rf_239_27, rf_239_28, rf_239_32, rf_239_33, rf_239_34, rf_239_35, Int.reduceLE, Int.reduceLT, Int.reduceToNat, Int.reduceAdd, Int.reduceSub, Int.reduceMul, Int.reduceNeg, Int.reduceEq, Int.reduceNe, Nat.reduceAdd, Nat.reduceMul, Nat.reduceLT, Nat.reduceEqDiff, or_true, true_or, or_false, false_or, and_false, false_and, not_true_eq_false, not_false_eq_true, ne_eq, cN4, cN5, cN6, cN7, cN13, cN30, cN60, cN64, cN100, cN136, cN240, cN384, cN900, cN2040, cN3, v_sw_eq, v_swM_0, v_swM_1, v_swM_r, v_swM_n, swM_ite, app_ite, ex_some, bI_0, bI_1, nn_iff, Int.toNat_natCast, Int.toNat_of_nonneg, Int.natCast_add, cN1, wI_id2, wL_id2, if_pos, if_neg]
  refine Wd_mono q (fun r σ1 hr => ?_)
  obtain ⟨hr, hc⟩ := hr
  subst hr
  have key : (∀ a k, ¬ (a = s + 30 ∧ k = 5) → ¬ (s + 32 ≤ a ∧ a < s + 41) → σ1 a k = σ a k) ∧ StT s c σ1 ∧ σ1 (s + 30) 5 = σ1 (s + 1) 14 := by
    rcases hc with ⟨h1, h2⟩ | ⟨h1, r1, r2, r3, r4⟩
    · subst h2
      exact ⟨fun _ _ _ _ => rfl, K.2 h1, h1⟩
    · refine ⟨fun a k g1 g2 => r1 a k g1 (by omega), ⟨r4, ?_⟩, ?_⟩
      · intro q hq p hp hk b hb
        rw [r3 q hq] at hk
        have := keyP_bd (bn3 c) (plO_key hw.1 hp)
        omega
      · rw [r2, r1 (s + 1) 14 (by omega) (by omega)]
  obtain ⟨k1, k2, k3⟩ := key
  have P2 : PkS (ups σ1 s 4 0) (s + 1) c w := PkS_c hw.1 (fun k hk => by simp (disch := omega) only [ups_11, upsN, upsA, upA_same, upA_neA, fl_at, fl_neA]; exact k1 _ _ (by omega) (by omega)) (fun x h1 h2 => by simp (disch := omega) only [ups_11, upsN, upsA, upA_same, upA_neA, fl_at, fl_neA]; funext k; exact k1 _ _ (by omega) (by omega)) P
  refine Wd_mono (kl_look hs P2 hw (by simp (disch := omega) only [ups_11, upsN, upsA, upA_same, upA_neA, fl_at, fl_neA])) (fun o z hz => ?_)
  obtain ⟨ho, σ2, hz, f1, f2, f3, f4⟩ := hz
  subst ho; subst hz
  simp (disch := omega) only [Wd_some, Wd_bn, Wd_sqM, Wd_outV, Wd_blkM, Wd_swM, Wd_ite, Wd_map, v_kS_0, v_kS_b, v_kS_r, v_kO_r, v_kW_0, v_kW_1, v_kW_2, v_kW_r, v_kL_0, v_kL_1, v_kL_2, v_kL_r, v_kU_0, ups_11, upsN, upsA, upA_same, upA_neA, fl_at, fl_neA, v_sq_eq, v_sqM_0, v_sqM_r, v_sqM_b, v_sqM_n, sqM_ite, v_asI, v_asR, v_inc, v_pfI, v_pfZ, v_pfO, v_paI, v_paO, v_exI, v_iff, v_rtI, v_rtZ, v_rtV, v_sk, v_brk, v_cnt, v_blk_eq, v_blkM_some, blkM_ite, v_lI, v_lR, v_cI, v_gI, v_gR, v_op1, v_op2, v_arI, v_arR, v_alen, v_tern, v_cmp1, v_cmp2, v_cAnd, v_cOr, v_cNot, v_cTern, v_bn_some, bn_ite, v_bn_none, v_outV_r, v_outV_0, v_outV_n, outV_ite, List.getD_cons_zero, List.getD_cons_succ, List.set_cons_zero, List.set_cons_succ, List.take_succ_cons, List.take_zero, List.drop_succ_cons, List.drop_zero, List.nil_append, List.cons_append, Option.map_some, Option.map_none, if_true, if_false, reduceIte, reduceCtorEq, decide_eq_true_eq, Bool.not_eq_true', decide_eq_false_iff_not, decide_eq_true, decide_eq_false, decide_true, decide_false, and_self, and_true, true_and, or_self, stO, v_caV_, v_caV_i, v_caV_ii, v_caV_iii, v_caV_iiii, v_caV_iiiii, v_caV_il, v_caV_iil, v_caV_l, v_caV_ll, v_caV_r, v_caV_ri, v_caV_rii, v_caV_riii, v_caV_riiii, v_caV_ir, v_caV_iri, v_caV_iiri, v_caS_i, v_caS_ii, v_caS_iii, v_caS_iiii, v_caS_iiiiii, v_caS_il, v_caS_li, v_caS_ll, v_caS_lll, v_caS_ri, v_caS_riii, sh_239, sh_240, sh_241, sh_242, sh_243, sh_244, sh_245, sh_246, sh_247, sh_248, sh_249, sh_250, sh_251, sh_252, sh_253, rf_239_4, rf_239_5, rf_239_6, rf_239_7, rf_239_20, rf_239_21, rf_239_22, rf_239_23, rf_239_27, rf_239_28, rf_239_32, rf_239_33, rf_239_34, rf_239_35, Int.reduceLE, Int.reduceLT, Int.reduceToNat, Int.reduceAdd, Int.reduceSub, Int.reduceMul, Int.reduceNeg, Int.reduceEq, Int.reduceNe, Nat.reduceAdd, Nat.reduceMul, Nat.reduceLT, Nat.reduceEqDiff, or_true, true_or, or_false, false_or, and_false, false_and, not_true_eq_false, not_false_eq_true, ne_eq, cN4, cN5, cN6, cN7, cN13, cN30, cN60, cN64, cN100, cN136, cN240, cN384, cN900, cN2040, cN3, v_sw_eq, v_swM_0, v_swM_1, v_swM_r, v_swM_n, swM_ite, app_ite, ex_some, bI_0, bI_1, nn_iff, Int.toNat_natCast, Int.toNat_of_nonneg, Int.natCast_add, cN1, wI_id2, wL_id2, if_pos, if_neg]
  refine ⟨⟨fun a ha => ?_, fun k hk => ?_⟩, ?_, ?_, ?_, f4⟩
  · rw [f1 a (by omega) (by omega)]
    simp (disch := omega) only [ups_11, upsN, upsA, upA_same, upA_neA, fl_at, fl_neA]
    funext k
    exact k1 _ _ (by omega) (by omega)
  · rw [f2 k hk]
    simp (disch := omega) only [ups_11, upsN, upsA, upA_same, upA_neA, fl_at, fl_neA]
    exact k1 _ _ (by omega) (by omega)
  · exact StT_c hw.1 (fun a h1 h2 => by rw [f1 a (by omega) (by omega)]; simp (disch := omega) only [ups_11, upsN, upsA, upA_same, upA_neA, fl_at, fl_neA]) k2
  · rw [f1 _ (by omega) (by omega), f1 _ (by omega) (by omega)]
    simp (disch := omega) only [ups_11, upsN, upsA, upA_same, upA_neA, fl_at, fl_neA]
    exact k3
  · rw [f3]
    congr 1
    split <;> omega
/-! slots -/
def FsI (s : Nat) (c p : Nat → Int) (pl q : Nat) (σ : SS) (i : Nat) (z : ZZ) : Prop := ∃ σ' : SS, z = ([0, (q : Int), 0, (q : Int) * 6, (i : Int), 0], [s + 30, 0, pl, 0, 0, 0], σ') ∧ (∀ a, a ≠ s + 39 → a ≠ s + 40 → σ' a = σ a) ∧ (∀ k, ¬ (6 * q ≤ k ∧ k < 6 * q + 6) → σ' (s + 39) k = σ (s + 39) k ∧ σ' (s + 40) k = σ (s + 40) k) ∧ ∀ b : Nat, b < 6 → σ' (s + 39) (6 * q + b) = sumC c (hldF c p b) i ∧ σ' (s + 40) (6 * q + b) = gainB c p b i
def FsZ (s pl q : Nat) (σ : SS) (i : Nat) (z : ZZ) : Prop := ∃ σ' : SS, z = ([0, (q : Int), 0, (q : Int) * 6, (i : Int), 0], [s + 30, 0, pl, 0, 0, 0], σ') ∧ (∀ a, a ≠ s + 39 → a ≠ s + 40 → σ' a = σ a) ∧ (∀ k, ¬ (6 * q ≤ k ∧ k < 6 * q + 6) → σ' (s + 39) k = σ (s + 39) k ∧ σ' (s + 40) k = σ (s + 40) k) ∧ ∀ b : Nat, b < i → σ' (s + 39) (6 * q + b) = 0 ∧ σ' (s + 40) (6 * q + b) = 0
theorem kl_fill0 (hs : isS s) {pl q : Nat} (hq : q < 64) : Wd (L_X6_fillSlot_0 ([0, (q : Int), 0, (q : Int) * 6, 0, 0], [s + 30, 0, pl, 0, 0, 0], σ)) (fun o z => o = .inl 0 ∧ FsZ s pl q σ 6 z) := by
  unfold L_X6_fillSlot_0
  refine Wd_it (FsZ s pl q σ) 6 ⟨σ, rfl, fun _ _ _ => rfl, fun _ _ => ⟨rfl, rfl⟩, fun b hb => by omega⟩ ?_ ?_
  · intro i z hi hz
    obtain ⟨σ1, hz, f1, f2, f3⟩ := hz
    subst hz
    simp (disch := omega) only [C_X6_fillSlot_0, D_X6_fillSlot_0, U_X6_fillSlot_0, S_s hs, S_r0 hs, S_r1 hs, S_r2 hs, S_q hs, S_q0 hs, S_q1 hs, S_q2 hs, S_q3 hs, S_q4 hs, S_l hs, S_k hs, S_w hs, S_n hs, S_y hs, S_rl hs, S_sl hs, P_a (S_P hs), P_1 (S_P hs), P_2 (S_P hs), P_3 (S_P hs), P_4 (S_P hs), P_5 (S_P hs), P_6 (S_P hs), P_7 (S_P hs), P_8 (S_P hs), P_9 (S_P hs), P_10 (S_P hs), P_t (S_P hs), P_b (S_P hs), P_g (S_P hs), P_r8 (S_P hs), P_r10 (S_P hs), P_r12 (S_P hs), P_r13 (S_P hs), P_e2 (S_P hs), P_e3 (S_P hs), P_e4 (S_P hs), P_e5 (S_P hs), P_e6 (S_P hs), P_e7 (S_P hs), P_rt (S_P hs), P_rb (S_P hs), P_rg (S_P hs), Wd_some, Wd_bn, Wd_sqM, Wd_outV, Wd_blkM, Wd_swM, Wd_ite, Wd_map, v_kS_0, v_kS_b, v_kS_r, v_kO_r, v_kW_0, v_kW_1, v_kW_2, v_kW_r, v_kL_0, v_kL_1, v_kL_2, v_kL_r, v_kU_0, ups_11, upsN, upsA, upA_same, upA_neA, fl_at, fl_neA, v_sq_eq, v_sqM_0, v_sqM_r, v_sqM_b, v_sqM_n, sqM_ite, v_asI, v_asR, v_inc, v_pfI, v_pfZ, v_pfO, v_paI, v_paO, v_exI, v_iff, v_rtI, v_rtZ, v_rtV, v_sk, v_brk, v_cnt, v_blk_eq, v_blkM_some, blkM_ite, v_lI, v_lR, v_cI, v_gI, v_gR, v_op1, v_op2, v_arI, v_arR, v_alen, v_tern, v_cmp1, v_cmp2, v_cAnd, v_cOr, v_cNot, v_cTern, v_bn_some, bn_ite, v_bn_none, v_outV_r, v_outV_0, v_outV_n, outV_ite, List.getD_cons_zero, List.getD_cons_succ, List.set_cons_zero, List.set_cons_succ, List.take_succ_cons, List.take_zero, List.drop_succ_cons, List.drop_zero, List.nil_append, List.cons_append, Option.map_some, Option.map_none, if_true, if_false, reduceIte, reduceCtorEq, decide_eq_true_eq, Bool.not_eq_true', decide_eq_false_iff_not, decide_eq_true, decide_eq_false, decide_true, decide_false, and_self, and_true, true_and, or_self, stO, v_caV_, v_caV_i, v_caV_ii, v_caV_iii, v_caV_iiii, v_caV_iiiii, v_caV_il, v_caV_iil, v_caV_l, v_caV_ll, v_caV_r, v_caV_ri, v_caV_rii, v_caV_riii, v_caV_riiii, v_caV_ir, v_caV_iri, v_caV_iiri, v_caS_i, v_caS_ii, v_caS_iii, v_caS_iiii, v_caS_iiiiii, v_caS_il, v_caS_li, v_caS_ll, v_caS_lll, v_caS_ri, v_caS_riii, sh_239, sh_240, sh_241, sh_242, sh_243, sh_244, sh_245, sh_246, sh_247, sh_248, sh_249, sh_250, sh_251, sh_252, sh_253, rf_239_4, rf_239_5, rf_239_6, rf_239_7, rf_239_20, rf_239_21, rf_239_22, rf_239_23, rf_239_27, rf_239_28, rf_239_32, rf_239_33, rf_239_34, rf_239_35, Int.reduceLE, Int.reduceLT, Int.reduceToNat, Int.reduceAdd, Int.reduceSub, Int.reduceMul, Int.reduceNeg, Int.reduceEq, Int.reduceNe, Nat.reduceAdd, Nat.reduceMul, Nat.reduceLT, Nat.reduceEqDiff, or_true, true_or, or_false, false_or, and_false, false_and, not_true_eq_false, not_false_eq_true, ne_eq, cN4, cN5, cN6, cN7, cN13, cN30, cN60, cN64, cN100, cN136, cN240, cN384, cN900, cN2040, cN3, v_sw_eq, v_swM_0, v_swM_1, v_swM_r, v_swM_n, swM_ite, app_ite, ex_some, bI_0, bI_1, nn_iff, Int.toNat_natCast, Int.toNat_of_nonneg, Int.natCast_add, cN1, wI_id2, wL_id2, if_pos, if_neg]
    refine ⟨_, rfl, fun a h1 h2 => ?_, fun k hk => ?_, fun b hb => ?_⟩
    · simp (disch := omega) only [ups_11, upsN, upsA, upA_same, upA_neA, fl_at, fl_neA]; exact f1 a h1 h2
    · simp (disch := omega) only [ups_11, upsN, upsA, upA_same, upA_neA, fl_at, fl_neA]; exact f2 k hk
    · by_cases e : b = i
      · subst e
        have e2 : 6 * q + b = ((q : Int) * 6 + (b : Int)).toNat := by omega
        rw [e2]
        simp (disch := omega) only [ups_11, upsN, upsA, upA_same, upA_neA, fl_at, fl_neA]
        exact ⟨trivial, trivial⟩
      · simp (disch := omega) only [ups_11, upsN, upsA, upA_same, upA_neA, fl_at, fl_neA]; exact f3 b (by omega)
  · intro z hz
    obtain ⟨σ1, hz, f1, f2, f3⟩ := hz
    subst hz
    simp (disch := omega) only [C_X6_fillSlot_0, D_X6_fillSlot_0, U_X6_fillSlot_0, S_s hs, S_r0 hs, S_r1 hs, S_r2 hs, S_q hs, S_q0 hs, S_q1 hs, S_q2 hs, S_q3 hs, S_q4 hs, S_l hs, S_k hs, S_w hs, S_n hs, S_y hs, S_rl hs, S_sl hs, P_a (S_P hs), P_1 (S_P hs), P_2 (S_P hs), P_3 (S_P hs), P_4 (S_P hs), P_5 (S_P hs), P_6 (S_P hs), P_7 (S_P hs), P_8 (S_P hs), P_9 (S_P hs), P_10 (S_P hs), P_t (S_P hs), P_b (S_P hs), P_g (S_P hs), P_r8 (S_P hs), P_r10 (S_P hs), P_r12 (S_P hs), P_r13 (S_P hs), P_e2 (S_P hs), P_e3 (S_P hs), P_e4 (S_P hs), P_e5 (S_P hs), P_e6 (S_P hs), P_e7 (S_P hs), P_rt (S_P hs), P_rb (S_P hs), P_rg (S_P hs), Wd_some, Wd_bn, Wd_sqM, Wd_outV, Wd_blkM, Wd_swM, Wd_ite, Wd_map, v_kS_0, v_kS_b, v_kS_r, v_kO_r, v_kW_0, v_kW_1, v_kW_2, v_kW_r, v_kL_0, v_kL_1, v_kL_2, v_kL_r, v_kU_0, ups_11, upsN, upsA, upA_same, upA_neA, fl_at, fl_neA, v_sq_eq, v_sqM_0, v_sqM_r, v_sqM_b, v_sqM_n, sqM_ite, v_asI, v_asR, v_inc, v_pfI, v_pfZ, v_pfO, v_paI, v_paO, v_exI, v_iff, v_rtI, v_rtZ, v_rtV, v_sk, v_brk, v_cnt, v_blk_eq, v_blkM_some, blkM_ite, v_lI, v_lR, v_cI, v_gI, v_gR, v_op1, v_op2, v_arI, v_arR, v_alen, v_tern, v_cmp1, v_cmp2, v_cAnd, v_cOr, v_cNot, v_cTern, v_bn_some, bn_ite, v_bn_none, v_outV_r, v_outV_0, v_outV_n, outV_ite, List.getD_cons_zero, List.getD_cons_succ, List.set_cons_zero, List.set_cons_succ, List.take_succ_cons, List.take_zero, List.drop_succ_cons, List.drop_zero, List.nil_append, List.cons_append, Option.map_some, Option.map_none, if_true, if_false, reduceIte, reduceCtorEq, decide_eq_true_eq, Bool.not_eq_true', decide_eq_false_iff_not, decide_eq_true, decide_eq_false, decide_true, decide_false, and_self, and_true, true_and, or_self, stO, v_caV_, v_caV_i, v_caV_ii, v_caV_iii, v_caV_iiii, v_caV_iiiii, v_caV_il, v_caV_iil, v_caV_l, v_caV_ll, v_caV_r, v_caV_ri, v_caV_rii, v_caV_riii, v_caV_riiii, v_caV_ir, v_caV_iri, v_caV_iiri, v_caS_i, v_caS_ii, v_caS_iii, v_caS_iiii, v_caS_iiiiii, v_caS_il, v_caS_li, v_caS_ll, v_caS_lll, v_caS_ri, v_caS_riii, sh_239, sh_240, sh_241, sh_242, sh_243, sh_244, sh_245, sh_246, sh_247, sh_248, sh_249, sh_250, sh_251, sh_252, sh_253, rf_239_4, rf_239_5, rf_239_6, rf_239_7, rf_239_20, rf_239_21, rf_239_22, rf_239_23, rf_239_27, rf_239_28, rf_239_32, rf_239_33, rf_239_34, rf_239_35, Int.reduceLE, Int.reduceLT, Int.reduceToNat, Int.reduceAdd, Int.reduceSub, Int.reduceMul, Int.reduceNeg, Int.reduceEq, Int.reduceNe, Nat.reduceAdd, Nat.reduceMul, Nat.reduceLT, Nat.reduceEqDiff, or_true, true_or, or_false, false_or, and_false, false_and, not_true_eq_false, not_false_eq_true, ne_eq, cN4, cN5, cN6, cN7, cN13, cN30, cN60, cN64, cN100, cN136, cN240, cN384, cN900, cN2040, cN3, v_sw_eq, v_swM_0, v_swM_1, v_swM_r, v_swM_n, swM_ite, app_ite, ex_some, bI_0, bI_1, nn_iff, Int.toNat_natCast, Int.toNat_of_nonneg, Int.natCast_add, cN1, wI_id2, wL_id2, if_pos, if_neg]
    exact ⟨σ1, rfl, f1, f2, f3⟩
theorem gainF_bd (c p : Nat → Int) (who : Int) (n : Nat) : 0 ≤ gainB c p who n ∧ gainB c p who n ≤ 3 * n := by
  unfold gainB
  refine sumC_bd (by omega) (fun x y => ?_) n
  split
  · split <;> omega
  · omega
theorem gainB_s (c p : Nat → Int) (who : Int) (n : Nat) : gainB c p who (n + 1) = gainB c p who n + (if holdB c p ((n : Int) % c 0) ((n : Int) / c 0) = who then (if pondB c ((n : Int) % c 0) ((n : Int) / c 0) = 1 then 3 else 1) else 0) := rfl
theorem sumC_1 (c : Nat → Int) (f : Int → Int → Int) (n : Nat) : sumC c f (n + 1) = sumC c f n + f ((n : Int) % c 0) ((n : Int) / c 0) := rfl
theorem nC_c {c : Nat → Int} (hw : WH c) : ((nC c : Nat) : Int) = c 0 * c 1 ∧ nC c ≤ 30 := by
  have m := mul_bd (show 0 ≤ c 0 by omega) (show c 0 ≤ 6 by omega) (show 0 ≤ c 1 by omega) (show c 1 ≤ 5 by omega)
  unfold nC
  omega
theorem holdB_rng {c : Nat → Int} (hw : WH c) (p : Nat → Int) (x y : Int) : -2 ≤ holdB c p x y ∧ holdB c p x y < c 3 := by
  have hn := bn3_c hw
  have := whoN_rng (noiB c p x y) (bn3 c)
  unfold holdB
  omega
theorem kl_fill1 (hs : isS s) (P : PkS σ (s + 1) c w) (hw : WB c) (hl : LossT s c (c 3) σ) {pl q : Nat} (hpl : sh pl = (2, 0, 6)) (hp : plO c (σ pl)) (hq : q < 64) {z0 : ZZ} (hz0 : FsZ s pl q σ 6 z0) : Wd (L_X6_fillSlot_1 (z0.1.set 4 0, z0.2)) (fun o z => o = .inl 0 ∧ FsI s c (σ pl) pl q σ (nC c) z) := by
  have n1 : pl ≠ s + 39 := fun e => by rw [e, S_w hs] at hpl; cases hpl
  have n2 : pl ≠ s + 40 := fun e => by rw [e, S_n hs] at hpl; cases hpl
  obtain ⟨hN, hN2⟩ := nC_c hw.1
  have hH := hw.1
  unfold L_X6_fillSlot_1
  obtain ⟨σ0, hz0, g1, g2, g3⟩ := hz0
  subst hz0
  refine Wd_it (FsI s c (σ pl) pl q σ) (nC c) ⟨σ0, rfl, g1, g2, g3⟩ ?_ ?_
  · intro i z hi hz
    obtain ⟨σ1, hz, f1, f2, f3⟩ := hz
    subst hz
    have P1 : PkS σ1 (s + 1) c w := PkS_c hw.1 (fun k hk => by rw [f1 _ (by omega) (by omega)]) (fun x h1 h2 => f1 _ (by omega) (by omega)) P
    have l1 : LossT s c (c 3) σ1 := LossT_c hw.1 (fun a h1 h2 => f1 _ (by omega) (by omega)) hl
    have e0 : σ1 pl = σ pl := f1 _ n1 n2
    have e1 := k_holderAt hs P1.1 P1.2.1 P1.2.2.1 hw.1 hw.2.1 hw.2.2.1 l1 hpl (by rw [e0]; exact hp) (k := i) (by omega)
    rw [e0] at e1
    have cc := k_countCells (S_P hs) P1.1 hw.1
    have po := P1.2.2.2 i (by omega)
    obtain ⟨w1, w2, w3, w4⟩ := cell_rng hw.1 (k := i) (by omega)
    have pb := (hw.2.2.2 (6 * ((i : Int) / c 0) + (i : Int) % c 0) (by omega) (by omega)).1
    have pb : 0 ≤ pondB c ((i : Int) % c 0) ((i : Int) / c 0) ∧ pondB c ((i : Int) % c 0) ((i : Int) / c 0) ≤ 1 := by
      unfold pondB
      rw [show 106 + 6 * ((i : Int) / c 0) + (i : Int) % c 0 = 106 + (6 * ((i : Int) / c 0) + (i : Int) % c 0) by omega]
      exact pb
    have wr := holdB_rng hw.1 (σ pl) ((i : Int) % c 0) ((i : Int) / c 0)
    have s1 : ∀ b : Nat, sumC c (hldF c (σ pl) b) (i + 1) = sumC c (hldF c (σ pl) b) i + (if holdB c (σ pl) ((i : Int) % c 0) ((i : Int) / c 0) = b then 1 else 0) := fun b => rfl
    have s2 : ∀ b : Nat, gainB c (σ pl) b (i + 1) = gainB c (σ pl) b i + (if holdB c (σ pl) ((i : Int) % c 0) ((i : Int) / c 0) = b then (if pondB c ((i : Int) % c 0) ((i : Int) / c 0) = 1 then 3 else 1) else 0) := fun b => rfl
    generalize holdB c (σ pl) ((i : Int) % c 0) ((i : Int) / c 0) = wh at e1 wr s1 s2
    generalize pondB c ((i : Int) % c 0) ((i : Int) / c 0) = pd at po pb s2
    by_cases g : wh < 0
    · simp (disch := omega) only [C_X6_fillSlot_1, D_X6_fillSlot_1, U_X6_fillSlot_1, S_s hs, S_r0 hs, S_r1 hs, S_r2 hs, S_q hs, S_q0 hs, S_q1 hs, S_q2 hs, S_q3 hs, S_q4 hs, S_l hs, S_k hs, S_w hs, S_n hs, S_y hs, S_rl hs, S_sl hs, P_a (S_P hs), P_1 (S_P hs), P_2 (S_P hs), P_3 (S_P hs), P_4 (S_P hs), P_5 (S_P hs), P_6 (S_P hs), P_7 (S_P hs), P_8 (S_P hs), P_9 (S_P hs), P_10 (S_P hs), P_t (S_P hs), P_b (S_P hs), P_g (S_P hs), P_r8 (S_P hs), P_r10 (S_P hs), P_r12 (S_P hs), P_r13 (S_P hs), P_e2 (S_P hs), P_e3 (S_P hs), P_e4 (S_P hs), P_e5 (S_P hs), P_e6 (S_P hs), P_e7 (S_P hs), P_rt (S_P hs), P_rb (S_P hs), P_rg (S_P hs), cc, e1, Wd_some, Wd_bn, Wd_sqM, Wd_outV, Wd_blkM, Wd_swM, Wd_ite, Wd_map, v_kS_0, v_kS_b, v_kS_r, v_kO_r, v_kW_0, v_kW_1, v_kW_2, v_kW_r, v_kL_0, v_kL_1, v_kL_2, v_kL_r, v_kU_0, ups_11, upsN, upsA, upA_same, upA_neA, fl_at, fl_neA, v_sq_eq, v_sqM_0, v_sqM_r, v_sqM_b, v_sqM_n, sqM_ite, v_asI, v_asR, v_inc, v_pfI, v_pfZ, v_pfO, v_paI, v_paO, v_exI, v_iff, v_rtI, v_rtZ, v_rtV, v_sk, v_brk, v_cnt, v_blk_eq, v_blkM_some, blkM_ite, v_lI, v_lR, v_cI, v_gI, v_gR, v_op1, v_op2, v_arI, v_arR, v_alen, v_tern, v_cmp1, v_cmp2, v_cAnd, v_cOr, v_cNot, v_cTern, v_bn_some, bn_ite, v_bn_none, v_outV_r, v_outV_0, v_outV_n, outV_ite, List.getD_cons_zero, List.getD_cons_succ, List.set_cons_zero, List.set_cons_succ, List.take_succ_cons, List.take_zero, List.drop_succ_cons, List.drop_zero, List.nil_append, List.cons_append, Option.map_some, Option.map_none, if_true, if_false, reduceIte, reduceCtorEq, decide_eq_true_eq, Bool.not_eq_true', decide_eq_false_iff_not, decide_eq_true, decide_eq_false, decide_true, decide_false, and_self, and_true, true_and, or_self, stO, v_caV_, v_caV_i, v_caV_ii, v_caV_iii, v_caV_iiii, v_caV_iiiii, v_caV_il, v_caV_iil, v_caV_l, v_caV_ll, v_caV_r, v_caV_ri, v_caV_rii, v_caV_riii, v_caV_riiii, v_caV_ir, v_caV_iri, v_caV_iiri, v_caS_i, v_caS_ii, v_caS_iii, v_caS_iiii, v_caS_iiiiii, v_caS_il, v_caS_li, v_caS_ll, v_caS_lll, v_caS_ri, v_caS_riii, sh_239, sh_240, sh_241, sh_242, sh_243, sh_244, sh_245, sh_246, sh_247, sh_248, sh_249, sh_250, sh_251, sh_252, sh_253, rf_239_4, rf_239_5, rf_239_6, rf_239_7, rf_239_20, rf_239_21, rf_239_22, rf_239_23, rf_239_27, rf_239_28, rf_239_32, rf_239_33, rf_239_34, rf_239_35, Int.reduceLE, Int.reduceLT, Int.reduceToNat, Int.reduceAdd, Int.reduceSub, Int.reduceMul, Int.reduceNeg, Int.reduceEq, Int.reduceNe, Nat.reduceAdd, Nat.reduceMul, Nat.reduceLT, Nat.reduceEqDiff, or_true, true_or, or_false, false_or, and_false, false_and, not_true_eq_false, not_false_eq_true, ne_eq, cN4, cN5, cN6, cN7, cN13, cN30, cN60, cN64, cN100, cN136, cN240, cN384, cN900, cN2040, cN3, v_sw_eq, v_swM_0, v_swM_1, v_swM_r, v_swM_n, swM_ite, app_ite, ex_some, bI_0, bI_1, nn_iff, Int.toNat_natCast, Int.toNat_of_nonneg, Int.natCast_add, cN1, wI_id2, wL_id2, if_pos, if_neg]
      refine ⟨_, rfl, f1, f2, fun b hb => ?_⟩
      rw [s1, s2, if_neg (by omega), if_neg (by omega), Int.add_zero, Int.add_zero]
      exact f3 b hb
    · obtain ⟨wn, hwn⟩ : ∃ wn : Nat, wh = (wn : Int) := ⟨wh.toNat, by omega⟩
      subst hwn
      have ix : ((q : Int) * 6 + (wn : Int)).toNat = 6 * q + wn := by omega
      obtain ⟨v1, v2⟩ := f3 wn (by omega)
      have b1 := sumC_bd (c := c) (B := 1) (by omega) (hldF_bd c (σ pl) wn) i
      have b2 := gainF_bd c (σ pl) wn i
      by_cases gp : pd = 0
      · simp (disch := omega) only [C_X6_fillSlot_1, D_X6_fillSlot_1, U_X6_fillSlot_1, S_s hs, S_r0 hs, S_r1 hs, S_r2 hs, S_q hs, S_q0 hs, S_q1 hs, S_q2 hs, S_q3 hs, S_q4 hs, S_l hs, S_k hs, S_w hs, S_n hs, S_y hs, S_rl hs, S_sl hs, P_a (S_P hs), P_1 (S_P hs), P_2 (S_P hs), P_3 (S_P hs), P_4 (S_P hs), P_5 (S_P hs), P_6 (S_P hs), P_7 (S_P hs), P_8 (S_P hs), P_9 (S_P hs), P_10 (S_P hs), P_t (S_P hs), P_b (S_P hs), P_g (S_P hs), P_r8 (S_P hs), P_r10 (S_P hs), P_r12 (S_P hs), P_r13 (S_P hs), P_e2 (S_P hs), P_e3 (S_P hs), P_e4 (S_P hs), P_e5 (S_P hs), P_e6 (S_P hs), P_e7 (S_P hs), P_rt (S_P hs), P_rb (S_P hs), P_rg (S_P hs), cc, e1, ix, v1, v2, po, gp, Wd_some, Wd_bn, Wd_sqM, Wd_outV, Wd_blkM, Wd_swM, Wd_ite, Wd_map, v_kS_0, v_kS_b, v_kS_r, v_kO_r, v_kW_0, v_kW_1, v_kW_2, v_kW_r, v_kL_0, v_kL_1, v_kL_2, v_kL_r, v_kU_0, ups_11, upsN, upsA, upA_same, upA_neA, fl_at, fl_neA, v_sq_eq, v_sqM_0, v_sqM_r, v_sqM_b, v_sqM_n, sqM_ite, v_asI, v_asR, v_inc, v_pfI, v_pfZ, v_pfO, v_paI, v_paO, v_exI, v_iff, v_rtI, v_rtZ, v_rtV, v_sk, v_brk, v_cnt, v_blk_eq, v_blkM_some, blkM_ite, v_lI, v_lR, v_cI, v_gI, v_gR, v_op1, v_op2, v_arI, v_arR, v_alen, v_tern, v_cmp1, v_cmp2, v_cAnd, v_cOr, v_cNot, v_cTern, v_bn_some, bn_ite, v_bn_none, v_outV_r, v_outV_0, v_outV_n, outV_ite, List.getD_cons_zero, List.getD_cons_succ, List.set_cons_zero, List.set_cons_succ, List.take_succ_cons, List.take_zero, List.drop_succ_cons, List.drop_zero, List.nil_append, List.cons_append, Option.map_some, Option.map_none, if_true, if_false, reduceIte, reduceCtorEq, decide_eq_true_eq, Bool.not_eq_true', decide_eq_false_iff_not, decide_eq_true, decide_eq_false, decide_true, decide_false, and_self, and_true, true_and, or_self, stO, v_caV_, v_caV_i, v_caV_ii, v_caV_iii, v_caV_iiii, v_caV_iiiii, v_caV_il, v_caV_iil, v_caV_l, v_caV_ll, v_caV_r, v_caV_ri, v_caV_rii, v_caV_riii, v_caV_riiii, v_caV_ir, v_caV_iri, v_caV_iiri, v_caS_i, v_caS_ii, v_caS_iii, v_caS_iiii, v_caS_iiiiii, v_caS_il, v_caS_li, v_caS_ll, v_caS_lll, v_caS_ri, v_caS_riii, sh_239, sh_240, sh_241, sh_242, sh_243, sh_244, sh_245, sh_246, sh_247, sh_248, sh_249, sh_250, sh_251, sh_252, sh_253, rf_239_4, rf_239_5, rf_239_6, rf_239_7, rf_239_20, rf_239_21, rf_239_22, rf_239_23, rf_239_27, rf_239_28, rf_239_32, rf_239_33, rf_239_34, rf_239_35, Int.reduceLE, Int.reduceLT, Int.reduceToNat, Int.reduceAdd, Int.reduceSub, Int.reduceMul, Int.reduceNeg, Int.reduceEq, Int.reduceNe, Nat.reduceAdd, Nat.reduceMul, Nat.reduceLT, Nat.reduceEqDiff, or_true, true_or, or_false, false_or, and_false, false_and, not_true_eq_false, not_false_eq_true, ne_eq, cN4, cN5, cN6, cN7, cN13, cN30, cN60, cN64, cN100, cN136, cN240, cN384, cN900, cN2040, cN3, v_sw_eq, v_swM_0, v_swM_1, v_swM_r, v_swM_n, swM_ite, app_ite, ex_some, bI_0, bI_1, nn_iff, Int.toNat_natCast, Int.toNat_of_nonneg, Int.natCast_add, cN1, wI_id2, wL_id2, if_pos, if_neg]
        refine ⟨_, rfl, fun a h1 h2 => ?_, fun k hk => ?_, fun b hb => ?_⟩
        · simp (disch := omega) only [ups_11, upsN, upsA, upA_same, upA_neA, fl_at, fl_neA]; exact f1 a h1 h2
        · simp (disch := omega) only [ups_11, upsN, upsA, upA_same, upA_neA, fl_at, fl_neA]; exact f2 k hk
        · by_cases e : b = wn
          · subst e
            simp (disch := omega) only [ups_11, upsN, upsA, upA_same, upA_neA, fl_at, fl_neA]
            rw [s1, s2, if_pos rfl, if_pos rfl, if_neg (by omega)]
            exact ⟨rfl, rfl⟩
          · simp (disch := omega) only [ups_11, upsN, upsA, upA_same, upA_neA, fl_at, fl_neA]
            rw [s1, s2, if_neg (by omega), if_neg (by omega), Int.add_zero, Int.add_zero]
            exact f3 b hb
      · simp (disch := omega) only [C_X6_fillSlot_1, D_X6_fillSlot_1, U_X6_fillSlot_1, S_s hs, S_r0 hs, S_r1 hs, S_r2 hs, S_q hs, S_q0 hs, S_q1 hs, S_q2 hs, S_q3 hs, S_q4 hs, S_l hs, S_k hs, S_w hs, S_n hs, S_y hs, S_rl hs, S_sl hs, P_a (S_P hs), P_1 (S_P hs), P_2 (S_P hs), P_3 (S_P hs), P_4 (S_P hs), P_5 (S_P hs), P_6 (S_P hs), P_7 (S_P hs), P_8 (S_P hs), P_9 (S_P hs), P_10 (S_P hs), P_t (S_P hs), P_b (S_P hs), P_g (S_P hs), P_r8 (S_P hs), P_r10 (S_P hs), P_r12 (S_P hs), P_r13 (S_P hs), P_e2 (S_P hs), P_e3 (S_P hs), P_e4 (S_P hs), P_e5 (S_P hs), P_e6 (S_P hs), P_e7 (S_P hs), P_rt (S_P hs), P_rb (S_P hs), P_rg (S_P hs), cc, e1, ix, v1, v2, po, gp, Wd_some, Wd_bn, Wd_sqM, Wd_outV, Wd_blkM, Wd_swM, Wd_ite, Wd_map, v_kS_0, v_kS_b, v_kS_r, v_kO_r, v_kW_0, v_kW_1, v_kW_2, v_kW_r, v_kL_0, v_kL_1, v_kL_2, v_kL_r, v_kU_0, ups_11, upsN, upsA, upA_same, upA_neA, fl_at, fl_neA, v_sq_eq, v_sqM_0, v_sqM_r, v_sqM_b, v_sqM_n, sqM_ite, v_asI, v_asR, v_inc, v_pfI, v_pfZ, v_pfO, v_paI, v_paO, v_exI, v_iff, v_rtI, v_rtZ, v_rtV, v_sk, v_brk, v_cnt, v_blk_eq, v_blkM_some, blkM_ite, v_lI, v_lR, v_cI, v_gI, v_gR, v_op1, v_op2, v_arI, v_arR, v_alen, v_tern, v_cmp1, v_cmp2, v_cAnd, v_cOr, v_cNot, v_cTern, v_bn_some, bn_ite, v_bn_none, v_outV_r, v_outV_0, v_outV_n, outV_ite, List.getD_cons_zero, List.getD_cons_succ, List.set_cons_zero, List.set_cons_succ, List.take_succ_cons, List.take_zero, List.drop_succ_cons, List.drop_zero, List.nil_append, List.cons_append, Option.map_some, Option.map_none, if_true, if_false, reduceIte, reduceCtorEq, decide_eq_true_eq, Bool.not_eq_true', decide_eq_false_iff_not, decide_eq_true, decide_eq_false, decide_true, decide_false, and_self, and_true, true_and, or_self, stO, v_caV_, v_caV_i, v_caV_ii, v_caV_iii, v_caV_iiii, v_caV_iiiii, v_caV_il, v_caV_iil, v_caV_l, v_caV_ll, v_caV_r, v_caV_ri, v_caV_rii, v_caV_riii, v_caV_riiii, v_caV_ir, v_caV_iri, v_caV_iiri, v_caS_i, v_caS_ii, v_caS_iii, v_caS_iiii, v_caS_iiiiii, v_caS_il, v_caS_li, v_caS_ll, v_caS_lll, v_caS_ri, v_caS_riii, sh_239, sh_240, sh_241, sh_242, sh_243, sh_244, sh_245, sh_246, sh_247, sh_248, sh_249, sh_250, sh_251, sh_252, sh_253, rf_239_4, rf_239_5, rf_239_6, rf_239_7, rf_239_20, rf_239_21, rf_239_22, rf_239_23, rf_239_27, rf_239_28, rf_239_32, rf_239_33, rf_239_34, rf_239_35, Int.reduceLE, Int.reduceLT, Int.reduceToNat, Int.reduceAdd, Int.reduceSub, Int.reduceMul, Int.reduceNeg, Int.reduceEq, Int.reduceNe, Nat.reduceAdd, Nat.reduceMul, Nat.reduceLT, Nat.reduceEqDiff, or_true, true_or, or_false, false_or, and_false, false_and, not_true_eq_false, not_false_eq_true, ne_eq, cN4, cN5, cN6, cN7, cN13, cN30, cN60, cN64, cN100, cN136, cN240, cN384, cN900, cN2040, cN3, v_sw_eq, v_swM_0, v_swM_1, v_swM_r, v_swM_n, swM_ite, app_ite, ex_some, bI_0, bI_1, nn_iff, Int.toNat_natCast, Int.toNat_of_nonneg, Int.natCast_add, cN1, wI_id2, wL_id2, if_pos, if_neg]
        refine ⟨_, rfl, fun a h1 h2 => ?_, fun k hk => ?_, fun b hb => ?_⟩
        · simp (disch := omega) only [ups_11, upsN, upsA, upA_same, upA_neA, fl_at, fl_neA]; exact f1 a h1 h2
        · simp (disch := omega) only [ups_11, upsN, upsA, upA_same, upA_neA, fl_at, fl_neA]; exact f2 k hk
        · by_cases e : b = wn
          · subst e
            simp (disch := omega) only [ups_11, upsN, upsA, upA_same, upA_neA, fl_at, fl_neA]
            rw [s1, s2, if_pos rfl, if_pos rfl, if_pos (by omega)]
            exact ⟨rfl, rfl⟩
          · simp (disch := omega) only [ups_11, upsN, upsA, upA_same, upA_neA, fl_at, fl_neA]
            rw [s1, s2, if_neg (by omega), if_neg (by omega), Int.add_zero, Int.add_zero]
            exact f3 b hb
  · intro z hz
    obtain ⟨σ1, hz, f1, f2, f3⟩ := hz
    subst hz
    have P1 : PkS σ1 (s + 1) c w := PkS_c hw.1 (fun k hk => by rw [f1 _ (by omega) (by omega)]) (fun x h1 h2 => f1 _ (by omega) (by omega)) P
    have cc := k_countCells (S_P hs) P1.1 hw.1
    simp (disch := omega) only [C_X6_fillSlot_1, D_X6_fillSlot_1, U_X6_fillSlot_1, S_s hs, S_r0 hs, S_r1 hs, S_r2 hs, S_q hs, S_q0 hs, S_q1 hs, S_q2 hs, S_q3 hs, S_q4 hs, S_l hs, S_k hs, S_w hs, S_n hs, S_y hs, S_rl hs, S_sl hs, P_a (S_P hs), P_1 (S_P hs), P_2 (S_P hs), P_3 (S_P hs), P_4 (S_P hs), P_5 (S_P hs), P_6 (S_P hs), P_7 (S_P hs), P_8 (S_P hs), P_9 (S_P hs), P_10 (S_P hs), P_t (S_P hs), P_b (S_P hs), P_g (S_P hs), P_r8 (S_P hs), P_r10 (S_P hs), P_r12 (S_P hs), P_r13 (S_P hs), P_e2 (S_P hs), P_e3 (S_P hs), P_e4 (S_P hs), P_e5 (S_P hs), P_e6 (S_P hs), P_e7 (S_P hs), P_rt (S_P hs), P_rb (S_P hs), P_rg (S_P hs), cc, hN, Wd_some, Wd_bn, Wd_sqM, Wd_outV, Wd_blkM, Wd_swM, Wd_ite, Wd_map, v_kS_0, v_kS_b, v_kS_r, v_kO_r, v_kW_0, v_kW_1, v_kW_2, v_kW_r, v_kL_0, v_kL_1, v_kL_2, v_kL_r, v_kU_0, ups_11, upsN, upsA, upA_same, upA_neA, fl_at, fl_neA, v_sq_eq, v_sqM_0, v_sqM_r, v_sqM_b, v_sqM_n, sqM_ite, v_asI, v_asR, v_inc, v_pfI, v_pfZ, v_pfO, v_paI, v_paO, v_exI, v_iff, v_rtI, v_rtZ, v_rtV, v_sk, v_brk, v_cnt, v_blk_eq, v_blkM_some, blkM_ite, v_lI, v_lR, v_cI, v_gI, v_gR, v_op1, v_op2, v_arI, v_arR, v_alen, v_tern, v_cmp1, v_cmp2, v_cAnd, v_cOr, v_cNot, v_cTern, v_bn_some, bn_ite, v_bn_none, v_outV_r, v_outV_0, v_outV_n, outV_ite, List.getD_cons_zero, List.getD_cons_succ, List.set_cons_zero, List.set_cons_succ, List.take_succ_cons, List.take_zero, List.drop_succ_cons, List.drop_zero, List.nil_append, List.cons_append, Option.map_some, Option.map_none, if_true, if_false, reduceIte, reduceCtorEq, decide_eq_true_eq, Bool.not_eq_true', decide_eq_false_iff_not, decide_eq_true, decide_eq_false, decide_true, decide_false, and_self, and_true, true_and, or_self, stO, v_caV_, v_caV_i, v_caV_ii, v_caV_iii, v_caV_iiii, v_caV_iiiii, v_caV_il, v_caV_iil, v_caV_l, v_caV_ll, v_caV_r, v_caV_ri, v_caV_rii, v_caV_riii, v_caV_riiii, v_caV_ir, v_caV_iri, v_caV_iiri, v_caS_i, v_caS_ii, v_caS_iii, v_caS_iiii, v_caS_iiiiii, v_caS_il, v_caS_li, v_caS_ll, v_caS_lll, v_caS_ri, v_caS_riii, sh_239, sh_240, sh_241, sh_242, sh_243, sh_244, sh_245, sh_246, sh_247, sh_248, sh_249, sh_250, sh_251, sh_252, sh_253, rf_239_4, rf_239_5, rf_239_6, rf_239_7, rf_239_20, rf_239_21, rf_239_22, rf_239_23, rf_239_27, rf_239_28, rf_239_32, rf_239_33, rf_239_34, rf_239_35, Int.reduceLE, Int.reduceLT, Int.reduceToNat, Int.reduceAdd, Int.reduceSub, Int.reduceMul, Int.reduceNeg, Int.reduceEq, Int.reduceNe, Nat.reduceAdd, Nat.reduceMul, Nat.reduceLT, Nat.reduceEqDiff, or_true, true_or, or_false, false_or, and_false, false_and, not_true_eq_false, not_false_eq_true, ne_eq, cN4, cN5, cN6, cN7, cN13, cN30, cN60, cN64, cN100, cN136, cN240, cN384, cN900, cN2040, cN3, v_sw_eq, v_swM_0, v_swM_1, v_swM_r, v_swM_n, swM_ite, app_ite, ex_some, bI_0, bI_1, nn_iff, Int.toNat_natCast, Int.toNat_of_nonneg, Int.natCast_add, cN1, wI_id2, wL_id2, if_pos, if_neg]
    exact ⟨σ1, by rw [hN], f1, f2, f3⟩
theorem k_fillSlot (hs : isS s) (P : PkS σ (s + 1) c w) (hw : WB c) (hl : LossT s c (c 3) σ) {pl q : Nat} (hpl : sh pl = (2, 0, 6)) (hp : plO c (σ pl)) (hq : q < 64) : Wd (F_X6_fillSlot (s + 30) q pl σ) (fun r σ' => r = 0 ∧ (∀ a, a ≠ s + 39 → a ≠ s + 40 → σ' a = σ a) ∧ (∀ k, ¬ (6 * q ≤ k ∧ k < 6 * q + 6) → σ' (s + 39) k = σ (s + 39) k ∧ σ' (s + 40) k = σ (s + 40) k) ∧ ∀ b : Nat, b < 6 → σ' (s + 39) (6 * q + b) = cellsB c (σ pl) b ∧ σ' (s + 40) (6 * q + b) = gainB c (σ pl) b (nC c)) := by
  simp (disch := omega) only [F_X6_fillSlot, E_X6_fillSlot, Wd_some, Wd_bn, Wd_sqM, Wd_outV, Wd_blkM, Wd_swM, Wd_ite, Wd_map, v_kS_0, v_kS_b, v_kS_r, v_kO_r, v_kW_0, v_kW_1, v_kW_2, v_kW_r, v_kL_0, v_kL_1, v_kL_2, v_kL_r, v_kU_0, ups_11, upsN, upsA, upA_same, upA_neA, fl_at, fl_neA, v_sq_eq, v_sqM_0, v_sqM_r, v_sqM_b, v_sqM_n, sqM_ite, v_asI, v_asR, v_inc, v_pfI, v_pfZ, v_pfO, v_paI, v_paO, v_exI, v_iff, v_rtI, v_rtZ, v_rtV, v_sk, v_brk, v_cnt, v_blk_eq, v_blkM_some, blkM_ite, v_lI, v_lR, v_cI, v_gI, v_gR, v_op1, v_op2, v_arI, v_arR, v_alen, v_tern, v_cmp1, v_cmp2, v_cAnd, v_cOr, v_cNot, v_cTern, v_bn_some, bn_ite, v_bn_none, v_outV_r, v_outV_0, v_outV_n, outV_ite, List.getD_cons_zero, List.getD_cons_succ, List.set_cons_zero, List.set_cons_succ, List.take_succ_cons, List.take_zero, List.drop_succ_cons, List.drop_zero, List.nil_append, List.cons_append, Option.map_some, Option.map_none, if_true, if_false, reduceIte, reduceCtorEq, decide_eq_true_eq, Bool.not_eq_true', decide_eq_false_iff_not, decide_eq_true, decide_eq_false, decide_true, decide_false, and_self, and_true, true_and, or_self, stO, v_caV_, v_caV_i, v_caV_ii, v_caV_iii, v_caV_iiii, v_caV_iiiii, v_caV_il, v_caV_iil, v_caV_l, v_caV_ll, v_caV_r, v_caV_ri, v_caV_rii, v_caV_riii, v_caV_riiii, v_caV_ir, v_caV_iri, v_caV_iiri, v_caS_i, v_caS_ii, v_caS_iii, v_caS_iiii, v_caS_iiiiii, v_caS_il, v_caS_li, v_caS_ll, v_caS_lll, v_caS_ri, v_caS_riii, sh_239, sh_240, sh_241, sh_242, sh_243, sh_244, sh_245, sh_246, sh_247, sh_248, sh_249, sh_250, sh_251, sh_252, sh_253, rf_239_4, rf_239_5, rf_239_6, rf_239_7, rf_239_20, rf_239_21, rf_239_22, rf_239_23, rf_239_27, rf_239_28, rf_239_32, rf_239_33, rf_239_34, rf_239_35, Int.reduceLE, Int.reduceLT, Int.reduceToNat, Int.reduceAdd, Int.reduceSub, Int.reduceMul, Int.reduceNeg, Int.reduceEq, Int.reduceNe, Nat.reduceAdd, Nat.reduceMul, Nat.reduceLT, Nat.reduceEqDiff, or_true, true_or, or_false, false_or, and_false, false_and, not_true_eq_false, not_false_eq_true, ne_eq, cN4, cN5, cN6, cN7, cN13, cN30, cN60, cN64, cN100, cN136, cN240, cN384, cN900, cN2040, cN3, v_sw_eq, v_swM_0, v_swM_1, v_swM_r, v_swM_n, swM_ite, app_ite, ex_some, bI_0, bI_1, nn_iff, Int.toNat_natCast, Int.toNat_of_nonneg, Int.natCast_add, cN1, wI_id2, wL_id2, if_pos, if_neg]
  refine Wd_mono (kl_fill0 hs hq) (fun o z hz => ?_)
  obtain ⟨ho, hz⟩ := hz
  subst ho
  have q1 := kl_fill1 hs P hw hl hpl hp hq hz
  obtain ⟨σ0, hz, g1, g2, g3⟩ := hz
  subst hz
  simp (disch := omega) only [Wd_some, Wd_bn, Wd_sqM, Wd_outV, Wd_blkM, Wd_swM, Wd_ite, Wd_map, v_kS_0, v_kS_b, v_kS_r, v_kO_r, v_kW_0, v_kW_1, v_kW_2, v_kW_r, v_kL_0, v_kL_1, v_kL_2, v_kL_r, v_kU_0, ups_11, upsN, upsA, upA_same, upA_neA, fl_at, fl_neA, v_sq_eq, v_sqM_0, v_sqM_r, v_sqM_b, v_sqM_n, sqM_ite, v_asI, v_asR, v_inc, v_pfI, v_pfZ, v_pfO, v_paI, v_paO, v_exI, v_iff, v_rtI, v_rtZ, v_rtV, v_sk, v_brk, v_cnt, v_blk_eq, v_blkM_some, blkM_ite, v_lI, v_lR, v_cI, v_gI, v_gR, v_op1, v_op2, v_arI, v_arR, v_alen, v_tern, v_cmp1, v_cmp2, v_cAnd, v_cOr, v_cNot, v_cTern, v_bn_some, bn_ite, v_bn_none, v_outV_r, v_outV_0, v_outV_n, outV_ite, List.getD_cons_zero, List.getD_cons_succ, List.set_cons_zero, List.set_cons_succ, List.take_succ_cons, List.take_zero, List.drop_succ_cons, List.drop_zero, List.nil_append, List.cons_append, Option.map_some, Option.map_none, if_true, if_false, reduceIte, reduceCtorEq, decide_eq_true_eq, Bool.not_eq_true', decide_eq_false_iff_not, decide_eq_true, decide_eq_false, decide_true, decide_false, and_self, and_true, true_and, or_self, stO, v_caV_, v_caV_i, v_caV_ii, v_caV_iii, v_caV_iiii, v_caV_iiiii, v_caV_il, v_caV_iil, v_caV_l, v_caV_ll, v_caV_r, v_caV_ri, v_caV_rii, v_caV_riii, v_caV_riiii, v_caV_ir, v_caV_iri, v_caV_iiri, v_caS_i, v_caS_ii, v_caS_iii, v_caS_iiii, v_caS_iiiiii, v_caS_il, v_caS_li, v_caS_ll, v_caS_lll, v_caS_ri, v_caS_riii, sh_239, sh_240, sh_241, sh_242, sh_243, sh_244, sh_245, sh_246, sh_247, sh_248, sh_249, sh_250, sh_251, sh_252, sh_253, rf_239_4, rf_239_5, rf_239_6, rf_239_7, rf_239_20, rf_239_21, rf_239_22, rf_239_23, rf_239_27, rf_239_28, rf_239_32, rf_239_33, rf_239_34, rf_239_35, Int.reduceLE, Int.reduceLT, Int.reduceToNat, Int.reduceAdd, Int.reduceSub, Int.reduceMul, Int.reduceNeg, Int.reduceEq, Int.reduceNe, Nat.reduceAdd, Nat.reduceMul, Nat.reduceLT, Nat.reduceEqDiff, or_true, true_or, or_false, false_or, and_false, false_and, not_true_eq_false, not_false_eq_true, ne_eq, cN4, cN5, cN6, cN7, cN13, cN30, cN60, cN64, cN100, cN136, cN240, cN384, cN900, cN2040, cN3, v_sw_eq, v_swM_0, v_swM_1, v_swM_r, v_swM_n, swM_ite, app_ite, ex_some, bI_0, bI_1, nn_iff, Int.toNat_natCast, Int.toNat_of_nonneg, Int.natCast_add, cN1, wI_id2, wL_id2, if_pos, if_neg]
  refine Wd_mono q1 (fun o z hz => ?_)
  obtain ⟨ho, σ1, hz, f1, f2, f3⟩ := hz
  subst ho; subst hz
  simp (disch := omega) only [Wd_some, Wd_bn, Wd_sqM, Wd_outV, Wd_blkM, Wd_swM, Wd_ite, Wd_map, v_kS_0, v_kS_b, v_kS_r, v_kO_r, v_kW_0, v_kW_1, v_kW_2, v_kW_r, v_kL_0, v_kL_1, v_kL_2, v_kL_r, v_kU_0, ups_11, upsN, upsA, upA_same, upA_neA, fl_at, fl_neA, v_sq_eq, v_sqM_0, v_sqM_r, v_sqM_b, v_sqM_n, sqM_ite, v_asI, v_asR, v_inc, v_pfI, v_pfZ, v_pfO, v_paI, v_paO, v_exI, v_iff, v_rtI, v_rtZ, v_rtV, v_sk, v_brk, v_cnt, v_blk_eq, v_blkM_some, blkM_ite, v_lI, v_lR, v_cI, v_gI, v_gR, v_op1, v_op2, v_arI, v_arR, v_alen, v_tern, v_cmp1, v_cmp2, v_cAnd, v_cOr, v_cNot, v_cTern, v_bn_some, bn_ite, v_bn_none, v_outV_r, v_outV_0, v_outV_n, outV_ite, List.getD_cons_zero, List.getD_cons_succ, List.set_cons_zero, List.set_cons_succ, List.take_succ_cons, List.take_zero, List.drop_succ_cons, List.drop_zero, List.nil_append, List.cons_append, Option.map_some, Option.map_none, if_true, if_false, reduceIte, reduceCtorEq, decide_eq_true_eq, Bool.not_eq_true', decide_eq_false_iff_not, decide_eq_true, decide_eq_false, decide_true, decide_false, and_self, and_true, true_and, or_self, stO, v_caV_, v_caV_i, v_caV_ii, v_caV_iii, v_caV_iiii, v_caV_iiiii, v_caV_il, v_caV_iil, v_caV_l, v_caV_ll, v_caV_r, v_caV_ri, v_caV_rii, v_caV_riii, v_caV_riiii, v_caV_ir, v_caV_iri, v_caV_iiri, v_caS_i, v_caS_ii, v_caS_iii, v_caS_iiii, v_caS_iiiiii, v_caS_il, v_caS_li, v_caS_ll, v_caS_lll, v_caS_ri, v_caS_riii, sh_239, sh_240, sh_241, sh_242, sh_243, sh_244, sh_245, sh_246, sh_247, sh_248, sh_249, sh_250, sh_251, sh_252, sh_253, rf_239_4, rf_239_5, rf_239_6, rf_239_7, rf_239_20, rf_239_21, rf_239_22, rf_239_23, rf_239_27, rf_239_28, rf_239_32, rf_239_33, rf_239_34, rf_239_35, Int.reduceLE, Int.reduceLT, Int.reduceToNat, Int.reduceAdd, Int.reduceSub, Int.reduceMul, Int.reduceNeg, Int.reduceEq, Int.reduceNe, Nat.reduceAdd, Nat.reduceMul, Nat.reduceLT, Nat.reduceEqDiff, or_true, true_or, or_false, false_or, and_false, false_and, not_true_eq_false, not_false_eq_true, ne_eq, cN4, cN5, cN6, cN7, cN13, cN30, cN60, cN64, cN100, cN136, cN240, cN384, cN900, cN2040, cN3, v_sw_eq, v_swM_0, v_swM_1, v_swM_r, v_swM_n, swM_ite, app_ite, ex_some, bI_0, bI_1, nn_iff, Int.toNat_natCast, Int.toNat_of_nonneg, Int.natCast_add, cN1, wI_id2, wL_id2, if_pos, if_neg]
  exact ⟨f1, f2, f3⟩
theorem kl_slotOf (hs : isS s) (H : kH σ (s + 1) c) (hw : WH c) {pl : Nat} (hpl : sh pl = (2, 0, 6)) (hp : plO c (σ pl)) : L_X6_slotOf_0 ([0, 0, 0, 0], [s + 30, pl, 0, 0], σ) = some (.inl 0, ([0, 0, keyP (σ pl) (bn3 c), c 3], [s + 30, pl, 0, 0], σ)) := by
  refine Wd_out ?_
  have hn := bn3_c hw
  unfold L_X6_slotOf_0
  refine Wd_it (fun i z => z = ([0, 0, keyP (σ pl) i, (i : Int)], [s + 30, pl, 0, 0], σ)) (bn3 c) rfl ?_ ?_
  · intro i z hi hz
    subst hz
    have k1 := keyP_bd i (fun k hk => plO_key hw hp k (by omega))
    have k2 := p8 i (by omega)
    have k3 := plO_key hw hp i (by omega)
    simp (disch := omega) only [C_X6_slotOf_0, D_X6_slotOf_0, U_X6_slotOf_0, S_s hs, S_r0 hs, S_r1 hs, S_r2 hs, S_q hs, S_q0 hs, S_q1 hs, S_q2 hs, S_q3 hs, S_q4 hs, S_l hs, S_k hs, S_w hs, S_n hs, S_y hs, S_rl hs, S_sl hs, P_a (S_P hs), P_1 (S_P hs), P_2 (S_P hs), P_3 (S_P hs), P_4 (S_P hs), P_5 (S_P hs), P_6 (S_P hs), P_7 (S_P hs), P_8 (S_P hs), P_9 (S_P hs), P_10 (S_P hs), P_t (S_P hs), P_b (S_P hs), P_g (S_P hs), P_r8 (S_P hs), P_r10 (S_P hs), P_r12 (S_P hs), P_r13 (S_P hs), P_e2 (S_P hs), P_e3 (S_P hs), P_e4 (S_P hs), P_e5 (S_P hs), P_e6 (S_P hs), P_e7 (S_P hs), P_rt (S_P hs), P_rb (S_P hs), P_rg (S_P hs), H.1, H.2.1, H.2.2.1, H.2.2.2.1, H.2.2.2.2.1, H.2.2.2.2.2.1, H.2.2.2.2.2.2.1, H.2.2.2.2.2.2.2.1, H.2.2.2.2.2.2.2.2.1, H.2.2.2.2.2.2.2.2.2, hpl, Wd_some, Wd_bn, Wd_sqM, Wd_outV, Wd_blkM, Wd_swM, Wd_ite, Wd_map, v_kS_0, v_kS_b, v_kS_r, v_kO_r, v_kW_0, v_kW_1, v_kW_2, v_kW_r, v_kL_0, v_kL_1, v_kL_2, v_kL_r, v_kU_0, ups_11, upsN, upsA, upA_same, upA_neA, fl_at, fl_neA, v_sq_eq, v_sqM_0, v_sqM_r, v_sqM_b, v_sqM_n, sqM_ite, v_asI, v_asR, v_inc, v_pfI, v_pfZ, v_pfO, v_paI, v_paO, v_exI, v_iff, v_rtI, v_rtZ, v_rtV, v_sk, v_brk, v_cnt, v_blk_eq, v_blkM_some, blkM_ite, v_lI, v_lR, v_cI, v_gI, v_gR, v_op1, v_op2, v_arI, v_arR, v_alen, v_tern, v_cmp1, v_cmp2, v_cAnd, v_cOr, v_cNot, v_cTern, v_bn_some, bn_ite, v_bn_none, v_outV_r, v_outV_0, v_outV_n, outV_ite, List.getD_cons_zero, List.getD_cons_succ, List.set_cons_zero, List.set_cons_succ, List.take_succ_cons, List.take_zero, List.drop_succ_cons, List.drop_zero, List.nil_append, List.cons_append, Option.map_some, Option.map_none, if_true, if_false, reduceIte, reduceCtorEq, decide_eq_true_eq, Bool.not_eq_true', decide_eq_false_iff_not, decide_eq_true, decide_eq_false, decide_true, decide_false, and_self, and_true, true_and, or_self, stO, v_caV_, v_caV_i, v_caV_ii, v_caV_iii, v_caV_iiii, v_caV_iiiii, v_caV_il, v_caV_iil, v_caV_l, v_caV_ll, v_caV_r, v_caV_ri, v_caV_rii, v_caV_riii, v_caV_riiii, v_caV_ir, v_caV_iri, v_caV_iiri, v_caS_i, v_caS_ii, v_caS_iii, v_caS_iiii, v_caS_iiiiii, v_caS_il, v_caS_li, v_caS_ll, v_caS_lll, v_caS_ri, v_caS_riii, sh_239, sh_240, sh_241, sh_242, sh_243, sh_244, sh_245, sh_246, sh_247, sh_248, sh_249, sh_250, sh_251, sh_252, sh_253, rf_239_4, rf_239_5, rf_239_6, rf_239_7, rf_239_20, rf_239_21, rf_239_22, rf_239_23, rf_239_27, rf_239_28, rf_239_32, rf_239_33, rf_239_34, rf_239_35, Int.reduceLE, Int.reduceLT, Int.reduceToNat, Int.reduceAdd, Int.reduceSub, Int.reduceMul, Int.reduceNeg, Int.reduceEq, Int.reduceNe, Nat.reduceAdd, Nat.reduceMul, Nat.reduceLT, Nat.reduceEqDiff, or_true, true_or, or_false, false_or, and_false, false_and, not_true_eq_false, not_false_eq_true, ne_eq, cN4, cN5, cN6, cN7, cN13, cN30, cN60, cN64, cN100, cN136, cN240, cN384, cN900, cN2040, cN3, v_sw_eq, v_swM_0, v_swM_1, v_swM_r, v_swM_n, swM_ite, app_ite, ex_some, bI_0, bI_1, nn_iff, Int.toNat_natCast, Int.toNat_of_nonneg, Int.natCast_add, cN1, wI_id2, wL_id2, if_pos, if_neg]
    rfl
  · intro z hz
    subst hz
    simp (disch := omega) only [C_X6_slotOf_0, D_X6_slotOf_0, U_X6_slotOf_0, S_s hs, S_r0 hs, S_r1 hs, S_r2 hs, S_q hs, S_q0 hs, S_q1 hs, S_q2 hs, S_q3 hs, S_q4 hs, S_l hs, S_k hs, S_w hs, S_n hs, S_y hs, S_rl hs, S_sl hs, P_a (S_P hs), P_1 (S_P hs), P_2 (S_P hs), P_3 (S_P hs), P_4 (S_P hs), P_5 (S_P hs), P_6 (S_P hs), P_7 (S_P hs), P_8 (S_P hs), P_9 (S_P hs), P_10 (S_P hs), P_t (S_P hs), P_b (S_P hs), P_g (S_P hs), P_r8 (S_P hs), P_r10 (S_P hs), P_r12 (S_P hs), P_r13 (S_P hs), P_e2 (S_P hs), P_e3 (S_P hs), P_e4 (S_P hs), P_e5 (S_P hs), P_e6 (S_P hs), P_e7 (S_P hs), P_rt (S_P hs), P_rb (S_P hs), P_rg (S_P hs), H.1, H.2.1, H.2.2.1, H.2.2.2.1, H.2.2.2.2.1, H.2.2.2.2.2.1, H.2.2.2.2.2.2.1, H.2.2.2.2.2.2.2.1, H.2.2.2.2.2.2.2.2.1, H.2.2.2.2.2.2.2.2.2, hpl, hn, Wd_some, Wd_bn, Wd_sqM, Wd_outV, Wd_blkM, Wd_swM, Wd_ite, Wd_map, v_kS_0, v_kS_b, v_kS_r, v_kO_r, v_kW_0, v_kW_1, v_kW_2, v_kW_r, v_kL_0, v_kL_1, v_kL_2, v_kL_r, v_kU_0, ups_11, upsN, upsA, upA_same, upA_neA, fl_at, fl_neA, v_sq_eq, v_sqM_0, v_sqM_r, v_sqM_b, v_sqM_n, sqM_ite, v_asI, v_asR, v_inc, v_pfI, v_pfZ, v_pfO, v_paI, v_paO, v_exI, v_iff, v_rtI, v_rtZ, v_rtV, v_sk, v_brk, v_cnt, v_blk_eq, v_blkM_some, blkM_ite, v_lI, v_lR, v_cI, v_gI, v_gR, v_op1, v_op2, v_arI, v_arR, v_alen, v_tern, v_cmp1, v_cmp2, v_cAnd, v_cOr, v_cNot, v_cTern, v_bn_some, bn_ite, v_bn_none, v_outV_r, v_outV_0, v_outV_n, outV_ite, List.getD_cons_zero, List.getD_cons_succ, List.set_cons_zero, List.set_cons_succ, List.take_succ_cons, List.take_zero, List.drop_succ_cons, List.drop_zero, List.nil_append, List.cons_append, Option.map_some, Option.map_none, if_true, if_false, reduceIte, reduceCtorEq, decide_eq_true_eq, Bool.not_eq_true', decide_eq_false_iff_not, decide_eq_true, decide_eq_false, decide_true, decide_false, and_self, and_true, true_and, or_self, stO, v_caV_, v_caV_i, v_caV_ii, v_caV_iii, v_caV_iiii, v_caV_iiiii, v_caV_il, v_caV_iil, v_caV_l, v_caV_ll, v_caV_r, v_caV_ri, v_caV_rii, v_caV_riii, v_caV_riiii, v_caV_ir, v_caV_iri, v_caV_iiri, v_caS_i, v_caS_ii, v_caS_iii, v_caS_iiii, v_caS_iiiiii, v_caS_il, v_caS_li, v_caS_ll, v_caS_lll, v_caS_ri, v_caS_riii, sh_239, sh_240, sh_241, sh_242, sh_243, sh_244, sh_245, sh_246, sh_247, sh_248, sh_249, sh_250, sh_251, sh_252, sh_253, rf_239_4, rf_239_5, rf_239_6, rf_239_7, rf_239_20, rf_239_21, rf_239_22, rf_239_23, rf_239_27, rf_239_28, rf_239_32, rf_239_33, rf_239_34, rf_239_35, Int.reduceLE, Int.reduceLT, Int.reduceToNat, Int.reduceAdd, Int.reduceSub, Int.reduceMul, Int.reduceNeg, Int.reduceEq, Int.reduceNe, Nat.reduceAdd, Nat.reduceMul, Nat.reduceLT, Nat.reduceEqDiff, or_true, true_or, or_false, false_or, and_false, false_and, not_true_eq_false, not_false_eq_true, ne_eq, cN4, cN5, cN6, cN7, cN13, cN30, cN60, cN64, cN100, cN136, cN240, cN384, cN900, cN2040, cN3, v_sw_eq, v_swM_0, v_swM_1, v_swM_r, v_swM_n, swM_ite, app_ite, ex_some, bI_0, bI_1, nn_iff, Int.toNat_natCast, Int.toNat_of_nonneg, Int.natCast_add, cN1, wI_id2, wL_id2, if_pos, if_neg]
def SlR (s : Nat) (c p : Nat → Int) (q : Nat) (σ : SS) : Prop := q < 64 ∧ ∀ b : Nat, b < 6 → σ (s + 39) (6 * q + b) = cellsB c p b ∧ σ (s + 40) (6 * q + b) = gainB c p b (nC c)
theorem k_slotOf (hs : isS s) (P : PkS σ (s + 1) c w) (hw : WB c) (T : StT s c σ) {pl : Nat} (hpl : sh pl = (2, 0, 6)) (hp : plO c (σ pl)) : Wd (F_X6_slotOf (s + 30) pl σ) (fun r σ' => ∃ q : Nat, r = (q : Int) ∧ (∀ a, ¬ (s + 38 ≤ a ∧ a ≤ s + 40) → σ' a = σ a) ∧ StT s c σ' ∧ SlR s c (σ pl) q σ') := by
  have q0 := kl_slotOf hs P.1 hw.1 hpl hp
  have n0 : pl ≠ s + 38 := fun e => by rw [e, S_k hs] at hpl; cases hpl
  have b0 := andI_63 (xorI (xorI (keyP (σ pl) (bn3 c)) (shrI (keyP (σ pl) (bn3 c)) 6)) (shrI (keyP (σ pl) (bn3 c)) 12))
  obtain ⟨q, hq⟩ : ∃ q : Nat, andI (xorI (xorI (keyP (σ pl) (bn3 c)) (shrI (keyP (σ pl) (bn3 c)) 6)) (shrI (keyP (σ pl) (bn3 c)) 12)) 63 = (q : Int) := ⟨_, (Int.toNat_of_nonneg b0.1).symm⟩
  rw [hq] at b0
  by_cases g : σ (s + 38) q = keyP (σ pl) (bn3 c)
  · simp (disch := omega) only [F_X6_slotOf, E_X6_slotOf, q0, hq, S_s hs, S_r0 hs, S_r1 hs, S_r2 hs, S_q hs, S_q0 hs, S_q1 hs, S_q2 hs, S_q3 hs, S_q4 hs, S_l hs, S_k hs, S_w hs, S_n hs, S_y hs, S_rl hs, S_sl hs, P_a (S_P hs), P_1 (S_P hs), P_2 (S_P hs), P_3 (S_P hs), P_4 (S_P hs), P_5 (S_P hs), P_6 (S_P hs), P_7 (S_P hs), P_8 (S_P hs), P_9 (S_P hs), P_10 (S_P hs), P_t (S_P hs), P_b (S_P hs), P_g (S_P hs), P_r8 (S_P hs), P_r10 (S_P hs), P_r12 (S_P hs), P_r13 (S_P hs), P_e2 (S_P hs), P_e3 (S_P hs), P_e4 (S_P hs), P_e5 (S_P hs), P_e6 (S_P hs), P_e7 (S_P hs), P_rt (S_P hs), P_rb (S_P hs), P_rg (S_P hs), g, Wd_some, Wd_bn, Wd_sqM, Wd_outV, Wd_blkM, Wd_swM, Wd_ite, Wd_map, v_kS_0, v_kS_b, v_kS_r, v_kO_r, v_kW_0, v_kW_1, v_kW_2, v_kW_r, v_kL_0, v_kL_1, v_kL_2, v_kL_r, v_kU_0, ups_11, upsN, upsA, upA_same, upA_neA, fl_at, fl_neA, v_sq_eq, v_sqM_0, v_sqM_r, v_sqM_b, v_sqM_n, sqM_ite, v_asI, v_asR, v_inc, v_pfI, v_pfZ, v_pfO, v_paI, v_paO, v_exI, v_iff, v_rtI, v_rtZ, v_rtV, v_sk, v_brk, v_cnt, v_blk_eq, v_blkM_some, blkM_ite, v_lI, v_lR, v_cI, v_gI, v_gR, v_op1, v_op2, v_arI, v_arR, v_alen, v_tern, v_cmp1, v_cmp2, v_cAnd, v_cOr, v_cNot, v_cTern, v_bn_some, bn_ite, v_bn_none, v_outV_r, v_outV_0, v_outV_n, outV_ite, List.getD_cons_zero, List.getD_cons_succ, List.set_cons_zero, List.set_cons_succ, List.take_succ_cons, List.take_zero, List.drop_succ_cons, List.drop_zero, List.nil_append, List.cons_append, Option.map_some, Option.map_none, if_true, if_false, reduceIte, reduceCtorEq, decide_eq_true_eq, Bool.not_eq_true', decide_eq_false_iff_not, decide_eq_true, decide_eq_false, decide_true, decide_false, and_self, and_true, true_and, or_self, stO, v_caV_, v_caV_i, v_caV_ii, v_caV_iii, v_caV_iiii, v_caV_iiiii, v_caV_il, v_caV_iil, v_caV_l, v_caV_ll, v_caV_r, v_caV_ri, v_caV_rii, v_caV_riii, v_caV_riiii, v_caV_ir, v_caV_iri, v_caV_iiri, v_caS_i, v_caS_ii, v_caS_iii, v_caS_iiii, v_caS_iiiiii, v_caS_il, v_caS_li, v_caS_ll, v_caS_lll, v_caS_ri, v_caS_riii, sh_239, sh_240, sh_241, sh_242, sh_243, sh_244, sh_245, sh_246, sh_247, sh_248, sh_249, sh_250, sh_251, sh_252, sh_253, rf_239_4, rf_239_5, rf_239_6, rf_239_7, rf_239_20, rf_239_21, rf_239_22, rf_239_23, rf_239_27, rf_239_28, rf_239_32, rf_239_33, rf_239_34, rf_239_35, Int.reduceLE, Int.reduceLT, Int.reduceToNat, Int.reduceAdd, Int.reduceSub, Int.reduceMul, Int.reduceNeg, Int.reduceEq, Int.reduceNe, Nat.reduceAdd, Nat.reduceMul, Nat.reduceLT, Nat.reduceEqDiff, or_true, true_or, or_false, false_or, and_false, false_and, not_true_eq_false, not_false_eq_true, ne_eq, cN4, cN5, cN6, cN7, cN13, cN30, cN60, cN64, cN100, cN136, cN240, cN384, cN900, cN2040, cN3, v_sw_eq, v_swM_0, v_swM_1, v_swM_r, v_swM_n, swM_ite, app_ite, ex_some, bI_0, bI_1, nn_iff, Int.toNat_natCast, Int.toNat_of_nonneg, Int.natCast_add, cN1, wI_id2, wL_id2, if_pos, if_neg]
    exact ⟨q, rfl, fun _ _ => by trivial, T, by omega, T.2 q (by omega) _ hp g.symm⟩
  · have P2 : PkS (ups σ (s + 38) q (keyP (σ pl) (bn3 c))) (s + 1) c w := PkS_c hw.1 (fun k hk => by simp (disch := omega) only [ups_11, upsN, upsA, upA_same, upA_neA, fl_at, fl_neA]) (fun x h1 h2 => by simp (disch := omega) only [ups_11, upsN, upsA, upA_same, upA_neA, fl_at, fl_neA]) P
    have l2 : LossT s c (c 3) (ups σ (s + 38) q (keyP (σ pl) (bn3 c))) := LossT_c hw.1 (fun a h1 h2 => by simp (disch := omega) only [ups_11, upsN, upsA, upA_same, upA_neA, fl_at, fl_neA]) T.1
    have e0 : ups σ (s + 38) q (keyP (σ pl) (bn3 c)) pl = σ pl := upsA n0
    have q1 := k_fillSlot hs P2 hw l2 hpl (by rw [e0]; exact hp) (q := q) (by omega)
    rw [e0] at q1
    simp (disch := omega) only [F_X6_slotOf, E_X6_slotOf, q0, hq, S_s hs, S_r0 hs, S_r1 hs, S_r2 hs, S_q hs, S_q0 hs, S_q1 hs, S_q2 hs, S_q3 hs, S_q4 hs, S_l hs, S_k hs, S_w hs, S_n hs, S_y hs, S_rl hs, S_sl hs, P_a (S_P hs), P_1 (S_P hs), P_2 (S_P hs), P_3 (S_P hs), P_4 (S_P hs), P_5 (S_P hs), P_6 (S_P hs), P_7 (S_P hs), P_8 (S_P hs), P_9 (S_P hs), P_10 (S_P hs), P_t (S_P hs), P_b (S_P hs), P_g (S_P hs), P_r8 (S_P hs), P_r10 (S_P hs), P_r12 (S_P hs), P_r13 (S_P hs), P_e2 (S_P hs), P_e3 (S_P hs), P_e4 (S_P hs), P_e5 (S_P hs), P_e6 (S_P hs), P_e7 (S_P hs), P_rt (S_P hs), P_rb (S_P hs), P_rg (S_P hs), g, Wd_some, Wd_bn, Wd_sqM, Wd_outV, Wd_blkM, Wd_swM, Wd_ite, Wd_map, v_kS_0, v_kS_b, v_kS_r, v_kO_r, v_kW_0, v_kW_1, v_kW_2, v_kW_r, v_kL_0, v_kL_1, v_kL_2, v_kL_r, v_kU_0, ups_11, upsN, upsA, upA_same, upA_neA, fl_at, fl_neA, v_sq_eq, v_sqM_0, v_sqM_r, v_sqM_b, v_sqM_n, sqM_ite, v_asI, v_asR, v_inc, v_pfI, v_pfZ, v_pfO, v_paI, v_paO, v_exI, v_iff, v_rtI, v_rtZ, v_rtV, v_sk, v_brk, v_cnt, v_blk_eq, v_blkM_some, blkM_ite, v_lI, v_lR, v_cI, v_gI, v_gR, v_op1, v_op2, v_arI, v_arR, v_alen, v_tern, v_cmp1, v_cmp2, v_cAnd, v_cOr, v_cNot, v_cTern, v_bn_some, bn_ite, v_bn_none, v_outV_r, v_outV_0, v_outV_n, outV_ite, List.getD_cons_zero, List.getD_cons_succ, List.set_cons_zero, List.set_cons_succ, List.take_succ_cons, List.take_zero, List.drop_succ_cons, List.drop_zero, List.nil_append, List.cons_append, Option.map_some, Option.map_none, if_true, if_false, reduceIte, reduceCtorEq, decide_eq_true_eq, Bool.not_eq_true', decide_eq_false_iff_not, decide_eq_true, decide_eq_false, decide_true, decide_false, and_self, and_true, true_and, or_self, stO, v_caV_, v_caV_i, v_caV_ii, v_caV_iii, v_caV_iiii, v_caV_iiiii, v_caV_il, v_caV_iil, v_caV_l, v_caV_ll, v_caV_r, v_caV_ri, v_caV_rii, v_caV_riii, v_caV_riiii, v_caV_ir, v_caV_iri, v_caV_iiri, v_caS_i, v_caS_ii, v_caS_iii, v_caS_iiii, v_caS_iiiiii, v_caS_il, v_caS_li, v_caS_ll, v_caS_lll, v_caS_ri, v_caS_riii, sh_239, sh_240, sh_241, sh_242, sh_243, sh_244, sh_245, sh_246, sh_247, sh_248, sh_249, sh_250, sh_251, sh_252, sh_253, rf_239_4, rf_239_5, rf_239_6, rf_239_7, rf_239_20, rf_239_21, rf_239_22, rf_239_23, rf_239_27, rf_239_28, rf_239_32, rf_239_33, rf_239_34, rf_239_35, Int.reduceLE, Int.reduceLT, Int.reduceToNat, Int.reduceAdd, Int.reduceSub, Int.reduceMul, Int.reduceNeg, Int.reduceEq, Int.reduceNe, Nat.reduceAdd, Nat.reduceMul, Nat.reduceLT, Nat.reduceEqDiff, or_true, true_or, or_false, false_or, and_false, false_and, not_true_eq_false, not_false_eq_true, ne_eq, cN4, cN5, cN6, cN7, cN13, cN30, cN60, cN64, cN100, cN136, cN240, cN384, cN900, cN2040, cN3, v_sw_eq, v_swM_0, v_swM_1, v_swM_r, v_swM_n, swM_ite, app_ite, ex_some, bI_0, bI_1, nn_iff, Int.toNat_natCast, Int.toNat_of_nonneg, Int.natCast_add, cN1, wI_id2, wL_id2, if_pos, if_neg]
    refine Wd_mono q1 (fun r σ' hr => ?_)
    obtain ⟨hr, f1, f2, f3⟩ := hr
    subst hr
    refine ⟨q, rfl, fun a ha => ?_, ⟨?_, ?_⟩, by omega, f3⟩
    · rw [f1 a (by omega) (by omega)]
      simp (disch := omega) only [ups_11, upsN, upsA, upA_same, upA_neA, fl_at, fl_neA]
    · exact LossT_c hw.1 (fun a h1 h2 => f1 a (by omega) (by omega)) l2
    · intro q' hq' p hp' hk b hb
      rw [f1 _ (by omega) (by omega)] at hk
      by_cases e : q' = q
      · subst e
        rw [ups_11] at hk
        have ee : ∀ k : Nat, k < bn3 c → σ pl k = p k := fun k hk2 => (keyP_inj (bn3 c) (plO_key hw.1 hp') (plO_key hw.1 hp) hk k hk2).symm
        have := f3 b hb
        rw [cellsB_p ee, gainB_p ee] at this
        exact this
      · rw [upsN e] at hk
        have := T.2 q' hq' p hp' hk b hb
        have g2 := f2 (6 * q' + b) (by omega)
        rw [upsA (by omega), upsA (by omega)] at g2
        rw [g2.1, g2.2]
        exact this
theorem k_isKept {x y : Int} (h1 : 0 ≤ x ∧ x < 64) (h2 : 0 ≤ y ∧ y < 6) : F_X6_isKept x y σ = some (1, σ) := by
  simp (disch := omega) only [F_X6_isKept, B_X6_isKept, Wd_some, Wd_bn, Wd_sqM, Wd_outV, Wd_blkM, Wd_swM, Wd_ite, Wd_map, v_kS_0, v_kS_b, v_kS_r, v_kO_r, v_kW_0, v_kW_1, v_kW_2, v_kW_r, v_kL_0, v_kL_1, v_kL_2, v_kL_r, v_kU_0, ups_11, upsN, upsA, upA_same, upA_neA, fl_at, fl_neA, v_sq_eq, v_sqM_0, v_sqM_r, v_sqM_b, v_sqM_n, sqM_ite, v_asI, v_asR, v_inc, v_pfI, v_pfZ, v_pfO, v_paI, v_paO, v_exI, v_iff, v_rtI, v_rtZ, v_rtV, v_sk, v_brk, v_cnt, v_blk_eq, v_blkM_some, blkM_ite, v_lI, v_lR, v_cI, v_gI, v_gR, v_op1, v_op2, v_arI, v_arR, v_alen, v_tern, v_cmp1, v_cmp2, v_cAnd, v_cOr, v_cNot, v_cTern, v_bn_some, bn_ite, v_bn_none, v_outV_r, v_outV_0, v_outV_n, outV_ite, List.getD_cons_zero, List.getD_cons_succ, List.set_cons_zero, List.set_cons_succ, List.take_succ_cons, List.take_zero, List.drop_succ_cons, List.drop_zero, List.nil_append, List.cons_append, Option.map_some, Option.map_none, if_true, if_false, reduceIte, reduceCtorEq, decide_eq_true_eq, Bool.not_eq_true', decide_eq_false_iff_not, decide_eq_true, decide_eq_false, decide_true, decide_false, and_self, and_true, true_and, or_self, stO, v_caV_, v_caV_i, v_caV_ii, v_caV_iii, v_caV_iiii, v_caV_iiiii, v_caV_il, v_caV_iil, v_caV_l, v_caV_ll, v_caV_r, v_caV_ri, v_caV_rii, v_caV_riii, v_caV_riiii, v_caV_ir, v_caV_iri, v_caV_iiri, v_caS_i, v_caS_ii, v_caS_iii, v_caS_iiii, v_caS_iiiiii, v_caS_il, v_caS_li, v_caS_ll, v_caS_lll, v_caS_ri, v_caS_riii, sh_239, sh_240, sh_241, sh_242, sh_243, sh_244, sh_245, sh_246, sh_247, sh_248, sh_249, sh_250, sh_251, sh_252, sh_253, rf_239_4, rf_239_5, rf_239_6, rf_239_7, rf_239_20, rf_239_21, rf_239_22, rf_239_23, rf_239_27, rf_239_28, rf_239_32, rf_239_33, rf_239_34, rf_239_35, Int.reduceLE, Int.reduceLT, Int.reduceToNat, Int.reduceAdd, Int.reduceSub, Int.reduceMul, Int.reduceNeg, Int.reduceEq, Int.reduceNe, Nat.reduceAdd, Nat.reduceMul, Nat.reduceLT, Nat.reduceEqDiff, or_true, true_or, or_false, false_or, and_false, false_and, not_true_eq_false, not_false_eq_true, ne_eq, cN4, cN5, cN6, cN7, cN13, cN30, cN60, cN64, cN100, cN136, cN240, cN384, cN900, cN2040, cN3, v_sw_eq, v_swM_0, v_swM_1, v_swM_r, v_swM_n, swM_ite, app_ite, ex_some, bI_0, bI_1, nn_iff, Int.toNat_natCast, Int.toNat_of_nonneg, Int.natCast_add, cN1, wI_id2, wL_id2, if_pos, if_neg]
theorem k_gainIn (hs : isS s) {q b : Nat} (hq : q < 64) (hb : b < 6) : F_X6_gainIn (s + 30) q b σ = some (σ (s + 40) (6 * q + b), σ) := by
  have ix : ((q : Int) * 6 + (b : Int)).toNat = 6 * q + b := by omega
  simp (disch := omega) only [F_X6_gainIn, B_X6_gainIn, S_s hs, S_r0 hs, S_r1 hs, S_r2 hs, S_q hs, S_q0 hs, S_q1 hs, S_q2 hs, S_q3 hs, S_q4 hs, S_l hs, S_k hs, S_w hs, S_n hs, S_y hs, S_rl hs, S_sl hs, P_a (S_P hs), P_1 (S_P hs), P_2 (S_P hs), P_3 (S_P hs), P_4 (S_P hs), P_5 (S_P hs), P_6 (S_P hs), P_7 (S_P hs), P_8 (S_P hs), P_9 (S_P hs), P_10 (S_P hs), P_t (S_P hs), P_b (S_P hs), P_g (S_P hs), P_r8 (S_P hs), P_r10 (S_P hs), P_r12 (S_P hs), P_r13 (S_P hs), P_e2 (S_P hs), P_e3 (S_P hs), P_e4 (S_P hs), P_e5 (S_P hs), P_e6 (S_P hs), P_e7 (S_P hs), P_rt (S_P hs), P_rb (S_P hs), P_rg (S_P hs), k_isKept (σ := σ) (show 0 ≤ (q : Int) ∧ (q : Int) < 64 by omega) (show 0 ≤ (b : Int) ∧ (b : Int) < 6 by omega), ix, Wd_some, Wd_bn, Wd_sqM, Wd_outV, Wd_blkM, Wd_swM, Wd_ite, Wd_map, v_kS_0, v_kS_b, v_kS_r, v_kO_r, v_kW_0, v_kW_1, v_kW_2, v_kW_r, v_kL_0, v_kL_1, v_kL_2, v_kL_r, v_kU_0, ups_11, upsN, upsA, upA_same, upA_neA, fl_at, fl_neA, v_sq_eq, v_sqM_0, v_sqM_r, v_sqM_b, v_sqM_n, sqM_ite, v_asI, v_asR, v_inc, v_pfI, v_pfZ, v_pfO, v_paI, v_paO, v_exI, v_iff, v_rtI, v_rtZ, v_rtV, v_sk, v_brk, v_cnt, v_blk_eq, v_blkM_some, blkM_ite, v_lI, v_lR, v_cI, v_gI, v_gR, v_op1, v_op2, v_arI, v_arR, v_alen, v_tern, v_cmp1, v_cmp2, v_cAnd, v_cOr, v_cNot, v_cTern, v_bn_some, bn_ite, v_bn_none, v_outV_r, v_outV_0, v_outV_n, outV_ite, List.getD_cons_zero, List.getD_cons_succ, List.set_cons_zero, List.set_cons_succ, List.take_succ_cons, List.take_zero, List.drop_succ_cons, List.drop_zero, List.nil_append, List.cons_append, Option.map_some, Option.map_none, if_true, if_false, reduceIte, reduceCtorEq, decide_eq_true_eq, Bool.not_eq_true', decide_eq_false_iff_not, decide_eq_true, decide_eq_false, decide_true, decide_false, and_self, and_true, true_and, or_self, stO, v_caV_, v_caV_i, v_caV_ii, v_caV_iii, v_caV_iiii, v_caV_iiiii, v_caV_il, v_caV_iil, v_caV_l, v_caV_ll, v_caV_r, v_caV_ri, v_caV_rii, v_caV_riii, v_caV_riiii, v_caV_ir, v_caV_iri, v_caV_iiri, v_caS_i, v_caS_ii, v_caS_iii, v_caS_iiii, v_caS_iiiiii, v_caS_il, v_caS_li, v_caS_ll, v_caS_lll, v_caS_ri, v_caS_riii, sh_239, sh_240, sh_241, sh_242, sh_243, sh_244, sh_245, sh_246, sh_247, sh_248, sh_249, sh_250, sh_251, sh_252, sh_253, rf_239_4, rf_239_5, rf_239_6, rf_239_7, rf_239_20, rf_239_21, rf_239_22, rf_239_23, rf_239_27, rf_239_28, rf_239_32, rf_239_33, rf_239_34, rf_239_35, Int.reduceLE, Int.reduceLT, Int.reduceToNat, Int.reduceAdd, Int.reduceSub, Int.reduceMul, Int.reduceNeg, Int.reduceEq, Int.reduceNe, Nat.reduceAdd, Nat.reduceMul, Nat.reduceLT, Nat.reduceEqDiff, or_true, true_or, or_false, false_or, and_false, false_and, not_true_eq_false, not_false_eq_true, ne_eq, cN4, cN5, cN6, cN7, cN13, cN30, cN60, cN64, cN100, cN136, cN240, cN384, cN900, cN2040, cN3, v_sw_eq, v_swM_0, v_swM_1, v_swM_r, v_swM_n, swM_ite, app_ite, ex_some, bI_0, bI_1, nn_iff, Int.toNat_natCast, Int.toNat_of_nonneg, Int.natCast_add, cN1, wI_id2, wL_id2, if_pos, if_neg]
theorem k_lawnsIn (hs : isS s) {q b : Nat} (hq : q < 64) (hb : b < 6) : F_X6_lawnsIn (s + 30) q b σ = some (σ (s + 39) (6 * q + b), σ) := by
  have ix : ((q : Int) * 6 + (b : Int)).toNat = 6 * q + b := by omega
  simp (disch := omega) only [F_X6_lawnsIn, B_X6_lawnsIn, S_s hs, S_r0 hs, S_r1 hs, S_r2 hs, S_q hs, S_q0 hs, S_q1 hs, S_q2 hs, S_q3 hs, S_q4 hs, S_l hs, S_k hs, S_w hs, S_n hs, S_y hs, S_rl hs, S_sl hs, P_a (S_P hs), P_1 (S_P hs), P_2 (S_P hs), P_3 (S_P hs), P_4 (S_P hs), P_5 (S_P hs), P_6 (S_P hs), P_7 (S_P hs), P_8 (S_P hs), P_9 (S_P hs), P_10 (S_P hs), P_t (S_P hs), P_b (S_P hs), P_g (S_P hs), P_r8 (S_P hs), P_r10 (S_P hs), P_r12 (S_P hs), P_r13 (S_P hs), P_e2 (S_P hs), P_e3 (S_P hs), P_e4 (S_P hs), P_e5 (S_P hs), P_e6 (S_P hs), P_e7 (S_P hs), P_rt (S_P hs), P_rb (S_P hs), P_rg (S_P hs), k_isKept (σ := σ) (show 0 ≤ (q : Int) ∧ (q : Int) < 64 by omega) (show 0 ≤ (b : Int) ∧ (b : Int) < 6 by omega), ix, Wd_some, Wd_bn, Wd_sqM, Wd_outV, Wd_blkM, Wd_swM, Wd_ite, Wd_map, v_kS_0, v_kS_b, v_kS_r, v_kO_r, v_kW_0, v_kW_1, v_kW_2, v_kW_r, v_kL_0, v_kL_1, v_kL_2, v_kL_r, v_kU_0, ups_11, upsN, upsA, upA_same, upA_neA, fl_at, fl_neA, v_sq_eq, v_sqM_0, v_sqM_r, v_sqM_b, v_sqM_n, sqM_ite, v_asI, v_asR, v_inc, v_pfI, v_pfZ, v_pfO, v_paI, v_paO, v_exI, v_iff, v_rtI, v_rtZ, v_rtV, v_sk, v_brk, v_cnt, v_blk_eq, v_blkM_some, blkM_ite, v_lI, v_lR, v_cI, v_gI, v_gR, v_op1, v_op2, v_arI, v_arR, v_alen, v_tern, v_cmp1, v_cmp2, v_cAnd, v_cOr, v_cNot, v_cTern, v_bn_some, bn_ite, v_bn_none, v_outV_r, v_outV_0, v_outV_n, outV_ite, List.getD_cons_zero, List.getD_cons_succ, List.set_cons_zero, List.set_cons_succ, List.take_succ_cons, List.take_zero, List.drop_succ_cons, List.drop_zero, List.nil_append, List.cons_append, Option.map_some, Option.map_none, if_true, if_false, reduceIte, reduceCtorEq, decide_eq_true_eq, Bool.not_eq_true', decide_eq_false_iff_not, decide_eq_true, decide_eq_false, decide_true, decide_false, and_self, and_true, true_and, or_self, stO, v_caV_, v_caV_i, v_caV_ii, v_caV_iii, v_caV_iiii, v_caV_iiiii, v_caV_il, v_caV_iil, v_caV_l, v_caV_ll, v_caV_r, v_caV_ri, v_caV_rii, v_caV_riii, v_caV_riiii, v_caV_ir, v_caV_iri, v_caV_iiri, v_caS_i, v_caS_ii, v_caS_iii, v_caS_iiii, v_caS_iiiiii, v_caS_il, v_caS_li, v_caS_ll, v_caS_lll, v_caS_ri, v_caS_riii, sh_239, sh_240, sh_241, sh_242, sh_243, sh_244, sh_245, sh_246, sh_247, sh_248, sh_249, sh_250, sh_251, sh_252, sh_253, rf_239_4, rf_239_5, rf_239_6, rf_239_7, rf_239_20, rf_239_21, rf_239_22, rf_239_23, rf_239_27, rf_239_28, rf_239_32, rf_239_33, rf_239_34, rf_239_35, Int.reduceLE, Int.reduceLT, Int.reduceToNat, Int.reduceAdd, Int.reduceSub, Int.reduceMul, Int.reduceNeg, Int.reduceEq, Int.reduceNe, Nat.reduceAdd, Nat.reduceMul, Nat.reduceLT, Nat.reduceEqDiff, or_true, true_or, or_false, false_or, and_false, false_and, not_true_eq_false, not_false_eq_true, ne_eq, cN4, cN5, cN6, cN7, cN13, cN30, cN60, cN64, cN100, cN136, cN240, cN384, cN900, cN2040, cN3, v_sw_eq, v_swM_0, v_swM_1, v_swM_r, v_swM_n, swM_ite, app_ite, ex_some, bI_0, bI_1, nn_iff, Int.toNat_natCast, Int.toNat_of_nonneg, Int.natCast_add, cN1, wI_id2, wL_id2, if_pos, if_neg]
end KT
/-! an hour -/
def sndE (c c' : Nat → Int) : Prop := ∀ k : Nat, ¬ (5 ≤ k ∧ k ≤ 7) → (k < 46 ∨ (106 ≤ k ∧ k < 136)) → c' k = c k
section SND
variable {c c' : Nat → Int}
theorem sndE_bn (h : sndE c c') : bn3 c' = bn3 c := by unfold bn3; rw [h 3 (by omega) (by omega)]
theorem sndE_nC (h : sndE c c') : nC c' = nC c := by unfold nC; rw [h 0 (by omega) (by omega), h 1 (by omega) (by omega)]
theorem lossB_e (h : sndE c c') {b : Int} (hb : 0 ≤ b ∧ b < 6) (x y : Int) : lossB c' b x y = lossB c b x y := by
  unfold lossB fadeB
  rw [h 4 (by omega) (by omega), h 8 (by omega) (by omega), h 9 (by omega) (by omega), h (28 + b).toNat (by omega) (by omega), h (34 + b).toNat (by omega) (by omega)]
theorem hearB_e (h : sndE c c') {b t : Int} (hb : 0 ≤ b ∧ b < 6) (ht : 0 ≤ t ∧ t ≤ 6) (x y : Int) : hearB c' b t x y = hearB c b t x y := by
  unfold hearB
  rw [lossB_e h hb, h (40 + b).toNat (by omega) (by omega), h (10 + t).toNat (by omega) (by omega)]
theorem noiB_e (hw : WH c) (h : sndE c c') {p : Nat → Int} (hp : plO c p) (x y : Int) : ∀ k : Nat, k < bn3 c → noiB c' p x y k = noiB c p x y k := by
  intro k hk
  have hn := bn3_c hw
  have := hp k (by omega)
  unfold noiB
  exact hearB_e h (by omega) (by omega) x y
theorem holdB_e (hw : WH c) (h : sndE c c') {p : Nat → Int} (hp : plO c p) (x y : Int) : holdB c' p x y = holdB c p x y := by
  unfold holdB
  rw [sndE_bn h]
  exact whoN_congr _ (noiB_e hw h hp x y)
theorem loudB_e (hw : WH c) (h : sndE c c') {p : Nat → Int} (hp : plO c p) (x y : Int) : loudB c' p x y = loudB c p x y := by
  unfold loudB
  rw [sndE_bn h]
  exact mostN_congr _ (noiB_e hw h hp x y)
theorem cellsB_e (hw : WH c) (h : sndE c c') {p : Nat → Int} (hp : plO c p) (who : Int) : cellsB c' p who = cellsB c p who := by
  unfold cellsB sumC
  rw [sndE_nC h]
  exact sumN_congr _ (fun k _ => by rw [holdB_e hw h hp, h 0 (by omega) (by omega)])
theorem pondB_e (h : sndE c c') {x y : Int} (hx : 0 ≤ x ∧ x < 6) (hy : 0 ≤ y ∧ y < 5) : pondB c' x y = pondB c x y := by
  unfold pondB
  exact h _ (by omega) (by omega)
theorem gainB_e (hw : WH c) (h : sndE c c') {p : Nat → Int} (hp : plO c p) (who : Int) {n : Nat} (hN : n ≤ nC c) : gainB c' p who n = gainB c p who n := by
  have hn := nC_c hw
  unfold gainB sumC
  refine sumN_congr _ (fun k hk => ?_)
  obtain ⟨w1, w2, w3, w4⟩ := cell_rng hw (k := k) (by omega)
  rw [h 0 (by omega) (by omega), holdB_e hw h hp, pondB_e h (by omega) (by omega)]
theorem plO_e (h : sndE c c') {p : Nat → Int} (hp : plO c' p) : plO c p := by
  intro k hk
  have := hp k (by rw [h 3 (by omega) (by omega)]; exact hk)
  unfold enB at this
  rw [h 2 (by omega) (by omega)] at this
  exact this
theorem plO_e2 (h : sndE c c') {p : Nat → Int} (hp : plO c p) : plO c' p := by
  intro k hk
  rw [h 3 (by omega) (by omega)] at hk
  have := hp k hk
  unfold enB
  rw [h 2 (by omega) (by omega)]
  exact this
theorem StT_e {s : Nat} {σ : SS} (hw : WH c) (h : sndE c c') (T : StT s c σ) : StT s c' σ := by
  constructor
  · intro b k hb hk
    rw [h 3 (by omega) (by omega)] at hb
    rw [h 0 (by omega) (by omega), h 1 (by omega) (by omega)] at hk
    rw [lossB_e h (by omega), h 0 (by omega) (by omega)]
    exact T.1 b k hb hk
  · intro q hq p hp hk b hb
    have hp2 := plO_e h hp
    rw [sndE_bn h] at hk
    rw [cellsB_e hw h hp2, sndE_nC h, gainB_e hw h hp2 _ (Nat.le_refl _)]
    exact T.2 q hq p hp2 hk b hb
theorem WB_hp (hw : WB c) (h : ∀ k, ¬ (46 ≤ k ∧ k < 52) → ¬ (58 ≤ k ∧ k < 64) → c' k = c k) (h2 : ∀ b : Int, 0 ≤ b → b < c 3 → (0 ≤ c' (46 + b).toNat ∧ c' (46 + b).toNat ≤ c (52 + b).toNat) ∧ (0 ≤ c' (58 + b).toNat ∧ c' (58 + b).toNat ≤ 2000000)) : WB c' := by
  obtain ⟨w1, w2, w3, w4⟩ := hw
  have e : ∀ k, k < 46 → c' k = c k := fun k hk => h k (by omega) (by omega)
  have e2 : ∀ k, 64 ≤ k → c' k = c k := fun k hk => h k (by omega) (by omega)
  refine ⟨?_, ?_, ?_, ?_⟩
  · unfold WH
    rw [e 0 (by omega), e 1 (by omega), e 2 (by omega), e 3 (by omega), e 4 (by omega), e 5 (by omega), e 6 (by omega), e 7 (by omega), e 8 (by omega), e 9 (by omega)]
    exact w1
  · intro t t0 t1
    rw [e 2 (by omega)] at t1
    unfold WTi
    rw [e (10 + t).toNat (by omega), e (16 + t).toNat (by omega), e (22 + t).toNat (by omega)]
    exact w2 t t0 t1
  · intro b b0 b1
    rw [e 3 (by omega)] at b1
    have ⟨d1, d2⟩ := w3 b b0 b1
    have q := h2 b b0 b1
    refine ⟨?_, fun k k0 k1 => ?_⟩
    · unfold WDi
      rw [e (28 + b).toNat (by omega), e (34 + b).toNat (by omega), e (40 + b).toNat (by omega), h (52 + b).toNat (by omega) (by omega), e2 (64 + b).toNat (by omega), e 0 (by omega), e 1 (by omega)]
      omega
    · unfold enB
      rw [e2 (64 + b).toNat (by omega)] at k1
      rw [e2 _ (by omega), e 2 (by omega)]
      exact d2 k k0 k1
  · intro k k0 k1
    rw [e2 _ (by omega), e 0 (by omega), e 1 (by omega)]
    exact w4 k k0 k1
theorem WB_7 (hw : WB c) {v : Int} (hv : 0 ≤ v ∧ v ≤ 12000) : WB (upc c 7 v) := by
  obtain ⟨w1, w2, w3, w4⟩ := hw
  have e : ∀ k, k ≠ 7 → upc c 7 v k = c k := fun k hk => upc_ne hk
  refine ⟨?_, ?_, ?_, ?_⟩
  · unfold WH
    rw [e 0 (by omega), e 1 (by omega), e 2 (by omega), e 3 (by omega), e 4 (by omega), e 5 (by omega), e 6 (by omega), upc_same, e 8 (by omega), e 9 (by omega)]
    omega
  · intro t t0 t1
    rw [e 2 (by omega)] at t1
    unfold WTi
    rw [e (10 + t).toNat (by omega), e (16 + t).toNat (by omega), e (22 + t).toNat (by omega)]
    exact w2 t t0 t1
  · intro b b0 b1
    rw [e 3 (by omega)] at b1
    have ⟨d1, d2⟩ := w3 b b0 b1
    refine ⟨?_, fun k k0 k1 => ?_⟩
    · unfold WDi
      rw [e (28 + b).toNat (by omega), e (34 + b).toNat (by omega), e (40 + b).toNat (by omega), e (46 + b).toNat (by omega), e (52 + b).toNat (by omega), e (58 + b).toNat (by omega), e (64 + b).toNat (by omega), e 0 (by omega), e 1 (by omega)]
      exact d1
    · unfold enB
      rw [e (64 + b).toNat (by omega)] at k1
      rw [e _ (by omega), e 2 (by omega)]
      exact d2 k k0 k1
  · intro k k0 k1
    rw [e _ (by omega), e 0 (by omega), e 1 (by omega)]
    exact w4 k k0 k1
end SND
def playP (c : Nat → Int) : Nat → Int := fun k => playB c k
theorem plO_P {c : Nat → Int} (hd : WD c) : plO c (playP c) := fun k hk => playB_en hd (by omega) hk
def hpB (c p : Nat → Int) (i : Nat) : Nat → Int := fun k => if 46 ≤ k ∧ k < 46 + i then lipsB c p ((k : Int) - 46) else if 58 ≤ k ∧ k < 58 + i then c k + gainB c p ((k : Int) - 58) (nC c) else c k
def hourB (c : Nat → Int) : Nat → Int := upc (hpB c (playP c) (bn3 c)) 7 (c 7 + 1)
def ptsB (c : Nat → Int) : Int := sumN (fun b => gainB c (playP c) b (nC c)) (bn3 c)
def hrN (c : Nat → Int) : Nat → Nat → Int
  | 0 => c
  | h + 1 => hourB (hrN c h)
def gotN (c : Nat → Int) : Nat → Int
  | 0 => 0
  | h + 1 => gotN c h + ptsB (hrN c h)
def sizN (t : Int) : Int := sumN (fun k => if andI (shrI t k) 1 = 1 then 1 else 0) 6
def tiN (c : Nat → Int) : Nat → Int
  | 0 => 0
  | h + 1 => tiN c h + sizN (tirB (hrN c h) (bn3 (hrN c h)))
theorem hpB_0 (c p : Nat → Int) : hpB c p 0 = c := by
  funext k
  unfold hpB
  rw [if_neg (by omega), if_neg (by omega)]
theorem hpB_s (c p : Nat → Int) {i : Nat} (hi : i < 6) : hpB c p (i + 1) = upc (upc (hpB c p i) (22 + 6 * 6 + i) (c (58 + (i : Int)).toNat + gainB c p i (nC c))) (22 + 6 * 4 + i) (lipsB c p i) := by
  funext k
  by_cases h1 : k = 22 + 6 * 4 + i
  · subst h1
    rw [upc_same]
    unfold hpB
    rw [if_pos (by omega)]
    congr 1
    omega
  · rw [upc_ne h1]
    by_cases h2 : k = 22 + 6 * 6 + i
    · subst h2
      rw [upc_same]
      unfold hpB
      rw [if_neg (by omega), if_pos (by omega)]
      have e1 : ((22 + 6 * 6 + i : Nat) : Int) - 58 = (i : Int) := by omega
      have e2 : 22 + 6 * 6 + i = (58 + (i : Int)).toNat := by omega
      rw [e1, ← e2]
    · rw [upc_ne h2]
      unfold hpB
      by_cases h3 : 46 ≤ k ∧ k < 46 + i
      · rw [if_pos h3, if_pos (by omega)]
      · rw [if_neg h3, if_neg (by omega)]
        by_cases h4 : 58 ≤ k ∧ k < 58 + i
        · rw [if_pos h4, if_pos (by omega)]
        · rw [if_neg h4, if_neg (by omega)]
theorem hpB_o {c p : Nat → Int} {i k : Nat} (h1 : ¬ (46 ≤ k ∧ k < 46 + i)) (h2 : ¬ (58 ≤ k ∧ k < 58 + i)) : hpB c p i k = c k := by
  unfold hpB
  rw [if_neg h1, if_neg h2]
section HB
variable {c : Nat → Int}
theorem hourB_o (hw : WH c) {k : Nat} (h : k ≠ 7) (h1 : ¬ (46 ≤ k ∧ k < 52)) (h2 : ¬ (58 ≤ k ∧ k < 64)) : hourB c k = c k := by
  have hn := bn3_c hw
  unfold hourB
  rw [upc_ne h, hpB_o (by omega) (by omega)]
theorem hourB_7 : hourB c 7 = c 7 + 1 := upc_same _ _ _
theorem hourB_l (hw : WH c) {b : Int} (b0 : 0 ≤ b) (b1 : b < c 3) : hourB c (46 + b).toNat = lipsB c (playP c) b := by
  have hn := bn3_c hw
  unfold hourB hpB
  rw [upc_ne (by omega), if_pos (by omega)]
  congr 1
  omega
theorem hourB_p (hw : WH c) {b : Int} (b0 : 0 ≤ b) (b1 : b < c 3) : hourB c (58 + b).toNat = c (58 + b).toNat + gainB c (playP c) b (nC c) := by
  have hn := bn3_c hw
  unfold hourB hpB
  rw [upc_ne (by omega), if_neg (by omega), if_pos (by omega)]
  congr 2
  omega
theorem lipsB_bd (hw : WB c) {b : Int} (b0 : 0 ≤ b) (b1 : b < c 3) : 0 ≤ lipsB c (playP c) b ∧ lipsB c (playP c) b ≤ c (52 + b).toNat := by
  have d1 := (hw.2.2.1 b b0 b1).1
  have hH := hw.1
  have en := wantB_en hw.2.2.1 (b := b) (h := c 7) b0 b1
  have e : playP c b.toNat = playB c b := by unfold playP; rw [Int.toNat_of_nonneg b0]
  unfold lipsB
  rw [e]
  by_cases g : playB c b < 6
  · rw [if_pos g]
    unfold playB at g ⊢
    by_cases g2 : wantB c b (c 7) < 6 ∧ c (16 + wantB c b (c 7)).toNat ≤ c (46 + b).toNat
    · rw [if_pos g2]
      have t1 := hw.2.1 (wantB c b (c 7)) (by omega) (by omega)
      omega
    · rw [if_neg g2] at g
      omega
  · rw [if_neg g]
    split <;> omega
theorem WB_hour (hw : WB c) (hq : WQ c) (h7 : c 7 < 12000) : WB (hourB c) ∧ WQ (hourB c) ∧ sndE c (hourB c) := by
  have hH := hw.1
  have hn := bn3_c hw.1
  have hN := nC_c hw.1
  refine ⟨?_, ?_, ?_⟩
  · refine WB_7 (WB_hp hw (fun k h1 h2 => hpB_o (by omega) (by omega)) (fun b b0 b1 => ?_)) (by omega)
    have l := lipsB_bd hw b0 b1
    have e1 := hourB_l hw.1 b0 b1
    have e2 := hourB_p hw.1 b0 b1
    unfold hourB at e1 e2
    rw [upc_ne (by omega)] at e1 e2
    have g := gainF_bd c (playP c) b (nC c)
    have q := hq b b0 b1
    have d1 := (hw.2.2.1 b b0 b1).1
    rw [e1, e2]
    omega
  · intro b b0 b1
    rw [hourB_o hw.1 (by omega) (by omega) (by omega)] at b1
    have g := gainF_bd c (playP c) b (nC c)
    have q := hq b b0 b1
    rw [hourB_p hw.1 b0 b1, hourB_7]
    omega
  · intro k k1 k2
    exact hourB_o hw.1 (by omega) (by omega) (by omega)
theorem sndE_t {c c' c'' : Nat → Int} (h : sndE c c') (h2 : sndE c' c'') : sndE c c'' := fun k k1 k2 => by rw [h2 k k1 k2, h k k1 k2]
theorem sndE_r : sndE c c := fun _ _ _ => rfl
theorem hrN_ok (hw : WB c) (hq : WQ c) : ∀ h : Nat, c 7 + h ≤ 12000 → WB (hrN c h) ∧ WQ (hrN c h) ∧ sndE c (hrN c h) ∧ hrN c h 7 = c 7 + h
  | 0, _ => ⟨hw, hq, sndE_r, by show c 7 = c 7 + 0; omega⟩
  | h + 1, h7 => by
    obtain ⟨a1, a2, a3, a4⟩ := hrN_ok hw hq h (by omega)
    obtain ⟨b1, b2, b3⟩ := WB_hour a1 a2 (by omega)
    refine ⟨b1, b2, sndE_t a3 b3, ?_⟩
    show hourB (hrN c h) 7 = _
    rw [hourB_7, a4]
    omega
theorem hrN_o (hw : WB c) (hq : WQ c) {k : Nat} (h0 : k ≠ 7) (h1 : ¬ (46 ≤ k ∧ k < 52)) (h2 : ¬ (58 ≤ k ∧ k < 64)) : ∀ h : Nat, c 7 + h ≤ 12000 → hrN c h k = c k
  | 0, _ => rfl
  | h + 1, h7 => by
    obtain ⟨a1, a2, a3, a4⟩ := hrN_ok hw hq h (by omega)
    show hourB (hrN c h) k = _
    rw [hourB_o a1.1 h0 h1 h2]
    exact hrN_o hw hq h0 h1 h2 h (by omega)
theorem sumN_b {f : Nat → Int} {B : Int} (hB : 0 ≤ B) {n m : Nat} (hm : n ≤ m) (h : ∀ k : Nat, k < n → 0 ≤ f k ∧ f k ≤ B) : 0 ≤ sumN f n ∧ sumN f n ≤ B * m := by
  have q := sumN_bd hB n h
  have e : B * (n : Int) ≤ B * (m : Int) := Int.mul_le_mul_of_nonneg_left (by omega) hB
  omega
theorem ptsB_bd (hw : WB c) : 0 ≤ ptsB c ∧ ptsB c ≤ 540 := by
  have hH := hw.1
  have hn := bn3_c hw.1
  have hN := nC_c hw.1
  have q := sumN_b (f := fun b => gainB c (playP c) b (nC c)) (B := 90) (n := bn3 c) (m := 6) (by omega) (by omega) (fun k _ => by
    have := gainF_bd c (playP c) k (nC c)
    show 0 ≤ gainB c (playP c) k (nC c) ∧ gainB c (playP c) k (nC c) ≤ 90
    omega)
  unfold ptsB
  omega
theorem gotN_bd (hw : WB c) (hq : WQ c) : ∀ h : Nat, c 7 + h ≤ 12000 → 0 ≤ gotN c h ∧ gotN c h ≤ 540 * h
  | 0, _ => by unfold gotN; omega
  | h + 1, h7 => by
    have a := gotN_bd hw hq h (by omega)
    have b := ptsB_bd (hrN_ok hw hq h (by omega)).1
    unfold gotN
    omega
end HB
theorem sizN_bd (t : Int) : 0 ≤ sizN t ∧ sizN t ≤ 6 := by
  have := sumN_bd (f := fun k => if andI (shrI t k) 1 = 1 then (1 : Int) else 0) (B := 1) (by omega) 6 (fun k _ => by show 0 ≤ (if andI (shrI t k) 1 = 1 then (1 : Int) else 0) ∧ (if andI (shrI t k) 1 = 1 then (1 : Int) else 0) ≤ 1; split <;> omega)
  unfold sizN
  omega
theorem or_64 : ∀ (t : Fin 64) (b : Fin 6), 0 ≤ orI (t.val : Int) (shlI 1 (b.val : Int)) ∧ orI (t.val : Int) (shlI 1 (b.val : Int)) < 64 := by decide +kernel
theorem tirB_64 (c : Nat → Int) : ∀ n : Nat, n ≤ 6 → 0 ≤ tirB c n ∧ tirB c n < 64
  | 0, _ => by unfold tirB; omega
  | n + 1, h => by
    have ih := tirB_64 c n (by omega)
    unfold tirB
    split
    · have := or_64 ⟨(tirB c n).toNat, by omega⟩ ⟨n, by omega⟩
      rw [Int.toNat_of_nonneg ih.1] at this
      exact this
    · exact ih
noncomputable def bcE (x : Int) : Int := match outV (B_bitCount ([x], [0], fun _ _ => 0)) with
  | some (r, _) => r
  | none => 0
theorem bc_F (x : Int) (σ : SS) : F_bitCount x σ = some (bcE x, σ) := rfl
theorem bc_all : ∀ t : Fin 64, bcE (t.val : Int) = sizN (t.val : Int) := by decide +kernel
theorem k_bitCount {t : Int} (h : 0 ≤ t ∧ t < 64) (σ : SS) : F_bitCount t σ = some (sizN t, σ) := by
  have := bc_all ⟨t.toNat, by omega⟩
  rw [Int.toNat_of_nonneg h.1] at this
  rw [bc_F, this]
theorem m_has (t k : Int) (σ : SS) : F_X12_has t k σ = some (bI (andI (shrI t k) 1 = 1), σ) := by
  simp (disch := omega) only [F_X12_has, B_X12_has, Wd_some, Wd_bn, Wd_sqM, Wd_outV, Wd_blkM, Wd_swM, Wd_ite, Wd_map, v_kS_0, v_kS_b, v_kS_r, v_kO_r, v_kW_0, v_kW_1, v_kW_2, v_kW_r, v_kL_0, v_kL_1, v_kL_2, v_kL_r, v_kU_0, ups_11, upsN, upsA, upA_same, upA_neA, fl_at, fl_neA, v_sq_eq, v_sqM_0, v_sqM_r, v_sqM_b, v_sqM_n, sqM_ite, v_asI, v_asR, v_inc, v_pfI, v_pfZ, v_pfO, v_paI, v_paO, v_exI, v_iff, v_rtI, v_rtZ, v_rtV, v_sk, v_brk, v_cnt, v_blk_eq, v_blkM_some, blkM_ite, v_lI, v_lR, v_cI, v_gI, v_gR, v_op1, v_op2, v_arI, v_arR, v_alen, v_tern, v_cmp1, v_cmp2, v_cAnd, v_cOr, v_cNot, v_cTern, v_bn_some, bn_ite, v_bn_none, v_outV_r, v_outV_0, v_outV_n, outV_ite, List.getD_cons_zero, List.getD_cons_succ, List.set_cons_zero, List.set_cons_succ, List.take_succ_cons, List.take_zero, List.drop_succ_cons, List.drop_zero, List.nil_append, List.cons_append, Option.map_some, Option.map_none, if_true, if_false, reduceIte, reduceCtorEq, decide_eq_true_eq, Bool.not_eq_true', decide_eq_false_iff_not, decide_eq_true, decide_eq_false, decide_true, decide_false, and_self, and_true, true_and, or_self, stO, v_caV_, v_caV_i, v_caV_ii, v_caV_iii, v_caV_iiii, v_caV_iiiii, v_caV_il, v_caV_iil, v_caV_l, v_caV_ll, v_caV_r, v_caV_ri, v_caV_rii, v_caV_riii, v_caV_riiii, v_caV_ir, v_caV_iri, v_caV_iiri, v_caS_i, v_caS_ii, v_caS_iii, v_caS_iiii, v_caS_iiiiii, v_caS_il, v_caS_li, v_caS_ll, v_caS_lll, v_caS_ri, v_caS_riii, sh_239, sh_240, sh_241, sh_242, sh_243, sh_244, sh_245, sh_246, sh_247, sh_248, sh_249, sh_250, sh_251, sh_252, sh_253, rf_239_4, rf_239_5, rf_239_6, rf_239_7, rf_239_20, rf_239_21, rf_239_22, rf_239_23, rf_239_27, rf_239_28, rf_239_32, rf_239_33, rf_239_34, rf_239_35, Int.reduceLE, Int.reduceLT, Int.reduceToNat, Int.reduceAdd, Int.reduceSub, Int.reduceMul, Int.reduceNeg, Int.reduceEq, Int.reduceNe, Nat.reduceAdd, Nat.reduceMul, Nat.reduceLT, Nat.reduceEqDiff, or_true, true_or, or_false, false_or, and_false, false_and, not_true_eq_false, not_false_eq_true, ne_eq, cN4, cN5, cN6, cN7, cN13, cN30, cN60, cN64, cN100, cN136, cN240, cN384, cN900, cN2040, cN3, v_sw_eq, v_swM_0, v_swM_1, v_swM_r, v_swM_n, swM_ite, app_ite, ex_some, bI_0, bI_1, nn_iff, Int.toNat_natCast, Int.toNat_of_nonneg, Int.natCast_add, cN1, if_pos, if_neg]
  try unfold bI
  repeat' split
  all_goals first | rfl | omega | (exfalso; omega)
theorem ml_sizeOf (t : Int) (σ : SS) : L_X12_sizeOf_0 ([t, 0, 0], [0, 0, 0], σ) = some (.inl 0, ([t, sizN t, 6], [0, 0, 0], σ)) := by
  refine Wd_out ?_
  unfold L_X12_sizeOf_0
  refine Wd_it (fun i z => z = ([t, sumN (fun k => if andI (shrI t k) 1 = 1 then 1 else 0) i, (i : Int)], [0, 0, 0], σ)) 6 rfl ?_ ?_
  · intro i z hi hz
    subst hz
    have b := sumN_bd (f := fun k => if andI (shrI t k) 1 = 1 then (1 : Int) else 0) (B := 1) (by omega) i (fun k _ => by show 0 ≤ (if andI (shrI t k) 1 = 1 then (1 : Int) else 0) ∧ (if andI (shrI t k) 1 = 1 then (1 : Int) else 0) ≤ 1; split <;> omega)
    have s1 : sumN (fun k => if andI (shrI t k) 1 = 1 then (1 : Int) else 0) (i + 1) = sumN (fun k => if andI (shrI t k) 1 = 1 then (1 : Int) else 0) i + (if andI (shrI t i) 1 = 1 then 1 else 0) := rfl
    by_cases g : andI (shrI t i) 1 = 1
    · rw [if_pos g] at s1
      simp (disch := omega) only [C_X12_sizeOf_0, D_X12_sizeOf_0, U_X12_sizeOf_0, m_has, g, Wd_some, Wd_bn, Wd_sqM, Wd_outV, Wd_blkM, Wd_swM, Wd_ite, Wd_map, v_kS_0, v_kS_b, v_kS_r, v_kO_r, v_kW_0, v_kW_1, v_kW_2, v_kW_r, v_kL_0, v_kL_1, v_kL_2, v_kL_r, v_kU_0, ups_11, upsN, upsA, upA_same, upA_neA, fl_at, fl_neA, v_sq_eq, v_sqM_0, v_sqM_r, v_sqM_b, v_sqM_n, sqM_ite, v_asI, v_asR, v_inc, v_pfI, v_pfZ, v_pfO, v_paI, v_paO, v_exI, v_iff, v_rtI, v_rtZ, v_rtV, v_sk, v_brk, v_cnt, v_blk_eq, v_blkM_some, blkM_ite, v_lI, v_lR, v_cI, v_gI, v_gR, v_op1, v_op2, v_arI, v_arR, v_alen, v_tern, v_cmp1, v_cmp2, v_cAnd, v_cOr, v_cNot, v_cTern, v_bn_some, bn_ite, v_bn_none, v_outV_r, v_outV_0, v_outV_n, outV_ite, List.getD_cons_zero, List.getD_cons_succ, List.set_cons_zero, List.set_cons_succ, List.take_succ_cons, List.take_zero, List.drop_succ_cons, List.drop_zero, List.nil_append, List.cons_append, Option.map_some, Option.map_none, if_true, if_false, reduceIte, reduceCtorEq, decide_eq_true_eq, Bool.not_eq_true', decide_eq_false_iff_not, decide_eq_true, decide_eq_false, decide_true, decide_false, and_self, and_true, true_and, or_self, stO, v_caV_, v_caV_i, v_caV_ii, v_caV_iii, v_caV_iiii, v_caV_iiiii, v_caV_il, v_caV_iil, v_caV_l, v_caV_ll, v_caV_r, v_caV_ri, v_caV_rii, v_caV_riii, v_caV_riiii, v_caV_ir, v_caV_iri, v_caV_iiri, v_caS_i, v_caS_ii, v_caS_iii, v_caS_iiii, v_caS_iiiiii, v_caS_il, v_caS_li, v_caS_ll, v_caS_lll, v_caS_ri, v_caS_riii, sh_239, sh_240, sh_241, sh_242, sh_243, sh_244, sh_245, sh_246, sh_247, sh_248, sh_249, sh_250, sh_251, sh_252, sh_253, rf_239_4, rf_239_5, rf_239_6, rf_239_7, rf_239_20, rf_239_21, rf_239_22, rf_239_23, rf_239_27, rf_239_28, rf_239_32, rf_239_33, rf_239_34, rf_239_35, Int.reduceLE, Int.reduceLT, Int.reduceToNat, Int.reduceAdd, Int.reduceSub, Int.reduceMul, Int.reduceNeg, Int.reduceEq, Int.reduceNe, Nat.reduceAdd, Nat.reduceMul, Nat.reduceLT, Nat.reduceEqDiff, or_true, true_or, or_false, false_or, and_false, false_and, not_true_eq_false, not_false_eq_true, ne_eq, cN4, cN5, cN6, cN7, cN13, cN30, cN60, cN64, cN100, cN136, cN240, cN384, cN900, cN2040, cN3, v_sw_eq, v_swM_0, v_swM_1, v_swM_r, v_swM_n, swM_ite, app_ite, ex_some, bI_0, bI_1, nn_iff, Int.toNat_natCast, Int.toNat_of_nonneg, Int.natCast_add, cN1, wI_id2, wL_id2, if_pos, if_neg]
      rw [s1]
    · rw [if_neg g] at s1
      simp (disch := omega) only [C_X12_sizeOf_0, D_X12_sizeOf_0, U_X12_sizeOf_0, m_has, g, Wd_some, Wd_bn, Wd_sqM, Wd_outV, Wd_blkM, Wd_swM, Wd_ite, Wd_map, v_kS_0, v_kS_b, v_kS_r, v_kO_r, v_kW_0, v_kW_1, v_kW_2, v_kW_r, v_kL_0, v_kL_1, v_kL_2, v_kL_r, v_kU_0, ups_11, upsN, upsA, upA_same, upA_neA, fl_at, fl_neA, v_sq_eq, v_sqM_0, v_sqM_r, v_sqM_b, v_sqM_n, sqM_ite, v_asI, v_asR, v_inc, v_pfI, v_pfZ, v_pfO, v_paI, v_paO, v_exI, v_iff, v_rtI, v_rtZ, v_rtV, v_sk, v_brk, v_cnt, v_blk_eq, v_blkM_some, blkM_ite, v_lI, v_lR, v_cI, v_gI, v_gR, v_op1, v_op2, v_arI, v_arR, v_alen, v_tern, v_cmp1, v_cmp2, v_cAnd, v_cOr, v_cNot, v_cTern, v_bn_some, bn_ite, v_bn_none, v_outV_r, v_outV_0, v_outV_n, outV_ite, List.getD_cons_zero, List.getD_cons_succ, List.set_cons_zero, List.set_cons_succ, List.take_succ_cons, List.take_zero, List.drop_succ_cons, List.drop_zero, List.nil_append, List.cons_append, Option.map_some, Option.map_none, if_true, if_false, reduceIte, reduceCtorEq, decide_eq_true_eq, Bool.not_eq_true', decide_eq_false_iff_not, decide_eq_true, decide_eq_false, decide_true, decide_false, and_self, and_true, true_and, or_self, stO, v_caV_, v_caV_i, v_caV_ii, v_caV_iii, v_caV_iiii, v_caV_iiiii, v_caV_il, v_caV_iil, v_caV_l, v_caV_ll, v_caV_r, v_caV_ri, v_caV_rii, v_caV_riii, v_caV_riiii, v_caV_ir, v_caV_iri, v_caV_iiri, v_caS_i, v_caS_ii, v_caS_iii, v_caS_iiii, v_caS_iiiiii, v_caS_il, v_caS_li, v_caS_ll, v_caS_lll, v_caS_ri, v_caS_riii, sh_239, sh_240, sh_241, sh_242, sh_243, sh_244, sh_245, sh_246, sh_247, sh_248, sh_249, sh_250, sh_251, sh_252, sh_253, rf_239_4, rf_239_5, rf_239_6, rf_239_7, rf_239_20, rf_239_21, rf_239_22, rf_239_23, rf_239_27, rf_239_28, rf_239_32, rf_239_33, rf_239_34, rf_239_35, Int.reduceLE, Int.reduceLT, Int.reduceToNat, Int.reduceAdd, Int.reduceSub, Int.reduceMul, Int.reduceNeg, Int.reduceEq, Int.reduceNe, Nat.reduceAdd, Nat.reduceMul, Nat.reduceLT, Nat.reduceEqDiff, or_true, true_or, or_false, false_or, and_false, false_and, not_true_eq_false, not_false_eq_true, ne_eq, cN4, cN5, cN6, cN7, cN13, cN30, cN60, cN64, cN100, cN136, cN240, cN384, cN900, cN2040, cN3, v_sw_eq, v_swM_0, v_swM_1, v_swM_r, v_swM_n, swM_ite, app_ite, ex_some, bI_0, bI_1, nn_iff, Int.toNat_natCast, Int.toNat_of_nonneg, Int.natCast_add, cN1, wI_id2, wL_id2, if_pos, if_neg]
      rw [s1, Int.add_zero]
  · intro z hz
    subst hz
    simp (disch := omega) only [C_X12_sizeOf_0, D_X12_sizeOf_0, U_X12_sizeOf_0, Wd_some, Wd_bn, Wd_sqM, Wd_outV, Wd_blkM, Wd_swM, Wd_ite, Wd_map, v_kS_0, v_kS_b, v_kS_r, v_kO_r, v_kW_0, v_kW_1, v_kW_2, v_kW_r, v_kL_0, v_kL_1, v_kL_2, v_kL_r, v_kU_0, ups_11, upsN, upsA, upA_same, upA_neA, fl_at, fl_neA, v_sq_eq, v_sqM_0, v_sqM_r, v_sqM_b, v_sqM_n, sqM_ite, v_asI, v_asR, v_inc, v_pfI, v_pfZ, v_pfO, v_paI, v_paO, v_exI, v_iff, v_rtI, v_rtZ, v_rtV, v_sk, v_brk, v_cnt, v_blk_eq, v_blkM_some, blkM_ite, v_lI, v_lR, v_cI, v_gI, v_gR, v_op1, v_op2, v_arI, v_arR, v_alen, v_tern, v_cmp1, v_cmp2, v_cAnd, v_cOr, v_cNot, v_cTern, v_bn_some, bn_ite, v_bn_none, v_outV_r, v_outV_0, v_outV_n, outV_ite, List.getD_cons_zero, List.getD_cons_succ, List.set_cons_zero, List.set_cons_succ, List.take_succ_cons, List.take_zero, List.drop_succ_cons, List.drop_zero, List.nil_append, List.cons_append, Option.map_some, Option.map_none, if_true, if_false, reduceIte, reduceCtorEq, decide_eq_true_eq, Bool.not_eq_true', decide_eq_false_iff_not, decide_eq_true, decide_eq_false, decide_true, decide_false, and_self, and_true, true_and, or_self, stO, v_caV_, v_caV_i, v_caV_ii, v_caV_iii, v_caV_iiii, v_caV_iiiii, v_caV_il, v_caV_iil, v_caV_l, v_caV_ll, v_caV_r, v_caV_ri, v_caV_rii, v_caV_riii, v_caV_riiii, v_caV_ir, v_caV_iri, v_caV_iiri, v_caS_i, v_caS_ii, v_caS_iii, v_caS_iiii, v_caS_iiiiii, v_caS_il, v_caS_li, v_caS_ll, v_caS_lll, v_caS_ri, v_caS_riii, sh_239, sh_240, sh_241, sh_242, sh_243, sh_244, sh_245, sh_246, sh_247, sh_248, sh_249, sh_250, sh_251, sh_252, sh_253, rf_239_4, rf_239_5, rf_239_6, rf_239_7, rf_239_20, rf_239_21, rf_239_22, rf_239_23, rf_239_27, rf_239_28, rf_239_32, rf_239_33, rf_239_34, rf_239_35, Int.reduceLE, Int.reduceLT, Int.reduceToNat, Int.reduceAdd, Int.reduceSub, Int.reduceMul, Int.reduceNeg, Int.reduceEq, Int.reduceNe, Nat.reduceAdd, Nat.reduceMul, Nat.reduceLT, Nat.reduceEqDiff, or_true, true_or, or_false, false_or, and_false, false_and, not_true_eq_false, not_false_eq_true, ne_eq, cN4, cN5, cN6, cN7, cN13, cN30, cN60, cN64, cN100, cN136, cN240, cN384, cN900, cN2040, cN3, v_sw_eq, v_swM_0, v_swM_1, v_swM_r, v_swM_n, swM_ite, app_ite, ex_some, bI_0, bI_1, nn_iff, Int.toNat_natCast, Int.toNat_of_nonneg, Int.natCast_add, cN1, wI_id2, wL_id2, if_pos, if_neg]
    rfl
theorem m_sizeOf (t : Int) (σ : SS) : F_X12_sizeOf t σ = some (sizN t, σ) := by
  simp (disch := omega) only [F_X12_sizeOf, E_X12_sizeOf, ml_sizeOf, Wd_some, Wd_bn, Wd_sqM, Wd_outV, Wd_blkM, Wd_swM, Wd_ite, Wd_map, v_kS_0, v_kS_b, v_kS_r, v_kO_r, v_kW_0, v_kW_1, v_kW_2, v_kW_r, v_kL_0, v_kL_1, v_kL_2, v_kL_r, v_kU_0, ups_11, upsN, upsA, upA_same, upA_neA, fl_at, fl_neA, v_sq_eq, v_sqM_0, v_sqM_r, v_sqM_b, v_sqM_n, sqM_ite, v_asI, v_asR, v_inc, v_pfI, v_pfZ, v_pfO, v_paI, v_paO, v_exI, v_iff, v_rtI, v_rtZ, v_rtV, v_sk, v_brk, v_cnt, v_blk_eq, v_blkM_some, blkM_ite, v_lI, v_lR, v_cI, v_gI, v_gR, v_op1, v_op2, v_arI, v_arR, v_alen, v_tern, v_cmp1, v_cmp2, v_cAnd, v_cOr, v_cNot, v_cTern, v_bn_some, bn_ite, v_bn_none, v_outV_r, v_outV_0, v_outV_n, outV_ite, List.getD_cons_zero, List.getD_cons_succ, List.set_cons_zero, List.set_cons_succ, List.take_succ_cons, List.take_zero, List.drop_succ_cons, List.drop_zero, List.nil_append, List.cons_append, Option.map_some, Option.map_none, if_true, if_false, reduceIte, reduceCtorEq, decide_eq_true_eq, Bool.not_eq_true', decide_eq_false_iff_not, decide_eq_true, decide_eq_false, decide_true, decide_false, and_self, and_true, true_and, or_self, stO, v_caV_, v_caV_i, v_caV_ii, v_caV_iii, v_caV_iiii, v_caV_iiiii, v_caV_il, v_caV_iil, v_caV_l, v_caV_ll, v_caV_r, v_caV_ri, v_caV_rii, v_caV_riii, v_caV_riiii, v_caV_ir, v_caV_iri, v_caV_iiri, v_caS_i, v_caS_ii, v_caS_iii, v_caS_iiii, v_caS_iiiiii, v_caS_il, v_caS_li, v_caS_ll, v_caS_lll, v_caS_ri, v_caS_riii, sh_239, sh_240, sh_241, sh_242, sh_243, sh_244, sh_245, sh_246, sh_247, sh_248, sh_249, sh_250, sh_251, sh_252, sh_253, rf_239_4, rf_239_5, rf_239_6, rf_239_7, rf_239_20, rf_239_21, rf_239_22, rf_239_23, rf_239_27, rf_239_28, rf_239_32, rf_239_33, rf_239_34, rf_239_35, Int.reduceLE, Int.reduceLT, Int.reduceToNat, Int.reduceAdd, Int.reduceSub, Int.reduceMul, Int.reduceNeg, Int.reduceEq, Int.reduceNe, Nat.reduceAdd, Nat.reduceMul, Nat.reduceLT, Nat.reduceEqDiff, or_true, true_or, or_false, false_or, and_false, false_and, not_true_eq_false, not_false_eq_true, ne_eq, cN4, cN5, cN6, cN7, cN13, cN30, cN60, cN64, cN100, cN136, cN240, cN384, cN900, cN2040, cN3, v_sw_eq, v_swM_0, v_swM_1, v_swM_r, v_swM_n, swM_ite, app_ite, ex_some, bI_0, bI_1, nn_iff, Int.toNat_natCast, Int.toNat_of_nonneg, Int.natCast_add, cN1, wI_id2, wL_id2, if_pos, if_neg]
/-! the class: hours go by -/
theorem WH_up {c : Nat → Int} {k : Nat} {v : Int} (hk : 10 ≤ k) (hw : WH c) : WH (upc c k v) := by
  unfold WH
  rw [upc_ne (by omega), upc_ne (by omega), upc_ne (by omega), upc_ne (by omega), upc_ne (by omega), upc_ne (by omega), upc_ne (by omega), upc_ne (by omega), upc_ne (by omega), upc_ne (by omega)]
  exact hw
theorem kT_c2 {σ σ' : SS} {a : Nat} {c w : Nat → Int} (hw : WH c) (h : ∀ x, a + 11 ≤ x → x < a + 17 → σ' x = σ x) (H : kT σ a c w) : kT σ' a c w := by
  intro b hb
  rw [h (a + 11 + b) (by omega) (by omega)]
  exact H b hb
section KP
variable {σ : SS} {s : Nat} {c w : Nat → Int}
def Ph1 (s : Nat) (c w : Nat → Int) (q : Nat) (n h got : Int) (σ : SS) (i : Nat) (z : ZZ) : Prop := ∃ σ' : SS, z = ([0, n, got + sumN (fun b => gainB c (playP c) b (nC c)) i, h, (q : Int), (i : Int), 0, 0], [s, 0, 0, 0, 0, 0, 0, 0], σ') ∧ (∀ a, ¬ (s + 18 ≤ a ∧ a < s + 30) → σ' a = σ a) ∧ PkS σ' (s + 1) (hpB c (playP c) i) w
theorem kl_pass1 (hs : isS s) (P : PkS σ (s + 1) c w) (hw : WB c) (hL : LkS s c σ) {q : Nat} (hq : SlR s c (playP c) q σ) (n h got : Int) (hg : 0 ≤ got ∧ got ≤ 2000000) : Wd (L_X7_passHours_1 ([0, n, got, h, (q : Int), 0, 0, 0], [s, 0, 0, 0, 0, 0, 0, 0], σ)) (fun o z => o = .inl 0 ∧ Ph1 s c w q n h got σ (bn3 c) z) := by
  have hn := bn3_c hw.1
  have hN := nC_c hw.1
  have hH := hw.1
  unfold L_X7_passHours_1
  refine Wd_it (Ph1 s c w q n h got σ) (bn3 c) ⟨σ, by show _ = ([0, n, got + 0, h, (q : Int), 0, 0, 0], _, _); rw [Int.add_zero]; rfl, fun _ _ => rfl, by rw [hpB_0]; exact P⟩ ?_ ?_
  · intro i z hi hz
    obtain ⟨σ1, hz, f1, f2⟩ := hz
    subst hz
    have d1 := (hw.2.2.1 i (by omega) (by omega)).1
    have H' : kH σ1 (s + 1) c := kH_c (f1 _ (by omega)) P.1
    have T' : kT σ1 (s + 1) c w := by
      intro t ht
      rw [f1 _ (by omega)]
      exact P.2.1 t ht
    have en := plO_P hw.2.2.1 i (by omega)
    have e41 : σ1 (s + 41) i = playP c i := by
      rw [f1 _ (by omega), hL.2.2.2 i (by omega), if_pos (by omega)]
      rfl
    have eg := k_gainIn (σ := σ1) hs hq.1 (show i < 6 by omega)
    rw [f1 (s + 40) (by omega), (hq.2 i (by omega)).2] at eg
    have g := gainF_bd c (playP c) i (nC c)
    have gs := sumN_b (f := fun b => gainB c (playP c) b (nC c)) (B := 90) (n := i) (m := 6) (by omega) (by omega) (fun k _ => by
      have := gainF_bd c (playP c) k (nC c)
      show 0 ≤ gainB c (playP c) k (nC c) ∧ gainB c (playP c) k (nC c) ≤ 90
      omega)
    have ss : sumN (fun b => gainB c (playP c) b (nC c)) (i + 1) = sumN (fun b => gainB c (playP c) b (nC c)) i + gainB c (playP c) i (nC c) := rfl
    have B' := f2.2.2.1
    have hb3 : (i : Int) < hpB c (playP c) i 3 := by rw [hpB_o (by omega) (by omega)]; omega
    have v4 := kB_4 B' i hb3
    have v5 := kB_5 B' i hb3
    have v6 := kB_6 B' i hb3
    rw [hpB_o (by omega) (by omega)] at v4 v5 v6
    have W' : WH (hpB c (playP c) i) := by
      unfold WH
      rw [hpB_o (by omega) (by omega), hpB_o (by omega) (by omega), hpB_o (by omega) (by omega), hpB_o (by omega) (by omega), hpB_o (by omega) (by omega), hpB_o (by omega) (by omega), hpB_o (by omega) (by omega), hpB_o (by omega) (by omega), hpB_o (by omega) (by omega), hpB_o (by omega) (by omega)]
      exact hw.1
    have U := PkS_upF (WH_up (by omega) W') (PkS_upF W' f2 hb3 (f := 6) (by omega) (c (58 + (i : Int)).toNat + gainB c (playP c) i (nC c))) (i := i) (by rw [upc_ne (by omega)]; exact hb3) (f := 4) (by omega) (lipsB c (playP c) i)
    rw [← hpB_s c (playP c) (show i < 6 by omega)] at U
    have fin : ∀ v : Int, v = lipsB c (playP c) i → Ph1 s c w q n h got σ (i + 1) ([0, n, got + sumN (fun b => gainB c (playP c) b (nC c)) i + gainB c (playP c) i (nC c), h, (q : Int), (i : Int) + 1, 0, 0], [s, 0, 0, 0, 0, 0, 0, 0], ups (ups σ1 (s + 1 + 17 + 2 * i) 6 (c (58 + (i : Int)).toNat + gainB c (playP c) i (nC c))) (s + 1 + 17 + 2 * i) 4 v) := by
      intro v hv
      subst hv
      refine ⟨_, by rw [ss, Int.add_assoc]; rfl, fun a ha => ?_, U⟩
      simp (disch := omega) only [ups_11, upsN, upsA, upA_same, upA_neA, fl_at, fl_neA]
      exact f1 a ha
    have toll := k_tollOf (S_P hs) (σ := ups σ1 (s + 1 + 17 + 2 * i) 6 (c (58 + (i : Int)).toNat + gainB c (playP c) i (nC c))) (kH_c (upsA (by omega)) H') (kT_c2 hw.1 (fun x h1 h2 => upsA (by omega)) T') hw.1 en
    have el : lipsB c (playP c) i = if playP c i < 6 then c (46 + (i : Int)).toNat - c (16 + playP c i).toNat else if c (46 + (i : Int)).toNat + c 5 < c (52 + (i : Int)).toNat then c (46 + (i : Int)).toNat + c 5 else c (52 + (i : Int)).toNat := by
      unfold lipsB
      rw [Int.toNat_natCast]
    by_cases g6 : playP c i = 6
    · rw [g6, if_neg (by omega)] at toll
      rw [if_neg (by omega)] at el
      simp (disch := omega) only [C_X7_passHours_1, D_X7_passHours_1, U_X7_passHours_1, F_X0_lipsAfter, B_X0_lipsAfter, S_s hs, S_r0 hs, S_r1 hs, S_r2 hs, S_q hs, S_q0 hs, S_q1 hs, S_q2 hs, S_q3 hs, S_q4 hs, S_l hs, S_k hs, S_w hs, S_n hs, S_y hs, S_rl hs, S_sl hs, P_a (S_P hs), P_1 (S_P hs), P_2 (S_P hs), P_3 (S_P hs), P_4 (S_P hs), P_5 (S_P hs), P_6 (S_P hs), P_7 (S_P hs), P_8 (S_P hs), P_9 (S_P hs), P_10 (S_P hs), P_t (S_P hs), P_b (S_P hs), P_g (S_P hs), P_r8 (S_P hs), P_r10 (S_P hs), P_r12 (S_P hs), P_r13 (S_P hs), P_e2 (S_P hs), P_e3 (S_P hs), P_e4 (S_P hs), P_e5 (S_P hs), P_e6 (S_P hs), P_e7 (S_P hs), P_rt (S_P hs), P_rb (S_P hs), P_rg (S_P hs), H'.1, H'.2.1, H'.2.2.1, H'.2.2.2.1, H'.2.2.2.2.1, H'.2.2.2.2.2.1, H'.2.2.2.2.2.2.1, H'.2.2.2.2.2.2.2.1, H'.2.2.2.2.2.2.2.2.1, H'.2.2.2.2.2.2.2.2.2, eg, e41, g6, v4, v5, v6, toll, Wd_some, Wd_bn, Wd_sqM, Wd_outV, Wd_blkM, Wd_swM, Wd_ite, Wd_map, v_kS_0, v_kS_b, v_kS_r, v_kO_r, v_kW_0, v_kW_1, v_kW_2, v_kW_r, v_kL_0, v_kL_1, v_kL_2, v_kL_r, v_kU_0, ups_11, upsN, upsA, upA_same, upA_neA, fl_at, fl_neA, v_sq_eq, v_sqM_0, v_sqM_r, v_sqM_b, v_sqM_n, sqM_ite, v_asI, v_asR, v_inc, v_pfI, v_pfZ, v_pfO, v_paI, v_paO, v_exI, v_iff, v_rtI, v_rtZ, v_rtV, v_sk, v_brk, v_cnt, v_blk_eq, v_blkM_some, blkM_ite, v_lI, v_lR, v_cI, v_gI, v_gR, v_op1, v_op2, v_arI, v_arR, v_alen, v_tern, v_cmp1, v_cmp2, v_cAnd, v_cOr, v_cNot, v_cTern, v_bn_some, bn_ite, v_bn_none, v_outV_r, v_outV_0, v_outV_n, outV_ite, List.getD_cons_zero, List.getD_cons_succ, List.set_cons_zero, List.set_cons_succ, List.take_succ_cons, List.take_zero, List.drop_succ_cons, List.drop_zero, List.nil_append, List.cons_append, Option.map_some, Option.map_none, if_true, if_false, reduceIte, reduceCtorEq, decide_eq_true_eq, Bool.not_eq_true', decide_eq_false_iff_not, decide_eq_true, decide_eq_false, decide_true, decide_false, and_self, and_true, true_and, or_self, stO, v_caV_, v_caV_i, v_caV_ii, v_caV_iii, v_caV_iiii, v_caV_iiiii, v_caV_il, v_caV_iil, v_caV_l, v_caV_ll, v_caV_r, v_caV_ri, v_caV_rii, v_caV_riii, v_caV_riiii, v_caV_ir, v_caV_iri, v_caV_iiri, v_caS_i, v_caS_ii, v_caS_iii, v_caS_iiii, v_caS_iiiiii, v_caS_il, v_caS_li, v_caS_ll, v_caS_lll, v_caS_ri, v_caS_riii, sh_239, sh_240, sh_241, sh_242, sh_243, sh_244, sh_245, sh_246, sh_247, sh_248, sh_249, sh_250, sh_251, sh_252, sh_253, rf_239_4, rf_239_5, rf_239_6, rf_239_7, rf_239_20, rf_239_21, rf_239_22, rf_239_23, rf_239_27, rf_239_28, rf_239_32, rf_239_33, rf_239_34, rf_239_35, Int.reduceLE, Int.reduceLT, Int.reduceToNat, Int.reduceAdd, Int.reduceSub, Int.reduceMul, Int.reduceNeg, Int.reduceEq, Int.reduceNe, Nat.reduceAdd, Nat.reduceMul, Nat.reduceLT, Nat.reduceEqDiff, or_true, true_or, or_false, false_or, and_false, false_and, not_true_eq_false, not_false_eq_true, ne_eq, cN4, cN5, cN6, cN7, cN13, cN30, cN60, cN64, cN100, cN136, cN240, cN384, cN900, cN2040, cN3, v_sw_eq, v_swM_0, v_swM_1, v_swM_r, v_swM_n, swM_ite, app_ite, ex_some, bI_0, bI_1, nn_iff, Int.toNat_natCast, Int.toNat_of_nonneg, Int.natCast_add, cN1, wI_id2, wL_id2, if_pos, if_neg]
      exact fin _ el.symm
    · have t1 := hw.2.1 (playP c i) (by omega) (by omega)
      rw [if_pos (by omega)] at toll
      rw [if_pos (by omega)] at el
      simp (disch := omega) only [C_X7_passHours_1, D_X7_passHours_1, U_X7_passHours_1, F_X0_lipsAfter, B_X0_lipsAfter, S_s hs, S_r0 hs, S_r1 hs, S_r2 hs, S_q hs, S_q0 hs, S_q1 hs, S_q2 hs, S_q3 hs, S_q4 hs, S_l hs, S_k hs, S_w hs, S_n hs, S_y hs, S_rl hs, S_sl hs, P_a (S_P hs), P_1 (S_P hs), P_2 (S_P hs), P_3 (S_P hs), P_4 (S_P hs), P_5 (S_P hs), P_6 (S_P hs), P_7 (S_P hs), P_8 (S_P hs), P_9 (S_P hs), P_10 (S_P hs), P_t (S_P hs), P_b (S_P hs), P_g (S_P hs), P_r8 (S_P hs), P_r10 (S_P hs), P_r12 (S_P hs), P_r13 (S_P hs), P_e2 (S_P hs), P_e3 (S_P hs), P_e4 (S_P hs), P_e5 (S_P hs), P_e6 (S_P hs), P_e7 (S_P hs), P_rt (S_P hs), P_rb (S_P hs), P_rg (S_P hs), H'.1, H'.2.1, H'.2.2.1, H'.2.2.2.1, H'.2.2.2.2.1, H'.2.2.2.2.2.1, H'.2.2.2.2.2.2.1, H'.2.2.2.2.2.2.2.1, H'.2.2.2.2.2.2.2.2.1, H'.2.2.2.2.2.2.2.2.2, eg, e41, g6, v4, v5, v6, toll, Wd_some, Wd_bn, Wd_sqM, Wd_outV, Wd_blkM, Wd_swM, Wd_ite, Wd_map, v_kS_0, v_kS_b, v_kS_r, v_kO_r, v_kW_0, v_kW_1, v_kW_2, v_kW_r, v_kL_0, v_kL_1, v_kL_2, v_kL_r, v_kU_0, ups_11, upsN, upsA, upA_same, upA_neA, fl_at, fl_neA, v_sq_eq, v_sqM_0, v_sqM_r, v_sqM_b, v_sqM_n, sqM_ite, v_asI, v_asR, v_inc, v_pfI, v_pfZ, v_pfO, v_paI, v_paO, v_exI, v_iff, v_rtI, v_rtZ, v_rtV, v_sk, v_brk, v_cnt, v_blk_eq, v_blkM_some, blkM_ite, v_lI, v_lR, v_cI, v_gI, v_gR, v_op1, v_op2, v_arI, v_arR, v_alen, v_tern, v_cmp1, v_cmp2, v_cAnd, v_cOr, v_cNot, v_cTern, v_bn_some, bn_ite, v_bn_none, v_outV_r, v_outV_0, v_outV_n, outV_ite, List.getD_cons_zero, List.getD_cons_succ, List.set_cons_zero, List.set_cons_succ, List.take_succ_cons, List.take_zero, List.drop_succ_cons, List.drop_zero, List.nil_append, List.cons_append, Option.map_some, Option.map_none, if_true, if_false, reduceIte, reduceCtorEq, decide_eq_true_eq, Bool.not_eq_true', decide_eq_false_iff_not, decide_eq_true, decide_eq_false, decide_true, decide_false, and_self, and_true, true_and, or_self, stO, v_caV_, v_caV_i, v_caV_ii, v_caV_iii, v_caV_iiii, v_caV_iiiii, v_caV_il, v_caV_iil, v_caV_l, v_caV_ll, v_caV_r, v_caV_ri, v_caV_rii, v_caV_riii, v_caV_riiii, v_caV_ir, v_caV_iri, v_caV_iiri, v_caS_i, v_caS_ii, v_caS_iii, v_caS_iiii, v_caS_iiiiii, v_caS_il, v_caS_li, v_caS_ll, v_caS_lll, v_caS_ri, v_caS_riii, sh_239, sh_240, sh_241, sh_242, sh_243, sh_244, sh_245, sh_246, sh_247, sh_248, sh_249, sh_250, sh_251, sh_252, sh_253, rf_239_4, rf_239_5, rf_239_6, rf_239_7, rf_239_20, rf_239_21, rf_239_22, rf_239_23, rf_239_27, rf_239_28, rf_239_32, rf_239_33, rf_239_34, rf_239_35, Int.reduceLE, Int.reduceLT, Int.reduceToNat, Int.reduceAdd, Int.reduceSub, Int.reduceMul, Int.reduceNeg, Int.reduceEq, Int.reduceNe, Nat.reduceAdd, Nat.reduceMul, Nat.reduceLT, Nat.reduceEqDiff, or_true, true_or, or_false, false_or, and_false, false_and, not_true_eq_false, not_false_eq_true, ne_eq, cN4, cN5, cN6, cN7, cN13, cN30, cN60, cN64, cN100, cN136, cN240, cN384, cN900, cN2040, cN3, v_sw_eq, v_swM_0, v_swM_1, v_swM_r, v_swM_n, swM_ite, app_ite, ex_some, bI_0, bI_1, nn_iff, Int.toNat_natCast, Int.toNat_of_nonneg, Int.natCast_add, cN1, wI_id2, wL_id2, if_pos, if_neg]
      exact fin _ el.symm
  · intro z hz
    obtain ⟨σ1, hz, f1, f2⟩ := hz
    subst hz
    have H' : kH σ1 (s + 1) c := kH_c (f1 _ (by omega)) P.1
    simp (disch := omega) only [C_X7_passHours_1, D_X7_passHours_1, U_X7_passHours_1, S_s hs, S_r0 hs, S_r1 hs, S_r2 hs, S_q hs, S_q0 hs, S_q1 hs, S_q2 hs, S_q3 hs, S_q4 hs, S_l hs, S_k hs, S_w hs, S_n hs, S_y hs, S_rl hs, S_sl hs, P_a (S_P hs), P_1 (S_P hs), P_2 (S_P hs), P_3 (S_P hs), P_4 (S_P hs), P_5 (S_P hs), P_6 (S_P hs), P_7 (S_P hs), P_8 (S_P hs), P_9 (S_P hs), P_10 (S_P hs), P_t (S_P hs), P_b (S_P hs), P_g (S_P hs), P_r8 (S_P hs), P_r10 (S_P hs), P_r12 (S_P hs), P_r13 (S_P hs), P_e2 (S_P hs), P_e3 (S_P hs), P_e4 (S_P hs), P_e5 (S_P hs), P_e6 (S_P hs), P_e7 (S_P hs), P_rt (S_P hs), P_rb (S_P hs), P_rg (S_P hs), H'.1, H'.2.1, H'.2.2.1, H'.2.2.2.1, H'.2.2.2.2.1, H'.2.2.2.2.2.1, H'.2.2.2.2.2.2.1, H'.2.2.2.2.2.2.2.1, H'.2.2.2.2.2.2.2.2.1, H'.2.2.2.2.2.2.2.2.2, hn, Wd_some, Wd_bn, Wd_sqM, Wd_outV, Wd_blkM, Wd_swM, Wd_ite, Wd_map, v_kS_0, v_kS_b, v_kS_r, v_kO_r, v_kW_0, v_kW_1, v_kW_2, v_kW_r, v_kL_0, v_kL_1, v_kL_2, v_kL_r, v_kU_0, ups_11, upsN, upsA, upA_same, upA_neA, fl_at, fl_neA, v_sq_eq, v_sqM_0, v_sqM_r, v_sqM_b, v_sqM_n, sqM_ite, v_asI, v_asR, v_inc, v_pfI, v_pfZ, v_pfO, v_paI, v_paO, v_exI, v_iff, v_rtI, v_rtZ, v_rtV, v_sk, v_brk, v_cnt, v_blk_eq, v_blkM_some, blkM_ite, v_lI, v_lR, v_cI, v_gI, v_gR, v_op1, v_op2, v_arI, v_arR, v_alen, v_tern, v_cmp1, v_cmp2, v_cAnd, v_cOr, v_cNot, v_cTern, v_bn_some, bn_ite, v_bn_none, v_outV_r, v_outV_0, v_outV_n, outV_ite, List.getD_cons_zero, List.getD_cons_succ, List.set_cons_zero, List.set_cons_succ, List.take_succ_cons, List.take_zero, List.drop_succ_cons, List.drop_zero, List.nil_append, List.cons_append, Option.map_some, Option.map_none, if_true, if_false, reduceIte, reduceCtorEq, decide_eq_true_eq, Bool.not_eq_true', decide_eq_false_iff_not, decide_eq_true, decide_eq_false, decide_true, decide_false, and_self, and_true, true_and, or_self, stO, v_caV_, v_caV_i, v_caV_ii, v_caV_iii, v_caV_iiii, v_caV_iiiii, v_caV_il, v_caV_iil, v_caV_l, v_caV_ll, v_caV_r, v_caV_ri, v_caV_rii, v_caV_riii, v_caV_riiii, v_caV_ir, v_caV_iri, v_caV_iiri, v_caS_i, v_caS_ii, v_caS_iii, v_caS_iiii, v_caS_iiiiii, v_caS_il, v_caS_li, v_caS_ll, v_caS_lll, v_caS_ri, v_caS_riii, sh_239, sh_240, sh_241, sh_242, sh_243, sh_244, sh_245, sh_246, sh_247, sh_248, sh_249, sh_250, sh_251, sh_252, sh_253, rf_239_4, rf_239_5, rf_239_6, rf_239_7, rf_239_20, rf_239_21, rf_239_22, rf_239_23, rf_239_27, rf_239_28, rf_239_32, rf_239_33, rf_239_34, rf_239_35, Int.reduceLE, Int.reduceLT, Int.reduceToNat, Int.reduceAdd, Int.reduceSub, Int.reduceMul, Int.reduceNeg, Int.reduceEq, Int.reduceNe, Nat.reduceAdd, Nat.reduceMul, Nat.reduceLT, Nat.reduceEqDiff, or_true, true_or, or_false, false_or, and_false, false_and, not_true_eq_false, not_false_eq_true, ne_eq, cN4, cN5, cN6, cN7, cN13, cN30, cN60, cN64, cN100, cN136, cN240, cN384, cN900, cN2040, cN3, v_sw_eq, v_swM_0, v_swM_1, v_swM_r, v_swM_n, swM_ite, app_ite, ex_some, bI_0, bI_1, nn_iff, Int.toNat_natCast, Int.toNat_of_nonneg, Int.natCast_add, cN1, wI_id2, wL_id2, if_pos, if_neg]
    exact ⟨σ1, by rw [hn], f1, f2⟩
/-- what hours leave as it was -/
def PhF (s : Nat) (σ σ' : SS) : Prop := (∀ a, ¬ (s ≤ a ∧ a ≤ s + 41) → σ' a = σ a) ∧ (∀ a, s + 5 ≤ a → a ≤ s + 11 → σ' a = σ a) ∧ (∀ k, k ≠ 4 → k ≠ 8 → σ' s k = σ s k) ∧ σ' (s + 1) 14 = σ (s + 1) 14
def PhO (s : Nat) (c w : Nat → Int) (V n : Int) (σ : SS) (h : Nat) (z : ZZ) : Prop := ∃ σ' : SS, z = ([0, n, gotN c h, (h : Int), 0, 0, 0, 0], [s, 0, 0, 0, 0, 0, 0, 0], σ') ∧ PkS σ' (s + 1) (hrN c h) w ∧ StK s (hrN c h) V σ' ∧ PhF s σ σ' ∧ (0 ≤ σ s 8 ∧ σ s 8 ≤ 1000000 → σ' s 8 = σ s 8 + tiN c h)
theorem tiN_bd (c : Nat → Int) : ∀ h : Nat, 0 ≤ tiN c h ∧ tiN c h ≤ 6 * h
  | 0 => by unfold tiN; omega
  | h + 1 => by
    have a := tiN_bd c h
    have b := sizN_bd (tirB (hrN c h) (bn3 (hrN c h)))
    unfold tiN
    omega
theorem kl_pass0 (hs : isS s) (P : PkS σ (s + 1) c w) (hw : WB c) (hq : WQ c) {V : Int} (K : StK s c V σ) {n : Nat} (hn : n ≤ 200) (h7 : c 7 + n ≤ 12000) : Wd (L_X7_passHours_0 ([0, (n : Int), 0, 0, 0, 0, 0, 0], [s, 0, 0, 0, 0, 0, 0, 0], σ)) (fun o z => o = .inl 0 ∧ PhO s c w V n σ n z) := by
  unfold L_X7_passHours_0
  refine Wd_it (PhO s c w V n σ) n ⟨σ, rfl, P, K, ⟨fun _ _ => rfl, fun _ _ _ => rfl, fun _ _ _ => rfl, rfl⟩, fun _ => by show _ = _ + (0 : Int); omega⟩ ?_ ?_
  · intro h z hh hz
    obtain ⟨σ1, hz, f1, f2, f3, f4⟩ := hz
    subst hz
    obtain ⟨a1, a2, a3, a4⟩ := hrN_ok hw hq h (by omega)
    have gb := gotN_bd hw hq h (by omega)
    have tb := tiN_bd c h
    have pb := ptsB_bd a1
    have eg1 : gotN c (h + 1) = gotN c h + ptsB (hrN c h) := rfl
    have et1 : tiN c (h + 1) = tiN c h + sizN (tirB (hrN c h) (bn3 (hrN c h))) := rfl
    have eh1 : hrN c (h + 1) = hourB (hrN c h) := rfl
    generalize hrN c h = d at a1 a2 a3 a4 f1 f2 pb eg1 et1 eh1
    have bnd := bn3_c a1.1
    have aH := a1.1
    simp (disch := omega) only [C_X7_passHours_0, D_X7_passHours_0, U_X7_passHours_0, S_s hs, S_r0 hs, S_r1 hs, S_r2 hs, S_q hs, S_q0 hs, S_q1 hs, S_q2 hs, S_q3 hs, S_q4 hs, S_l hs, S_k hs, S_w hs, S_n hs, S_y hs, S_rl hs, S_sl hs, P_a (S_P hs), P_1 (S_P hs), P_2 (S_P hs), P_3 (S_P hs), P_4 (S_P hs), P_5 (S_P hs), P_6 (S_P hs), P_7 (S_P hs), P_8 (S_P hs), P_9 (S_P hs), P_10 (S_P hs), P_t (S_P hs), P_b (S_P hs), P_g (S_P hs), P_r8 (S_P hs), P_r10 (S_P hs), P_r12 (S_P hs), P_r13 (S_P hs), P_e2 (S_P hs), P_e3 (S_P hs), P_e4 (S_P hs), P_e5 (S_P hs), P_e6 (S_P hs), P_e7 (S_P hs), P_rt (S_P hs), P_rb (S_P hs), P_rg (S_P hs), Wd_some, Wd_bn, Wd_sqM, Wd_outV, Wd_blkM, Wd_swM, Wd_ite, Wd_map, v_kS_0, v_kS_b, v_kS_r, v_kO_r, v_kW_0, v_kW_1, v_kW_2, v_kW_r, v_kL_0, v_kL_1, v_kL_2, v_kL_r, v_kU_0, ups_11, upsN, upsA, upA_same, upA_neA, fl_at, fl_neA, v_sq_eq, v_sqM_0, v_sqM_r, v_sqM_b, v_sqM_n, sqM_ite, v_asI, v_asR, v_inc, v_pfI, v_pfZ, v_pfO, v_paI, v_paO, v_exI, v_iff, v_rtI, v_rtZ, v_rtV, v_sk, v_brk, v_cnt, v_blk_eq, v_blkM_some, blkM_ite, v_lI, v_lR, v_cI, v_gI, v_gR, v_op1, v_op2, v_arI, v_arR, v_alen, v_tern, v_cmp1, v_cmp2, v_cAnd, v_cOr, v_cNot, v_cTern, v_bn_some, bn_ite, v_bn_none, v_outV_r, v_outV_0, v_outV_n, outV_ite, List.getD_cons_zero, List.getD_cons_succ, List.set_cons_zero, List.set_cons_succ, List.take_succ_cons, List.take_zero, List.drop_succ_cons, List.drop_zero, List.nil_append, List.cons_append, Option.map_some, Option.map_none, if_true, if_false, reduceIte, reduceCtorEq, decide_eq_true_eq, Bool.not_eq_true', decide_eq_false_iff_not, decide_eq_true, decide_eq_false, decide_true, decide_false, and_self, and_true, true_and, or_self, stO, v_caV_, v_caV_i, v_caV_ii, v_caV_iii, v_caV_iiii, v_caV_iiiii, v_caV_il, v_caV_iil, v_caV_l, v_caV_ll, v_caV_r, v_caV_ri, v_caV_rii, v_caV_riii, v_caV_riiii, v_caV_ir, v_caV_iri, v_caV_iiri, v_caS_i, v_caS_ii, v_caS_iii, v_caS_iiii, v_caS_iiiiii, v_caS_il, v_caS_li, v_caS_ll, v_caS_lll, v_caS_ri, v_caS_riii, sh_239, sh_240, sh_241, sh_242, sh_243, sh_244, sh_245, sh_246, sh_247, sh_248, sh_249, sh_250, sh_251, sh_252, sh_253, rf_239_4, rf_239_5, rf_239_6, rf_239_7, rf_239_20, rf_239_21, rf_239_22, rf_239_23, rf_239_27, rf_239_28, rf_239_32, rf_239_33, rf_239_34, rf_239_35, Int.reduceLE, Int.reduceLT, Int.reduceToNat, Int.reduceAdd, Int.reduceSub, Int.reduceMul, Int.reduceNeg, Int.reduceEq, Int.reduceNe, Nat.reduceAdd, Nat.reduceMul, Nat.reduceLT, Nat.reduceEqDiff, or_true, true_or, or_false, false_or, and_false, false_and, not_true_eq_false, not_false_eq_true, ne_eq, cN4, cN5, cN6, cN7, cN13, cN30, cN60, cN64, cN100, cN136, cN240, cN384, cN900, cN2040, cN3, v_sw_eq, v_swM_0, v_swM_1, v_swM_r, v_swM_n, swM_ite, app_ite, ex_some, bI_0, bI_1, nn_iff, Int.toNat_natCast, Int.toNat_of_nonneg, Int.natCast_add, cN1, wI_id2, wL_id2, if_pos, if_neg]
    refine Wd_mono (k_look hs f1 a1 f2) (fun r σ2 hr => ?_)
    obtain ⟨hr, lf, ls⟩ := hr
    subst hr
    have P2 : PkS σ2 (s + 1) d w := PkS_c a1.1 (fun k hk => by rw [lf.1 _ (by omega)]) (fun x h1 h2 => lf.1 _ (by omega)) f1
    have ep : ∀ k : Nat, k < bn3 d → σ2 (s + 41) k = playP d k := fun k hk => by
      rw [ls.2.2.2 k (by omega), if_pos (by omega)]
      rfl
    have hp2 : plO d (σ2 (s + 41)) := fun k hk => by
      rw [ep k (by omega)]
      exact plO_P a1.2.2.1 k hk
    simp (disch := omega) only [S_s hs, S_r0 hs, S_r1 hs, S_r2 hs, S_q hs, S_q0 hs, S_q1 hs, S_q2 hs, S_q3 hs, S_q4 hs, S_l hs, S_k hs, S_w hs, S_n hs, S_y hs, S_rl hs, S_sl hs, P_a (S_P hs), P_1 (S_P hs), P_2 (S_P hs), P_3 (S_P hs), P_4 (S_P hs), P_5 (S_P hs), P_6 (S_P hs), P_7 (S_P hs), P_8 (S_P hs), P_9 (S_P hs), P_10 (S_P hs), P_t (S_P hs), P_b (S_P hs), P_g (S_P hs), P_r8 (S_P hs), P_r10 (S_P hs), P_r12 (S_P hs), P_r13 (S_P hs), P_e2 (S_P hs), P_e3 (S_P hs), P_e4 (S_P hs), P_e5 (S_P hs), P_e6 (S_P hs), P_e7 (S_P hs), P_rt (S_P hs), P_rb (S_P hs), P_rg (S_P hs), Wd_some, Wd_bn, Wd_sqM, Wd_outV, Wd_blkM, Wd_swM, Wd_ite, Wd_map, v_kS_0, v_kS_b, v_kS_r, v_kO_r, v_kW_0, v_kW_1, v_kW_2, v_kW_r, v_kL_0, v_kL_1, v_kL_2, v_kL_r, v_kU_0, ups_11, upsN, upsA, upA_same, upA_neA, fl_at, fl_neA, v_sq_eq, v_sqM_0, v_sqM_r, v_sqM_b, v_sqM_n, sqM_ite, v_asI, v_asR, v_inc, v_pfI, v_pfZ, v_pfO, v_paI, v_paO, v_exI, v_iff, v_rtI, v_rtZ, v_rtV, v_sk, v_brk, v_cnt, v_blk_eq, v_blkM_some, blkM_ite, v_lI, v_lR, v_cI, v_gI, v_gR, v_op1, v_op2, v_arI, v_arR, v_alen, v_tern, v_cmp1, v_cmp2, v_cAnd, v_cOr, v_cNot, v_cTern, v_bn_some, bn_ite, v_bn_none, v_outV_r, v_outV_0, v_outV_n, outV_ite, List.getD_cons_zero, List.getD_cons_succ, List.set_cons_zero, List.set_cons_succ, List.take_succ_cons, List.take_zero, List.drop_succ_cons, List.drop_zero, List.nil_append, List.cons_append, Option.map_some, Option.map_none, if_true, if_false, reduceIte, reduceCtorEq, decide_eq_true_eq, Bool.not_eq_true', decide_eq_false_iff_not, decide_eq_true, decide_eq_false, decide_true, decide_false, and_self, and_true, true_and, or_self, stO, v_caV_, v_caV_i, v_caV_ii, v_caV_iii, v_caV_iiii, v_caV_iiiii, v_caV_il, v_caV_iil, v_caV_l, v_caV_ll, v_caV_r, v_caV_ri, v_caV_rii, v_caV_riii, v_caV_riiii, v_caV_ir, v_caV_iri, v_caV_iiri, v_caS_i, v_caS_ii, v_caS_iii, v_caS_iiii, v_caS_iiiiii, v_caS_il, v_caS_li, v_caS_ll, v_caS_lll, v_caS_ri, v_caS_riii, sh_239, sh_240, sh_241, sh_242, sh_243, sh_244, sh_245, sh_246, sh_247, sh_248, sh_249, sh_250, sh_251, sh_252, sh_253, rf_239_4, rf_239_5, rf_239_6, rf_239_7, rf_239_20, rf_239_21, rf_239_22, rf_239_23, rf_239_27, rf_239_28, rf_239_32, rf_239_33, rf_239_34, rf_239_35, Int.reduceLE, Int.reduceLT, Int.reduceToNat, Int.reduceAdd, Int.reduceSub, Int.reduceMul, Int.reduceNeg, Int.reduceEq, Int.reduceNe, Nat.reduceAdd, Nat.reduceMul, Nat.reduceLT, Nat.reduceEqDiff, or_true, true_or, or_false, false_or, and_false, false_and, not_true_eq_false, not_false_eq_true, ne_eq, cN4, cN5, cN6, cN7, cN13, cN30, cN60, cN64, cN100, cN136, cN240, cN384, cN900, cN2040, cN3, v_sw_eq, v_swM_0, v_swM_1, v_swM_r, v_swM_n, swM_ite, app_ite, ex_some, bI_0, bI_1, nn_iff, Int.toNat_natCast, Int.toNat_of_nonneg, Int.natCast_add, cN1, wI_id2, wL_id2, if_pos, if_neg]
    refine Wd_mono (k_slotOf hs P2 a1 ls.1 (S_y hs) hp2) (fun r σ3 hr => ?_)
    obtain ⟨q, hr, sf, st, sq1, sq2⟩ := hr
    subst hr
    have P3 : PkS σ3 (s + 1) d w := PkS_c a1.1 (fun k hk => by rw [sf _ (by omega)]) (fun x h1 h2 => sf _ (by omega)) P2
    have L3 : LkS s d σ3 := by
      refine ⟨st, ?_, ?_, fun k hk => ?_⟩
      · rw [sf _ (by omega), sf _ (by omega)]; exact ls.2.1
      · rw [sf _ (by omega)]; exact ls.2.2.1
      · rw [sf _ (by omega)]; exact ls.2.2.2 k hk
    have R3 : SlR s d (playP d) q σ3 := by
      refine ⟨sq1, fun b hb => ?_⟩
      have := sq2 b hb
      rw [cellsB_p ep, gainB_p ep] at this
      exact this
    simp (disch := omega) only [S_s hs, S_r0 hs, S_r1 hs, S_r2 hs, S_q hs, S_q0 hs, S_q1 hs, S_q2 hs, S_q3 hs, S_q4 hs, S_l hs, S_k hs, S_w hs, S_n hs, S_y hs, S_rl hs, S_sl hs, P_a (S_P hs), P_1 (S_P hs), P_2 (S_P hs), P_3 (S_P hs), P_4 (S_P hs), P_5 (S_P hs), P_6 (S_P hs), P_7 (S_P hs), P_8 (S_P hs), P_9 (S_P hs), P_10 (S_P hs), P_t (S_P hs), P_b (S_P hs), P_g (S_P hs), P_r8 (S_P hs), P_r10 (S_P hs), P_r12 (S_P hs), P_r13 (S_P hs), P_e2 (S_P hs), P_e3 (S_P hs), P_e4 (S_P hs), P_e5 (S_P hs), P_e6 (S_P hs), P_e7 (S_P hs), P_rt (S_P hs), P_rb (S_P hs), P_rg (S_P hs), Wd_some, Wd_bn, Wd_sqM, Wd_outV, Wd_blkM, Wd_swM, Wd_ite, Wd_map, v_kS_0, v_kS_b, v_kS_r, v_kO_r, v_kW_0, v_kW_1, v_kW_2, v_kW_r, v_kL_0, v_kL_1, v_kL_2, v_kL_r, v_kU_0, ups_11, upsN, upsA, upA_same, upA_neA, fl_at, fl_neA, v_sq_eq, v_sqM_0, v_sqM_r, v_sqM_b, v_sqM_n, sqM_ite, v_asI, v_asR, v_inc, v_pfI, v_pfZ, v_pfO, v_paI, v_paO, v_exI, v_iff, v_rtI, v_rtZ, v_rtV, v_sk, v_brk, v_cnt, v_blk_eq, v_blkM_some, blkM_ite, v_lI, v_lR, v_cI, v_gI, v_gR, v_op1, v_op2, v_arI, v_arR, v_alen, v_tern, v_cmp1, v_cmp2, v_cAnd, v_cOr, v_cNot, v_cTern, v_bn_some, bn_ite, v_bn_none, v_outV_r, v_outV_0, v_outV_n, outV_ite, List.getD_cons_zero, List.getD_cons_succ, List.set_cons_zero, List.set_cons_succ, List.take_succ_cons, List.take_zero, List.drop_succ_cons, List.drop_zero, List.nil_append, List.cons_append, Option.map_some, Option.map_none, if_true, if_false, reduceIte, reduceCtorEq, decide_eq_true_eq, Bool.not_eq_true', decide_eq_false_iff_not, decide_eq_true, decide_eq_false, decide_true, decide_false, and_self, and_true, true_and, or_self, stO, v_caV_, v_caV_i, v_caV_ii, v_caV_iii, v_caV_iiii, v_caV_iiiii, v_caV_il, v_caV_iil, v_caV_l, v_caV_ll, v_caV_r, v_caV_ri, v_caV_rii, v_caV_riii, v_caV_riiii, v_caV_ir, v_caV_iri, v_caV_iiri, v_caS_i, v_caS_ii, v_caS_iii, v_caS_iiii, v_caS_iiiiii, v_caS_il, v_caS_li, v_caS_ll, v_caS_lll, v_caS_ri, v_caS_riii, sh_239, sh_240, sh_241, sh_242, sh_243, sh_244, sh_245, sh_246, sh_247, sh_248, sh_249, sh_250, sh_251, sh_252, sh_253, rf_239_4, rf_239_5, rf_239_6, rf_239_7, rf_239_20, rf_239_21, rf_239_22, rf_239_23, rf_239_27, rf_239_28, rf_239_32, rf_239_33, rf_239_34, rf_239_35, Int.reduceLE, Int.reduceLT, Int.reduceToNat, Int.reduceAdd, Int.reduceSub, Int.reduceMul, Int.reduceNeg, Int.reduceEq, Int.reduceNe, Nat.reduceAdd, Nat.reduceMul, Nat.reduceLT, Nat.reduceEqDiff, or_true, true_or, or_false, false_or, and_false, false_and, not_true_eq_false, not_false_eq_true, ne_eq, cN4, cN5, cN6, cN7, cN13, cN30, cN60, cN64, cN100, cN136, cN240, cN384, cN900, cN2040, cN3, v_sw_eq, v_swM_0, v_swM_1, v_swM_r, v_swM_n, swM_ite, app_ite, ex_some, bI_0, bI_1, nn_iff, Int.toNat_natCast, Int.toNat_of_nonneg, Int.natCast_add, cN1, wI_id2, wL_id2, if_pos, if_neg]
    refine Wd_mono (kl_pass1 hs P3 a1 L3 R3 n h (gotN c h) (by omega)) (fun o z hz => ?_)
    obtain ⟨ho, σ4, hz, g1, g2⟩ := hz
    subst ho; subst hz
    have t4 : σ4 s 4 = tirB d (bn3 d) := by rw [g1 _ (by omega)]; exact L3.2.2.1
    have tt := tirB_64 d (bn3 d) (by omega)
    have sz := sizN_bd (tirB d (bn3 d))
    have hr5 : σ4 (s + 1) 5 = d 7 := by
      rw [g1 _ (by omega)]
      exact P3.1.2.2.2.2.2.1
    have hss : ∀ k, k ≠ 4 → k ≠ 8 → σ4 s k = σ s k := fun k h1 h2 => by
      rw [g1 _ (by omega), sf _ (by omega), lf.2 k h1]
      exact f3.2.2.1 k h1 h2
    have h8 : σ4 s 8 = σ1 s 8 := by rw [g1 _ (by omega), sf _ (by omega), lf.2 8 (by omega)]
    have e14 : σ4 (s + 1) 14 = σ (s + 1) 14 := by
      rw [g1 _ (by omega), sf _ (by omega), lf.1 _ (by omega)]
      exact f3.2.2.2
    have e5 : σ4 (s + 30) 5 = σ4 (s + 1) 14 := by
      rw [g1 _ (by omega), g1 _ (by omega)]
      exact L3.2.1
    have fin : ∀ v8 v7 : Int, v7 = d 7 + 1 → (0 ≤ σ s 8 ∧ σ s 8 ≤ 1000000 → v8 = σ s 8 + tiN c (h + 1)) → PhO s c w V n σ (h + 1) ([0, (n : Int), gotN c h + sumN (fun b => gainB d (playP d) b (nC d)) (bn3 d), (h : Int) + 1, 0, 0, 0, 0], [s, 0, 0, 0, 0, 0, 0, 0], ups (ups σ4 s 8 v8) (s + 1) 5 v7) := by
      intro v8 v7 hv7 hv8
      subst hv7
      have Wd1 : WH (hpB d (playP d) (bn3 d)) := by
        unfold WH
        rw [hpB_o (by omega) (by omega), hpB_o (by omega) (by omega), hpB_o (by omega) (by omega), hpB_o (by omega) (by omega), hpB_o (by omega) (by omega), hpB_o (by omega) (by omega), hpB_o (by omega) (by omega), hpB_o (by omega) (by omega), hpB_o (by omega) (by omega), hpB_o (by omega) (by omega)]
        exact a1.1
      refine ⟨_, by rw [eg1]; rfl, ?_, ?_, ⟨fun a ha => ?_, fun a h1 h2 => ?_, fun k h1 h2 => ?_, ?_⟩, fun hx => ?_⟩
      · rw [eh1]
        have U := PkS_upH Wd1 (PkS_c (σ' := ups σ4 s 8 v8) Wd1 (fun k hk => by simp (disch := omega) only [ups_11, upsN, upsA, upA_same, upA_neA, fl_at, fl_neA]) (fun x h1 h2 => by simp (disch := omega) only [ups_11, upsN, upsA, upA_same, upA_neA, fl_at, fl_neA]) g2) (f := 5) (by omega) (d 7 + 1)
        exact U
      · rw [eh1]
        obtain ⟨b1, b2, b3⟩ := WB_hour a1 a2 (by omega)
        refine ⟨?_, fun _ => ?_⟩
        · simp (disch := omega) only [ups_11, upsN, upsA, upA_same, upA_neA, fl_at, fl_neA]
          rw [e5, e14]
          have k0 := f2.1
          rw [f3.2.2.2] at k0
          omega
        · refine StT_e a1.1 b3 (StT_c a1.1 (fun a h1 h2 => ?_) st)
          simp (disch := omega) only [ups_11, upsN, upsA, upA_same, upA_neA, fl_at, fl_neA]
          exact g1 a (by omega)
      · simp (disch := omega) only [ups_11, upsN, upsA, upA_same, upA_neA, fl_at, fl_neA]
        rw [g1 a (by omega), sf a (by omega), lf.1 a (by omega)]
        exact f3.1 a ha
      · simp (disch := omega) only [ups_11, upsN, upsA, upA_same, upA_neA, fl_at, fl_neA]
        rw [g1 a (by omega), sf a (by omega), lf.1 a (by omega)]
        exact f3.2.1 a h1 h2
      · simp (disch := omega) only [ups_11, upsN, upsA, upA_same, upA_neA, fl_at, fl_neA]
        exact hss k h1 h2
      · simp (disch := omega) only [ups_11, upsN, upsA, upA_same, upA_neA, fl_at, fl_neA]
        exact e14
      · simp (disch := omega) only [ups_11, upsN, upsA, upA_same, upA_neA, fl_at, fl_neA]
        exact hv8 hx
    simp (disch := omega) only [S_s hs, S_r0 hs, S_r1 hs, S_r2 hs, S_q hs, S_q0 hs, S_q1 hs, S_q2 hs, S_q3 hs, S_q4 hs, S_l hs, S_k hs, S_w hs, S_n hs, S_y hs, S_rl hs, S_sl hs, P_a (S_P hs), P_1 (S_P hs), P_2 (S_P hs), P_3 (S_P hs), P_4 (S_P hs), P_5 (S_P hs), P_6 (S_P hs), P_7 (S_P hs), P_8 (S_P hs), P_9 (S_P hs), P_10 (S_P hs), P_t (S_P hs), P_b (S_P hs), P_g (S_P hs), P_r8 (S_P hs), P_r10 (S_P hs), P_r12 (S_P hs), P_r13 (S_P hs), P_e2 (S_P hs), P_e3 (S_P hs), P_e4 (S_P hs), P_e5 (S_P hs), P_e6 (S_P hs), P_e7 (S_P hs), P_rt (S_P hs), P_rb (S_P hs), P_rg (S_P hs), k_bitCount (show 0 ≤ σ4 s 4 ∧ σ4 s 4 < 64 by rw [t4]; exact tt) σ4, t4, hr5, Wd_some, Wd_bn, Wd_sqM, Wd_outV, Wd_blkM, Wd_swM, Wd_ite, Wd_map, v_kS_0, v_kS_b, v_kS_r, v_kO_r, v_kW_0, v_kW_1, v_kW_2, v_kW_r, v_kL_0, v_kL_1, v_kL_2, v_kL_r, v_kU_0, ups_11, upsN, upsA, upA_same, upA_neA, fl_at, fl_neA, v_sq_eq, v_sqM_0, v_sqM_r, v_sqM_b, v_sqM_n, sqM_ite, v_asI, v_asR, v_inc, v_pfI, v_pfZ, v_pfO, v_paI, v_paO, v_exI, v_iff, v_rtI, v_rtZ, v_rtV, v_sk, v_brk, v_cnt, v_blk_eq, v_blkM_some, blkM_ite, v_lI, v_lR, v_cI, v_gI, v_gR, v_op1, v_op2, v_arI, v_arR, v_alen, v_tern, v_cmp1, v_cmp2, v_cAnd, v_cOr, v_cNot, v_cTern, v_bn_some, bn_ite, v_bn_none, v_outV_r, v_outV_0, v_outV_n, outV_ite, List.getD_cons_zero, List.getD_cons_succ, List.set_cons_zero, List.set_cons_succ, List.take_succ_cons, List.take_zero, List.drop_succ_cons, List.drop_zero, List.nil_append, List.cons_append, Option.map_some, Option.map_none, if_true, if_false, reduceIte, reduceCtorEq, decide_eq_true_eq, Bool.not_eq_true', decide_eq_false_iff_not, decide_eq_true, decide_eq_false, decide_true, decide_false, and_self, and_true, true_and, or_self, stO, v_caV_, v_caV_i, v_caV_ii, v_caV_iii, v_caV_iiii, v_caV_iiiii, v_caV_il, v_caV_iil, v_caV_l, v_caV_ll, v_caV_r, v_caV_ri, v_caV_rii, v_caV_riii, v_caV_riiii, v_caV_ir, v_caV_iri, v_caV_iiri, v_caS_i, v_caS_ii, v_caS_iii, v_caS_iiii, v_caS_iiiiii, v_caS_il, v_caS_li, v_caS_ll, v_caS_lll, v_caS_ri, v_caS_riii, sh_239, sh_240, sh_241, sh_242, sh_243, sh_244, sh_245, sh_246, sh_247, sh_248, sh_249, sh_250, sh_251, sh_252, sh_253, rf_239_4, rf_239_5, rf_239_6, rf_239_7, rf_239_20, rf_239_21, rf_239_22, rf_239_23, rf_239_27, rf_239_28, rf_239_32, rf_239_33, rf_239_34, rf_239_35, Int.reduceLE, Int.reduceLT, Int.reduceToNat, Int.reduceAdd, Int.reduceSub, Int.reduceMul, Int.reduceNeg, Int.reduceEq, Int.reduceNe, Nat.reduceAdd, Nat.reduceMul, Nat.reduceLT, Nat.reduceEqDiff, or_true, true_or, or_false, false_or, and_false, false_and, not_true_eq_false, not_false_eq_true, ne_eq, cN4, cN5, cN6, cN7, cN13, cN30, cN60, cN64, cN100, cN136, cN240, cN384, cN900, cN2040, cN3, v_sw_eq, v_swM_0, v_swM_1, v_swM_r, v_swM_n, swM_ite, app_ite, ex_some, bI_0, bI_1, nn_iff, Int.toNat_natCast, Int.toNat_of_nonneg, Int.natCast_add, cN1, if_pos, if_neg]
    refine fin _ _ (wI_id2 (by omega)) (fun hx => ?_)
    have := f4 hx
    rw [wI_id2 (by omega), h8, et1]
    omega
  · intro z hz
    obtain ⟨σ1, hz, f1, f2, f3, f4⟩ := hz
    subst hz
    simp (disch := omega) only [C_X7_passHours_0, D_X7_passHours_0, U_X7_passHours_0, S_s hs, S_r0 hs, S_r1 hs, S_r2 hs, S_q hs, S_q0 hs, S_q1 hs, S_q2 hs, S_q3 hs, S_q4 hs, S_l hs, S_k hs, S_w hs, S_n hs, S_y hs, S_rl hs, S_sl hs, P_a (S_P hs), P_1 (S_P hs), P_2 (S_P hs), P_3 (S_P hs), P_4 (S_P hs), P_5 (S_P hs), P_6 (S_P hs), P_7 (S_P hs), P_8 (S_P hs), P_9 (S_P hs), P_10 (S_P hs), P_t (S_P hs), P_b (S_P hs), P_g (S_P hs), P_r8 (S_P hs), P_r10 (S_P hs), P_r12 (S_P hs), P_r13 (S_P hs), P_e2 (S_P hs), P_e3 (S_P hs), P_e4 (S_P hs), P_e5 (S_P hs), P_e6 (S_P hs), P_e7 (S_P hs), P_rt (S_P hs), P_rb (S_P hs), P_rg (S_P hs), Wd_some, Wd_bn, Wd_sqM, Wd_outV, Wd_blkM, Wd_swM, Wd_ite, Wd_map, v_kS_0, v_kS_b, v_kS_r, v_kO_r, v_kW_0, v_kW_1, v_kW_2, v_kW_r, v_kL_0, v_kL_1, v_kL_2, v_kL_r, v_kU_0, ups_11, upsN, upsA, upA_same, upA_neA, fl_at, fl_neA, v_sq_eq, v_sqM_0, v_sqM_r, v_sqM_b, v_sqM_n, sqM_ite, v_asI, v_asR, v_inc, v_pfI, v_pfZ, v_pfO, v_paI, v_paO, v_exI, v_iff, v_rtI, v_rtZ, v_rtV, v_sk, v_brk, v_cnt, v_blk_eq, v_blkM_some, blkM_ite, v_lI, v_lR, v_cI, v_gI, v_gR, v_op1, v_op2, v_arI, v_arR, v_alen, v_tern, v_cmp1, v_cmp2, v_cAnd, v_cOr, v_cNot, v_cTern, v_bn_some, bn_ite, v_bn_none, v_outV_r, v_outV_0, v_outV_n, outV_ite, List.getD_cons_zero, List.getD_cons_succ, List.set_cons_zero, List.set_cons_succ, List.take_succ_cons, List.take_zero, List.drop_succ_cons, List.drop_zero, List.nil_append, List.cons_append, Option.map_some, Option.map_none, if_true, if_false, reduceIte, reduceCtorEq, decide_eq_true_eq, Bool.not_eq_true', decide_eq_false_iff_not, decide_eq_true, decide_eq_false, decide_true, decide_false, and_self, and_true, true_and, or_self, stO, v_caV_, v_caV_i, v_caV_ii, v_caV_iii, v_caV_iiii, v_caV_iiiii, v_caV_il, v_caV_iil, v_caV_l, v_caV_ll, v_caV_r, v_caV_ri, v_caV_rii, v_caV_riii, v_caV_riiii, v_caV_ir, v_caV_iri, v_caV_iiri, v_caS_i, v_caS_ii, v_caS_iii, v_caS_iiii, v_caS_iiiiii, v_caS_il, v_caS_li, v_caS_ll, v_caS_lll, v_caS_ri, v_caS_riii, sh_239, sh_240, sh_241, sh_242, sh_243, sh_244, sh_245, sh_246, sh_247, sh_248, sh_249, sh_250, sh_251, sh_252, sh_253, rf_239_4, rf_239_5, rf_239_6, rf_239_7, rf_239_20, rf_239_21, rf_239_22, rf_239_23, rf_239_27, rf_239_28, rf_239_32, rf_239_33, rf_239_34, rf_239_35, Int.reduceLE, Int.reduceLT, Int.reduceToNat, Int.reduceAdd, Int.reduceSub, Int.reduceMul, Int.reduceNeg, Int.reduceEq, Int.reduceNe, Nat.reduceAdd, Nat.reduceMul, Nat.reduceLT, Nat.reduceEqDiff, or_true, true_or, or_false, false_or, and_false, false_and, not_true_eq_false, not_false_eq_true, ne_eq, cN4, cN5, cN6, cN7, cN13, cN30, cN60, cN64, cN100, cN136, cN240, cN384, cN900, cN2040, cN3, v_sw_eq, v_swM_0, v_swM_1, v_swM_r, v_swM_n, swM_ite, app_ite, ex_some, bI_0, bI_1, nn_iff, Int.toNat_natCast, Int.toNat_of_nonneg, Int.natCast_add, cN1, wI_id2, wL_id2, if_pos, if_neg]
    exact ⟨σ1, rfl, f1, f2, f3, f4⟩
theorem k_passHours (hs : isS s) (P : PkS σ (s + 1) c w) (hw : WB c) (hq : WQ c) {V : Int} (K : StK s c V σ) {n : Nat} (hn : n ≤ 200) (h7 : c 7 + n ≤ 12000) : Wd (F_X7_passHours s n σ) (fun r σ' => r = gotN c n ∧ PkS σ' (s + 1) (hrN c n) w ∧ StK s (hrN c n) V σ' ∧ PhF s σ σ' ∧ (0 ≤ σ s 8 ∧ σ s 8 ≤ 1000000 → σ' s 8 = σ s 8 + tiN c n)) := by
  simp (disch := omega) only [F_X7_passHours, E_X7_passHours, Wd_some, Wd_bn, Wd_sqM, Wd_outV, Wd_blkM, Wd_swM, Wd_ite, Wd_map, v_kS_0, v_kS_b, v_kS_r, v_kO_r, v_kW_0, v_kW_1, v_kW_2, v_kW_r, v_kL_0, v_kL_1, v_kL_2, v_kL_r, v_kU_0, ups_11, upsN, upsA, upA_same, upA_neA, fl_at, fl_neA, v_sq_eq, v_sqM_0, v_sqM_r, v_sqM_b, v_sqM_n, sqM_ite, v_asI, v_asR, v_inc, v_pfI, v_pfZ, v_pfO, v_paI, v_paO, v_exI, v_iff, v_rtI, v_rtZ, v_rtV, v_sk, v_brk, v_cnt, v_blk_eq, v_blkM_some, blkM_ite, v_lI, v_lR, v_cI, v_gI, v_gR, v_op1, v_op2, v_arI, v_arR, v_alen, v_tern, v_cmp1, v_cmp2, v_cAnd, v_cOr, v_cNot, v_cTern, v_bn_some, bn_ite, v_bn_none, v_outV_r, v_outV_0, v_outV_n, outV_ite, List.getD_cons_zero, List.getD_cons_succ, List.set_cons_zero, List.set_cons_succ, List.take_succ_cons, List.take_zero, List.drop_succ_cons, List.drop_zero, List.nil_append, List.cons_append, Option.map_some, Option.map_none, if_true, if_false, reduceIte, reduceCtorEq, decide_eq_true_eq, Bool.not_eq_true', decide_eq_false_iff_not, decide_eq_true, decide_eq_false, decide_true, decide_false, and_self, and_true, true_and, or_self, stO, v_caV_, v_caV_i, v_caV_ii, v_caV_iii, v_caV_iiii, v_caV_iiiii, v_caV_il, v_caV_iil, v_caV_l, v_caV_ll, v_caV_r, v_caV_ri, v_caV_rii, v_caV_riii, v_caV_riiii, v_caV_ir, v_caV_iri, v_caV_iiri, v_caS_i, v_caS_ii, v_caS_iii, v_caS_iiii, v_caS_iiiiii, v_caS_il, v_caS_li, v_caS_ll, v_caS_lll, v_caS_ri, v_caS_riii, sh_239, sh_240, sh_241, sh_242, sh_243, sh_244, sh_245, sh_246, sh_247, sh_248, sh_249, sh_250, sh_251, sh_252, sh_253, rf_239_4, rf_239_5, rf_239_6, rf_239_7, rf_239_20, rf_239_21, rf_239_22, rf_239_23, rf_239_27, rf_239_28, rf_239_32, rf_239_33, rf_239_34, rf_239_35, Int.reduceLE, Int.reduceLT, Int.reduceToNat, Int.reduceAdd, Int.reduceSub, Int.reduceMul, Int.reduceNeg, Int.reduceEq, Int.reduceNe, Nat.reduceAdd, Nat.reduceMul, Nat.reduceLT, Nat.reduceEqDiff, or_true, true_or, or_false, false_or, and_false, false_and, not_true_eq_false, not_false_eq_true, ne_eq, cN4, cN5, cN6, cN7, cN13, cN30, cN60, cN64, cN100, cN136, cN240, cN384, cN900, cN2040, cN3, v_sw_eq, v_swM_0, v_swM_1, v_swM_r, v_swM_n, swM_ite, app_ite, ex_some, bI_0, bI_1, nn_iff, Int.toNat_natCast, Int.toNat_of_nonneg, Int.natCast_add, cN1, wI_id2, wL_id2, if_pos, if_neg]
  refine Wd_mono (kl_pass0 hs P hw hq K hn h7) (fun o z hz => ?_)
  obtain ⟨ho, σ1, hz, f1, f2, f3, f4⟩ := hz
  subst ho; subst hz
  simp (disch := omega) only [Wd_some, Wd_bn, Wd_sqM, Wd_outV, Wd_blkM, Wd_swM, Wd_ite, Wd_map, v_kS_0, v_kS_b, v_kS_r, v_kO_r, v_kW_0, v_kW_1, v_kW_2, v_kW_r, v_kL_0, v_kL_1, v_kL_2, v_kL_r, v_kU_0, ups_11, upsN, upsA, upA_same, upA_neA, fl_at, fl_neA, v_sq_eq, v_sqM_0, v_sqM_r, v_sqM_b, v_sqM_n, sqM_ite, v_asI, v_asR, v_inc, v_pfI, v_pfZ, v_pfO, v_paI, v_paO, v_exI, v_iff, v_rtI, v_rtZ, v_rtV, v_sk, v_brk, v_cnt, v_blk_eq, v_blkM_some, blkM_ite, v_lI, v_lR, v_cI, v_gI, v_gR, v_op1, v_op2, v_arI, v_arR, v_alen, v_tern, v_cmp1, v_cmp2, v_cAnd, v_cOr, v_cNot, v_cTern, v_bn_some, bn_ite, v_bn_none, v_outV_r, v_outV_0, v_outV_n, outV_ite, List.getD_cons_zero, List.getD_cons_succ, List.set_cons_zero, List.set_cons_succ, List.take_succ_cons, List.take_zero, List.drop_succ_cons, List.drop_zero, List.nil_append, List.cons_append, Option.map_some, Option.map_none, if_true, if_false, reduceIte, reduceCtorEq, decide_eq_true_eq, Bool.not_eq_true', decide_eq_false_iff_not, decide_eq_true, decide_eq_false, decide_true, decide_false, and_self, and_true, true_and, or_self, stO, v_caV_, v_caV_i, v_caV_ii, v_caV_iii, v_caV_iiii, v_caV_iiiii, v_caV_il, v_caV_iil, v_caV_l, v_caV_ll, v_caV_r, v_caV_ri, v_caV_rii, v_caV_riii, v_caV_riiii, v_caV_ir, v_caV_iri, v_caV_iiri, v_caS_i, v_caS_ii, v_caS_iii, v_caS_iiii, v_caS_iiiiii, v_caS_il, v_caS_li, v_caS_ll, v_caS_lll, v_caS_ri, v_caS_riii, sh_239, sh_240, sh_241, sh_242, sh_243, sh_244, sh_245, sh_246, sh_247, sh_248, sh_249, sh_250, sh_251, sh_252, sh_253, rf_239_4, rf_239_5, rf_239_6, rf_239_7, rf_239_20, rf_239_21, rf_239_22, rf_239_23, rf_239_27, rf_239_28, rf_239_32, rf_239_33, rf_239_34, rf_239_35, Int.reduceLE, Int.reduceLT, Int.reduceToNat, Int.reduceAdd, Int.reduceSub, Int.reduceMul, Int.reduceNeg, Int.reduceEq, Int.reduceNe, Nat.reduceAdd, Nat.reduceMul, Nat.reduceLT, Nat.reduceEqDiff, or_true, true_or, or_false, false_or, and_false, false_and, not_true_eq_false, not_false_eq_true, ne_eq, cN4, cN5, cN6, cN7, cN13, cN30, cN60, cN64, cN100, cN136, cN240, cN384, cN900, cN2040, cN3, v_sw_eq, v_swM_0, v_swM_1, v_swM_r, v_swM_n, swM_ite, app_ite, ex_some, bI_0, bI_1, nn_iff, Int.toNat_natCast, Int.toNat_of_nonneg, Int.natCast_add, cN1, wI_id2, wL_id2, if_pos, if_neg]
  exact ⟨f1, f2, f3, f4⟩
end KP
/-! the reference: an hour -/
section MH
variable {σ : SS}
def ptS (c : Nat → Int) (n : Nat) : Nat → Int := fun k => if 58 ≤ k ∧ k < 58 + bn3 c then c k + gainB c (playP c) ((k : Int) - 58) n else c k
def totF (c : Nat → Int) : Int → Int → Int := fun x y => if 0 ≤ holdB c (playP c) x y then (if pondB c x y = 1 then 3 else 1) else 0
theorem ptS_o {c : Nat → Int} (hw : WH c) {n k : Nat} (h : ¬ (58 ≤ k ∧ k < 64)) : ptS c n k = c k := by
  have := bn3_c hw
  unfold ptS
  rw [if_neg (by omega)]
theorem ptS_p {c : Nat → Int} (hw : WH c) {n : Nat} {b : Int} (b0 : 0 ≤ b) (b1 : b < c 3) : ptS c n (58 + b).toNat = c (58 + b).toNat + gainB c (playP c) b n := by
  have := bn3_c hw
  unfold ptS
  rw [if_pos (by omega)]
  congr 2
  omega
theorem ptS_0 (c : Nat → Int) : ptS c 0 = c := by
  funext k
  unfold ptS
  split
  · show c k + 0 = c k
    omega
  · rfl
theorem ptS_WB {c : Nat → Int} (hw : WB c) (hq : WQ c) {n : Nat} (hn : n ≤ 30) : WB (ptS c n) ∧ sndE c (ptS c n) := by
  have hH := hw.1
  refine ⟨WB_hp hw (fun k h1 h2 => ptS_o hw.1 h2) (fun b b0 b1 => ?_), fun k h1 h2 => ptS_o hw.1 (by omega)⟩
  have d1 := (hw.2.2.1 b b0 b1).1
  have q := hq b b0 b1
  have g := gainF_bd c (playP c) b n
  rw [ptS_p hw.1 b0 b1, ptS_o hw.1 (by omega)]
  omega
theorem ptS_s {c : Nat → Int} (hw : WH c) (n : Nat) : ptS c (n + 1) = if 0 ≤ holdB c (playP c) ((n : Int) % c 0) ((n : Int) / c 0) then upc (ptS c n) (58 + holdB c (playP c) ((n : Int) % c 0) ((n : Int) / c 0)).toNat (ptS c n (58 + holdB c (playP c) ((n : Int) % c 0) ((n : Int) / c 0)).toNat + totF c ((n : Int) % c 0) ((n : Int) / c 0)) else ptS c n := by
  have hn := bn3_c hw
  have r := holdB_rng hw (playP c) ((n : Int) % c 0) ((n : Int) / c 0)
  unfold totF
  generalize hh : holdB c (playP c) ((n : Int) % c 0) ((n : Int) / c 0) = wh at r
  by_cases g : 0 ≤ wh
  · rw [if_pos g, if_pos g]
    funext k
    by_cases e : k = (58 + wh).toNat
    · subst e
      rw [upc_same]
      unfold ptS
      rw [if_pos (by omega), if_pos (by omega), gainB_s, hh, if_pos (by omega)]
      omega
    · rw [upc_ne e]
      unfold ptS
      by_cases e2 : 58 ≤ k ∧ k < 58 + bn3 c
      · rw [if_pos e2, if_pos e2, gainB_s, hh, if_neg (by omega), Int.add_zero]
      · rw [if_neg e2, if_neg e2]
  · rw [if_neg g]
    funext k
    unfold ptS
    by_cases e2 : 58 ≤ k ∧ k < 58 + bn3 c
    · rw [if_pos e2, if_pos e2, gainB_s, hh, if_neg (by omega), Int.add_zero]
    · rw [if_neg e2, if_neg e2]
theorem upA_ups {σ : SS} {a k : Nat} {f : Nat → Int} {v : Int} : ups (upA σ a f) a k v = upA σ a (upc f k v) := by
  funext x y
  unfold ups upA upc
  by_cases hx : x = a
  · subst hx
    by_cases hy : y = k <;> simp [hy]
  · simp [hx]
theorem upA_comm {σ : SS} {a b : Nat} {f g : Nat → Int} (h : a ≠ b) : upA (upA σ a f) b g = upA (upA σ b g) a f := by
  funext x
  unfold upA
  by_cases hx : x = a
  · subst hx
    rw [if_neg h, if_pos rfl, if_pos rfl]
  · rw [if_neg hx]
    by_cases hy : x = b
    · rw [if_pos hy, if_pos hy]
    · rw [if_neg hy, if_neg hy, if_neg hx]
/-- at column x of row y -/
def GIn (σ : SS) (c : Nat → Int) (y x : Nat) (z : ZZ) : Prop := ∃ f, z = ([0, sumC c (totF c) (y * (c 0).toNat + x), (y : Int), (x : Int), 0, 0], [239, 0, 0, 0, 0, 0], upA (upA σ 249 f) 244 (ptS c (y * (c 0).toNat + x)))
theorem ml_goes1 {c : Nat → Int} (hw : WB c) (hq : WQ c) (hp : ∀ k : Nat, k < bn3 c → σ 248 k = playP c k) {y : Nat} (hy : (y : Int) < c 1) {z0 : ZZ} (hz0 : GIn σ c y 0 z0) : Wd (L_X12_goesHour_1 z0) (fun o z => o = .inl 0 ∧ GIn σ c y (c 0).toNat z) := by
  have hH := hw.1
  have hn := bn3_c hw.1
  unfold L_X12_goesHour_1
  refine Wd_it (GIn σ c y) (c 0).toNat hz0 ?_ ?_
  · intro i z hi hz
    obtain ⟨f, hz⟩ := hz
    subst hz
    have b2 := yx_bd hw.1 hy (x := i) (by omega)
    obtain ⟨W1, S1⟩ := ptS_WB hw hq b2
    have e48 : upA (upA σ 249 f) 244 (ptS c (y * (c 0).toNat + i)) 248 = σ 248 := by simp (disch := omega) only [ups_11, upsN, upsA, upA_same, upA_neA, fl_at, fl_neA]
    have e44 : upA (upA σ 249 f) 244 (ptS c (y * (c 0).toNat + i)) 244 = ptS c (y * (c 0).toNat + i) := by simp (disch := omega) only [ups_11, upsN, upsA, upA_same, upA_neA, fl_at, fl_neA]
    have hp1 : plO c (σ 248) := fun k hk => by
      rw [hp k (by omega)]
      exact plO_P hw.2.2.1 k hk
    have q := @m_holds (upA (upA σ 249 f) 244 (ptS c (y * (c 0).toNat + i))) (by rw [e44]; exact W1.1) (by rw [e44]; exact W1.2.1) (by rw [e44]; exact W1.2.2.1) (by rw [e44, e48]; exact plO_e2 S1 hp1) i y (by omega) (by omega)
    rw [e44, e48, holdB_e hw.1 S1 hp1, holdB_p hp] at q
    have pq := m_isPondAt (x := i) (y := y) (by omega) (by omega) (fl (upA (upA σ 249 f) 244 (ptS c (y * (c 0).toNat + i))) 249 (bn3 (ptS c (y * (c 0).toNat + i))) (noiB (ptS c (y * (c 0).toNat + i)) (σ 248) i y))
    have e44' : fl (upA (upA σ 249 f) 244 (ptS c (y * (c 0).toNat + i))) 249 (bn3 (ptS c (y * (c 0).toNat + i))) (noiB (ptS c (y * (c 0).toNat + i)) (σ 248) i y) 244 = ptS c (y * (c 0).toNat + i) := by simp (disch := omega) only [ups_11, upsN, upsA, upA_same, upA_neA, fl_at, fl_neA]
    rw [e44', pondB_e S1 (by omega) (by omega)] at pq
    have ep := ptS_s hw.1 (y * (c 0).toNat + i)
    have e : ((y * (c 0).toNat + i : Nat) : Int) = (y : Int) * c 0 + i := by
      rw [Int.natCast_add, Int.natCast_mul, Int.toNat_of_nonneg (by omega)]
    have ⟨q1, q2⟩ := cell_xy (W := c 0) (x := (i : Int)) (y := (y : Int)) (by omega) (by omega)
    rw [e, q1, q2] at ep
    have s1 := sumC_s (c := c) (f := totF c) (x := i) (y := y) (by omega)
    have b1 := sumC_bd (c := c) (f := totF c) (B := 3) (by omega) (fun x y => by unfold totF; split <;> (try split) <;> omega) (y * (c 0).toNat + i)
    have r := holdB_rng hw.1 (playP c) i y
    have et : totF c i y = if 0 ≤ holdB c (playP c) i y then (if pondB c i y = 1 then 3 else 1) else 0 := rfl
    have fst : ∀ g, fl (upA (upA σ 249 f) 244 (ptS c (y * (c 0).toNat + i))) 249 (bn3 (ptS c (y * (c 0).toNat + i))) g = upA (upA σ 249 (fun k => if k < bn3 (ptS c (y * (c 0).toNat + i)) then g k else f k)) 244 (ptS c (y * (c 0).toNat + i)) := by
      intro g
      unfold fl
      rw [upA_comm (by omega), upA_upA, upA_comm (by omega)]
      congr 2
      funext k
      rw [upA_ne (by omega), upA_same]
    rw [fst] at q pq
    generalize holdB c (playP c) i y = wh at q ep r et
    generalize (fun k => if k < bn3 (ptS c (y * (c 0).toNat + i)) then noiB (ptS c (y * (c 0).toNat + i)) (σ 248) i y k else f k) = f2 at q pq
    by_cases g : wh < 0
    · rw [if_neg (by omega)] at ep et
      simp (disch := omega) only [C_X12_goesHour_1, D_X12_goesHour_1, U_X12_goesHour_1, q, ptS_o hw.1, Wd_some, Wd_bn, Wd_sqM, Wd_outV, Wd_blkM, Wd_swM, Wd_ite, Wd_map, v_kS_0, v_kS_b, v_kS_r, v_kO_r, v_kW_0, v_kW_1, v_kW_2, v_kW_r, v_kL_0, v_kL_1, v_kL_2, v_kL_r, v_kU_0, ups_11, upsN, upsA, upA_same, upA_neA, fl_at, fl_neA, v_sq_eq, v_sqM_0, v_sqM_r, v_sqM_b, v_sqM_n, sqM_ite, v_asI, v_asR, v_inc, v_pfI, v_pfZ, v_pfO, v_paI, v_paO, v_exI, v_iff, v_rtI, v_rtZ, v_rtV, v_sk, v_brk, v_cnt, v_blk_eq, v_blkM_some, blkM_ite, v_lI, v_lR, v_cI, v_gI, v_gR, v_op1, v_op2, v_arI, v_arR, v_alen, v_tern, v_cmp1, v_cmp2, v_cAnd, v_cOr, v_cNot, v_cTern, v_bn_some, bn_ite, v_bn_none, v_outV_r, v_outV_0, v_outV_n, outV_ite, List.getD_cons_zero, List.getD_cons_succ, List.set_cons_zero, List.set_cons_succ, List.take_succ_cons, List.take_zero, List.drop_succ_cons, List.drop_zero, List.nil_append, List.cons_append, Option.map_some, Option.map_none, if_true, if_false, reduceIte, reduceCtorEq, decide_eq_true_eq, Bool.not_eq_true', decide_eq_false_iff_not, decide_eq_true, decide_eq_false, decide_true, decide_false, and_self, and_true, true_and, or_self, stO, v_caV_, v_caV_i, v_caV_ii, v_caV_iii, v_caV_iiii, v_caV_iiiii, v_caV_il, v_caV_iil, v_caV_l, v_caV_ll, v_caV_r, v_caV_ri, v_caV_rii, v_caV_riii, v_caV_riiii, v_caV_ir, v_caV_iri, v_caV_iiri, v_caS_i, v_caS_ii, v_caS_iii, v_caS_iiii, v_caS_iiiiii, v_caS_il, v_caS_li, v_caS_ll, v_caS_lll, v_caS_ri, v_caS_riii, sh_239, sh_240, sh_241, sh_242, sh_243, sh_244, sh_245, sh_246, sh_247, sh_248, sh_249, sh_250, sh_251, sh_252, sh_253, rf_239_4, rf_239_5, rf_239_6, rf_239_7, rf_239_20, rf_239_21, rf_239_22, rf_239_23, rf_239_27, rf_239_28, rf_239_32, rf_239_33, rf_239_34, rf_239_35, Int.reduceLE, Int.reduceLT, Int.reduceToNat, Int.reduceAdd, Int.reduceSub, Int.reduceMul, Int.reduceNeg, Int.reduceEq, Int.reduceNe, Nat.reduceAdd, Nat.reduceMul, Nat.reduceLT, Nat.reduceEqDiff, or_true, true_or, or_false, false_or, and_false, false_and, not_true_eq_false, not_false_eq_true, ne_eq, cN4, cN5, cN6, cN7, cN13, cN30, cN60, cN64, cN100, cN136, cN240, cN384, cN900, cN2040, cN3, v_sw_eq, v_swM_0, v_swM_1, v_swM_r, v_swM_n, swM_ite, app_ite, ex_some, bI_0, bI_1, nn_iff, Int.toNat_natCast, Int.toNat_of_nonneg, Int.natCast_add, cN1, wI_id2, wL_id2, if_pos, if_neg]
      refine ⟨f2, ?_⟩
      rw [← Nat.add_assoc, ep, Nat.add_assoc, s1, et, Int.add_zero]
      rfl
    · rw [if_pos (by omega)] at ep et
      have pv := ptS_p hw.1 (n := y * (c 0).toNat + i) (b := wh) (by omega) (by omega)
      have d1 := (hw.2.2.1 wh (by omega) (by omega)).1
      have qv := hq wh (by omega) (by omega)
      have gv := gainF_bd c (playP c) wh (y * (c 0).toNat + i)
      by_cases gp : pondB c i y = 1
      · rw [if_pos gp] at et
        rw [et, pv] at ep
        simp (disch := omega) only [C_X12_goesHour_1, D_X12_goesHour_1, U_X12_goesHour_1, q, pq, gp, ptS_o hw.1, pv, Wd_some, Wd_bn, Wd_sqM, Wd_outV, Wd_blkM, Wd_swM, Wd_ite, Wd_map, v_kS_0, v_kS_b, v_kS_r, v_kO_r, v_kW_0, v_kW_1, v_kW_2, v_kW_r, v_kL_0, v_kL_1, v_kL_2, v_kL_r, v_kU_0, ups_11, upsN, upsA, upA_same, upA_neA, fl_at, fl_neA, v_sq_eq, v_sqM_0, v_sqM_r, v_sqM_b, v_sqM_n, sqM_ite, v_asI, v_asR, v_inc, v_pfI, v_pfZ, v_pfO, v_paI, v_paO, v_exI, v_iff, v_rtI, v_rtZ, v_rtV, v_sk, v_brk, v_cnt, v_blk_eq, v_blkM_some, blkM_ite, v_lI, v_lR, v_cI, v_gI, v_gR, v_op1, v_op2, v_arI, v_arR, v_alen, v_tern, v_cmp1, v_cmp2, v_cAnd, v_cOr, v_cNot, v_cTern, v_bn_some, bn_ite, v_bn_none, v_outV_r, v_outV_0, v_outV_n, outV_ite, List.getD_cons_zero, List.getD_cons_succ, List.set_cons_zero, List.set_cons_succ, List.take_succ_cons, List.take_zero, List.drop_succ_cons, List.drop_zero, List.nil_append, List.cons_append, Option.map_some, Option.map_none, if_true, if_false, reduceIte, reduceCtorEq, decide_eq_true_eq, Bool.not_eq_true', decide_eq_false_iff_not, decide_eq_true, decide_eq_false, decide_true, decide_false, and_self, and_true, true_and, or_self, stO, v_caV_, v_caV_i, v_caV_ii, v_caV_iii, v_caV_iiii, v_caV_iiiii, v_caV_il, v_caV_iil, v_caV_l, v_caV_ll, v_caV_r, v_caV_ri, v_caV_rii, v_caV_riii, v_caV_riiii, v_caV_ir, v_caV_iri, v_caV_iiri, v_caS_i, v_caS_ii, v_caS_iii, v_caS_iiii, v_caS_iiiiii, v_caS_il, v_caS_li, v_caS_ll, v_caS_lll, v_caS_ri, v_caS_riii, sh_239, sh_240, sh_241, sh_242, sh_243, sh_244, sh_245, sh_246, sh_247, sh_248, sh_249, sh_250, sh_251, sh_252, sh_253, rf_239_4, rf_239_5, rf_239_6, rf_239_7, rf_239_20, rf_239_21, rf_239_22, rf_239_23, rf_239_27, rf_239_28, rf_239_32, rf_239_33, rf_239_34, rf_239_35, Int.reduceLE, Int.reduceLT, Int.reduceToNat, Int.reduceAdd, Int.reduceSub, Int.reduceMul, Int.reduceNeg, Int.reduceEq, Int.reduceNe, Nat.reduceAdd, Nat.reduceMul, Nat.reduceLT, Nat.reduceEqDiff, or_true, true_or, or_false, false_or, and_false, false_and, not_true_eq_false, not_false_eq_true, ne_eq, cN4, cN5, cN6, cN7, cN13, cN30, cN60, cN64, cN100, cN136, cN240, cN384, cN900, cN2040, cN3, v_sw_eq, v_swM_0, v_swM_1, v_swM_r, v_swM_n, swM_ite, app_ite, ex_some, bI_0, bI_1, nn_iff, Int.toNat_natCast, Int.toNat_of_nonneg, Int.natCast_add, cN1, wI_id2, wL_id2, if_pos, if_neg]
        refine ⟨f2, ?_⟩
        rw [← Nat.add_assoc, ep, Nat.add_assoc, s1, et, upA_ups]
        rfl
      · rw [if_neg gp] at et
        rw [et, pv] at ep
        simp (disch := omega) only [C_X12_goesHour_1, D_X12_goesHour_1, U_X12_goesHour_1, q, pq, gp, ptS_o hw.1, pv, Wd_some, Wd_bn, Wd_sqM, Wd_outV, Wd_blkM, Wd_swM, Wd_ite, Wd_map, v_kS_0, v_kS_b, v_kS_r, v_kO_r, v_kW_0, v_kW_1, v_kW_2, v_kW_r, v_kL_0, v_kL_1, v_kL_2, v_kL_r, v_kU_0, ups_11, upsN, upsA, upA_same, upA_neA, fl_at, fl_neA, v_sq_eq, v_sqM_0, v_sqM_r, v_sqM_b, v_sqM_n, sqM_ite, v_asI, v_asR, v_inc, v_pfI, v_pfZ, v_pfO, v_paI, v_paO, v_exI, v_iff, v_rtI, v_rtZ, v_rtV, v_sk, v_brk, v_cnt, v_blk_eq, v_blkM_some, blkM_ite, v_lI, v_lR, v_cI, v_gI, v_gR, v_op1, v_op2, v_arI, v_arR, v_alen, v_tern, v_cmp1, v_cmp2, v_cAnd, v_cOr, v_cNot, v_cTern, v_bn_some, bn_ite, v_bn_none, v_outV_r, v_outV_0, v_outV_n, outV_ite, List.getD_cons_zero, List.getD_cons_succ, List.set_cons_zero, List.set_cons_succ, List.take_succ_cons, List.take_zero, List.drop_succ_cons, List.drop_zero, List.nil_append, List.cons_append, Option.map_some, Option.map_none, if_true, if_false, reduceIte, reduceCtorEq, decide_eq_true_eq, Bool.not_eq_true', decide_eq_false_iff_not, decide_eq_true, decide_eq_false, decide_true, decide_false, and_self, and_true, true_and, or_self, stO, v_caV_, v_caV_i, v_caV_ii, v_caV_iii, v_caV_iiii, v_caV_iiiii, v_caV_il, v_caV_iil, v_caV_l, v_caV_ll, v_caV_r, v_caV_ri, v_caV_rii, v_caV_riii, v_caV_riiii, v_caV_ir, v_caV_iri, v_caV_iiri, v_caS_i, v_caS_ii, v_caS_iii, v_caS_iiii, v_caS_iiiiii, v_caS_il, v_caS_li, v_caS_ll, v_caS_lll, v_caS_ri, v_caS_riii, sh_239, sh_240, sh_241, sh_242, sh_243, sh_244, sh_245, sh_246, sh_247, sh_248, sh_249, sh_250, sh_251, sh_252, sh_253, rf_239_4, rf_239_5, rf_239_6, rf_239_7, rf_239_20, rf_239_21, rf_239_22, rf_239_23, rf_239_27, rf_239_28, rf_239_32, rf_239_33, rf_239_34, rf_239_35, Int.reduceLE, Int.reduceLT, Int.reduceToNat, Int.reduceAdd, Int.reduceSub, Int.reduceMul, Int.reduceNeg, Int.reduceEq, Int.reduceNe, Nat.reduceAdd, Nat.reduceMul, Nat.reduceLT, Nat.reduceEqDiff, or_true, true_or, or_false, false_or, and_false, false_and, not_true_eq_false, not_false_eq_true, ne_eq, cN4, cN5, cN6, cN7, cN13, cN30, cN60, cN64, cN100, cN136, cN240, cN384, cN900, cN2040, cN3, v_sw_eq, v_swM_0, v_swM_1, v_swM_r, v_swM_n, swM_ite, app_ite, ex_some, bI_0, bI_1, nn_iff, Int.toNat_natCast, Int.toNat_of_nonneg, Int.natCast_add, cN1, wI_id2, wL_id2, if_pos, if_neg]
        refine ⟨f2, ?_⟩
        rw [← Nat.add_assoc, ep, Nat.add_assoc, s1, et, upA_ups]
        rfl
  · intro z hz
    obtain ⟨f, hz⟩ := hz
    subst hz
    simp (disch := omega) only [C_X12_goesHour_1, D_X12_goesHour_1, U_X12_goesHour_1, ptS_o hw.1, Wd_some, Wd_bn, Wd_sqM, Wd_outV, Wd_blkM, Wd_swM, Wd_ite, Wd_map, v_kS_0, v_kS_b, v_kS_r, v_kO_r, v_kW_0, v_kW_1, v_kW_2, v_kW_r, v_kL_0, v_kL_1, v_kL_2, v_kL_r, v_kU_0, ups_11, upsN, upsA, upA_same, upA_neA, fl_at, fl_neA, v_sq_eq, v_sqM_0, v_sqM_r, v_sqM_b, v_sqM_n, sqM_ite, v_asI, v_asR, v_inc, v_pfI, v_pfZ, v_pfO, v_paI, v_paO, v_exI, v_iff, v_rtI, v_rtZ, v_rtV, v_sk, v_brk, v_cnt, v_blk_eq, v_blkM_some, blkM_ite, v_lI, v_lR, v_cI, v_gI, v_gR, v_op1, v_op2, v_arI, v_arR, v_alen, v_tern, v_cmp1, v_cmp2, v_cAnd, v_cOr, v_cNot, v_cTern, v_bn_some, bn_ite, v_bn_none, v_outV_r, v_outV_0, v_outV_n, outV_ite, List.getD_cons_zero, List.getD_cons_succ, List.set_cons_zero, List.set_cons_succ, List.take_succ_cons, List.take_zero, List.drop_succ_cons, List.drop_zero, List.nil_append, List.cons_append, Option.map_some, Option.map_none, if_true, if_false, reduceIte, reduceCtorEq, decide_eq_true_eq, Bool.not_eq_true', decide_eq_false_iff_not, decide_eq_true, decide_eq_false, decide_true, decide_false, and_self, and_true, true_and, or_self, stO, v_caV_, v_caV_i, v_caV_ii, v_caV_iii, v_caV_iiii, v_caV_iiiii, v_caV_il, v_caV_iil, v_caV_l, v_caV_ll, v_caV_r, v_caV_ri, v_caV_rii, v_caV_riii, v_caV_riiii, v_caV_ir, v_caV_iri, v_caV_iiri, v_caS_i, v_caS_ii, v_caS_iii, v_caS_iiii, v_caS_iiiiii, v_caS_il, v_caS_li, v_caS_ll, v_caS_lll, v_caS_ri, v_caS_riii, sh_239, sh_240, sh_241, sh_242, sh_243, sh_244, sh_245, sh_246, sh_247, sh_248, sh_249, sh_250, sh_251, sh_252, sh_253, rf_239_4, rf_239_5, rf_239_6, rf_239_7, rf_239_20, rf_239_21, rf_239_22, rf_239_23, rf_239_27, rf_239_28, rf_239_32, rf_239_33, rf_239_34, rf_239_35, Int.reduceLE, Int.reduceLT, Int.reduceToNat, Int.reduceAdd, Int.reduceSub, Int.reduceMul, Int.reduceNeg, Int.reduceEq, Int.reduceNe, Nat.reduceAdd, Nat.reduceMul, Nat.reduceLT, Nat.reduceEqDiff, or_true, true_or, or_false, false_or, and_false, false_and, not_true_eq_false, not_false_eq_true, ne_eq, cN4, cN5, cN6, cN7, cN13, cN30, cN60, cN64, cN100, cN136, cN240, cN384, cN900, cN2040, cN3, v_sw_eq, v_swM_0, v_swM_1, v_swM_r, v_swM_n, swM_ite, app_ite, ex_some, bI_0, bI_1, nn_iff, Int.toNat_natCast, Int.toNat_of_nonneg, Int.natCast_add, cN1, wI_id2, wL_id2, if_pos, if_neg]
    exact ⟨f, by rw [Int.toNat_of_nonneg (by omega)]⟩
def GIo (σ : SS) (c : Nat → Int) (y : Nat) (z : ZZ) : Prop := ∃ f, z = ([0, sumC c (totF c) (y * (c 0).toNat), (y : Int), 0, 0, 0], [239, 0, 0, 0, 0, 0], upA (upA σ 249 f) 244 (ptS c (y * (c 0).toNat)))
theorem ml_goes0 {c : Nat → Int} (hw : WB c) (hq : WQ c) (hp : ∀ k : Nat, k < bn3 c → σ 248 k = playP c k) {z0 : ZZ} (hz0 : GIo σ c 0 z0) : Wd (L_X12_goesHour_0 z0) (fun o z => o = .inl 0 ∧ GIo σ c (c 1).toNat z) := by
  have hH := hw.1
  unfold L_X12_goesHour_0
  refine Wd_it (GIo σ c) (c 1).toNat hz0 ?_ ?_
  · intro i z hi hz
    obtain ⟨f1, hz⟩ := hz
    subst hz
    have q := ml_goes1 hw hq hp (y := i) (by omega) (z0 := ([0, sumC c (totF c) (i * (c 0).toNat), (i : Int), 0, 0, 0], [239, 0, 0, 0, 0, 0], upA (upA σ 249 f1) 244 (ptS c (i * (c 0).toNat)))) ⟨f1, by rw [Nat.add_zero]; rfl⟩
    simp (disch := omega) only [C_X12_goesHour_0, D_X12_goesHour_0, U_X12_goesHour_0, ptS_o hw.1, Wd_some, Wd_bn, Wd_sqM, Wd_outV, Wd_blkM, Wd_swM, Wd_ite, Wd_map, v_kS_0, v_kS_b, v_kS_r, v_kO_r, v_kW_0, v_kW_1, v_kW_2, v_kW_r, v_kL_0, v_kL_1, v_kL_2, v_kL_r, v_kU_0, ups_11, upsN, upsA, upA_same, upA_neA, fl_at, fl_neA, v_sq_eq, v_sqM_0, v_sqM_r, v_sqM_b, v_sqM_n, sqM_ite, v_asI, v_asR, v_inc, v_pfI, v_pfZ, v_pfO, v_paI, v_paO, v_exI, v_iff, v_rtI, v_rtZ, v_rtV, v_sk, v_brk, v_cnt, v_blk_eq, v_blkM_some, blkM_ite, v_lI, v_lR, v_cI, v_gI, v_gR, v_op1, v_op2, v_arI, v_arR, v_alen, v_tern, v_cmp1, v_cmp2, v_cAnd, v_cOr, v_cNot, v_cTern, v_bn_some, bn_ite, v_bn_none, v_outV_r, v_outV_0, v_outV_n, outV_ite, List.getD_cons_zero, List.getD_cons_succ, List.set_cons_zero, List.set_cons_succ, List.take_succ_cons, List.take_zero, List.drop_succ_cons, List.drop_zero, List.nil_append, List.cons_append, Option.map_some, Option.map_none, if_true, if_false, reduceIte, reduceCtorEq, decide_eq_true_eq, Bool.not_eq_true', decide_eq_false_iff_not, decide_eq_true, decide_eq_false, decide_true, decide_false, and_self, and_true, true_and, or_self, stO, v_caV_, v_caV_i, v_caV_ii, v_caV_iii, v_caV_iiii, v_caV_iiiii, v_caV_il, v_caV_iil, v_caV_l, v_caV_ll, v_caV_r, v_caV_ri, v_caV_rii, v_caV_riii, v_caV_riiii, v_caV_ir, v_caV_iri, v_caV_iiri, v_caS_i, v_caS_ii, v_caS_iii, v_caS_iiii, v_caS_iiiiii, v_caS_il, v_caS_li, v_caS_ll, v_caS_lll, v_caS_ri, v_caS_riii, sh_239, sh_240, sh_241, sh_242, sh_243, sh_244, sh_245, sh_246, sh_247, sh_248, sh_249, sh_250, sh_251, sh_252, sh_253, rf_239_4, rf_239_5, rf_239_6, rf_239_7, rf_239_20, rf_239_21, rf_239_22, rf_239_23, rf_239_27, rf_239_28, rf_239_32, rf_239_33, rf_239_34, rf_239_35, Int.reduceLE, Int.reduceLT, Int.reduceToNat, Int.reduceAdd, Int.reduceSub, Int.reduceMul, Int.reduceNeg, Int.reduceEq, Int.reduceNe, Nat.reduceAdd, Nat.reduceMul, Nat.reduceLT, Nat.reduceEqDiff, or_true, true_or, or_false, false_or, and_false, false_and, not_true_eq_false, not_false_eq_true, ne_eq, cN4, cN5, cN6, cN7, cN13, cN30, cN60, cN64, cN100, cN136, cN240, cN384, cN900, cN2040, cN3, v_sw_eq, v_swM_0, v_swM_1, v_swM_r, v_swM_n, swM_ite, app_ite, ex_some, bI_0, bI_1, nn_iff, Int.toNat_natCast, Int.toNat_of_nonneg, Int.natCast_add, cN1, wI_id2, wL_id2, if_pos, if_neg]
    refine Wd_mono q (fun o z hz => ?_)
    obtain ⟨ho, f2, hz⟩ := hz
    subst ho; subst hz
    simp (disch := omega) only [U_X12_goesHour_0, Wd_some, Wd_bn, Wd_sqM, Wd_outV, Wd_blkM, Wd_swM, Wd_ite, Wd_map, v_kS_0, v_kS_b, v_kS_r, v_kO_r, v_kW_0, v_kW_1, v_kW_2, v_kW_r, v_kL_0, v_kL_1, v_kL_2, v_kL_r, v_kU_0, ups_11, upsN, upsA, upA_same, upA_neA, fl_at, fl_neA, v_sq_eq, v_sqM_0, v_sqM_r, v_sqM_b, v_sqM_n, sqM_ite, v_asI, v_asR, v_inc, v_pfI, v_pfZ, v_pfO, v_paI, v_paO, v_exI, v_iff, v_rtI, v_rtZ, v_rtV, v_sk, v_brk, v_cnt, v_blk_eq, v_blkM_some, blkM_ite, v_lI, v_lR, v_cI, v_gI, v_gR, v_op1, v_op2, v_arI, v_arR, v_alen, v_tern, v_cmp1, v_cmp2, v_cAnd, v_cOr, v_cNot, v_cTern, v_bn_some, bn_ite, v_bn_none, v_outV_r, v_outV_0, v_outV_n, outV_ite, List.getD_cons_zero, List.getD_cons_succ, List.set_cons_zero, List.set_cons_succ, List.take_succ_cons, List.take_zero, List.drop_succ_cons, List.drop_zero, List.nil_append, List.cons_append, Option.map_some, Option.map_none, if_true, if_false, reduceIte, reduceCtorEq, decide_eq_true_eq, Bool.not_eq_true', decide_eq_false_iff_not, decide_eq_true, decide_eq_false, decide_true, decide_false, and_self, and_true, true_and, or_self, stO, v_caV_, v_caV_i, v_caV_ii, v_caV_iii, v_caV_iiii, v_caV_iiiii, v_caV_il, v_caV_iil, v_caV_l, v_caV_ll, v_caV_r, v_caV_ri, v_caV_rii, v_caV_riii, v_caV_riiii, v_caV_ir, v_caV_iri, v_caV_iiri, v_caS_i, v_caS_ii, v_caS_iii, v_caS_iiii, v_caS_iiiiii, v_caS_il, v_caS_li, v_caS_ll, v_caS_lll, v_caS_ri, v_caS_riii, sh_239, sh_240, sh_241, sh_242, sh_243, sh_244, sh_245, sh_246, sh_247, sh_248, sh_249, sh_250, sh_251, sh_252, sh_253, rf_239_4, rf_239_5, rf_239_6, rf_239_7, rf_239_20, rf_239_21, rf_239_22, rf_239_23, rf_239_27, rf_239_28, rf_239_32, rf_239_33, rf_239_34, rf_239_35, Int.reduceLE, Int.reduceLT, Int.reduceToNat, Int.reduceAdd, Int.reduceSub, Int.reduceMul, Int.reduceNeg, Int.reduceEq, Int.reduceNe, Nat.reduceAdd, Nat.reduceMul, Nat.reduceLT, Nat.reduceEqDiff, or_true, true_or, or_false, false_or, and_false, false_and, not_true_eq_false, not_false_eq_true, ne_eq, cN4, cN5, cN6, cN7, cN13, cN30, cN60, cN64, cN100, cN136, cN240, cN384, cN900, cN2040, cN3, v_sw_eq, v_swM_0, v_swM_1, v_swM_r, v_swM_n, swM_ite, app_ite, ex_some, bI_0, bI_1, nn_iff, Int.toNat_natCast, Int.toNat_of_nonneg, Int.natCast_add, cN1, wI_id2, wL_id2, if_pos, if_neg]
    exact ⟨f2, by rw [Nat.succ_mul]; rfl⟩
  · intro z hz
    obtain ⟨f1, hz⟩ := hz
    subst hz
    simp (disch := omega) only [C_X12_goesHour_0, D_X12_goesHour_0, U_X12_goesHour_0, ptS_o hw.1, Wd_some, Wd_bn, Wd_sqM, Wd_outV, Wd_blkM, Wd_swM, Wd_ite, Wd_map, v_kS_0, v_kS_b, v_kS_r, v_kO_r, v_kW_0, v_kW_1, v_kW_2, v_kW_r, v_kL_0, v_kL_1, v_kL_2, v_kL_r, v_kU_0, ups_11, upsN, upsA, upA_same, upA_neA, fl_at, fl_neA, v_sq_eq, v_sqM_0, v_sqM_r, v_sqM_b, v_sqM_n, sqM_ite, v_asI, v_asR, v_inc, v_pfI, v_pfZ, v_pfO, v_paI, v_paO, v_exI, v_iff, v_rtI, v_rtZ, v_rtV, v_sk, v_brk, v_cnt, v_blk_eq, v_blkM_some, blkM_ite, v_lI, v_lR, v_cI, v_gI, v_gR, v_op1, v_op2, v_arI, v_arR, v_alen, v_tern, v_cmp1, v_cmp2, v_cAnd, v_cOr, v_cNot, v_cTern, v_bn_some, bn_ite, v_bn_none, v_outV_r, v_outV_0, v_outV_n, outV_ite, List.getD_cons_zero, List.getD_cons_succ, List.set_cons_zero, List.set_cons_succ, List.take_succ_cons, List.take_zero, List.drop_succ_cons, List.drop_zero, List.nil_append, List.cons_append, Option.map_some, Option.map_none, if_true, if_false, reduceIte, reduceCtorEq, decide_eq_true_eq, Bool.not_eq_true', decide_eq_false_iff_not, decide_eq_true, decide_eq_false, decide_true, decide_false, and_self, and_true, true_and, or_self, stO, v_caV_, v_caV_i, v_caV_ii, v_caV_iii, v_caV_iiii, v_caV_iiiii, v_caV_il, v_caV_iil, v_caV_l, v_caV_ll, v_caV_r, v_caV_ri, v_caV_rii, v_caV_riii, v_caV_riiii, v_caV_ir, v_caV_iri, v_caV_iiri, v_caS_i, v_caS_ii, v_caS_iii, v_caS_iiii, v_caS_iiiiii, v_caS_il, v_caS_li, v_caS_ll, v_caS_lll, v_caS_ri, v_caS_riii, sh_239, sh_240, sh_241, sh_242, sh_243, sh_244, sh_245, sh_246, sh_247, sh_248, sh_249, sh_250, sh_251, sh_252, sh_253, rf_239_4, rf_239_5, rf_239_6, rf_239_7, rf_239_20, rf_239_21, rf_239_22, rf_239_23, rf_239_27, rf_239_28, rf_239_32, rf_239_33, rf_239_34, rf_239_35, Int.reduceLE, Int.reduceLT, Int.reduceToNat, Int.reduceAdd, Int.reduceSub, Int.reduceMul, Int.reduceNeg, Int.reduceEq, Int.reduceNe, Nat.reduceAdd, Nat.reduceMul, Nat.reduceLT, Nat.reduceEqDiff, or_true, true_or, or_false, false_or, and_false, false_and, not_true_eq_false, not_false_eq_true, ne_eq, cN4, cN5, cN6, cN7, cN13, cN30, cN60, cN64, cN100, cN136, cN240, cN384, cN900, cN2040, cN3, v_sw_eq, v_swM_0, v_swM_1, v_swM_r, v_swM_n, swM_ite, app_ite, ex_some, bI_0, bI_1, nn_iff, Int.toNat_natCast, Int.toNat_of_nonneg, Int.natCast_add, cN1, wI_id2, wL_id2, if_pos, if_neg]
    exact ⟨f1, by rw [Int.toNat_of_nonneg (by omega)]⟩
/-- the lips of the first i bands, all points being counted -/
def lpS (c : Nat → Int) (i : Nat) : Nat → Int := fun k => if 46 ≤ k ∧ k < 46 + i then lipsB c (playP c) ((k : Int) - 46) else ptS c (nC c) k
theorem ml_goes2 {c : Nat → Int} (hw : WB c) (hp : ∀ k : Nat, k < bn3 c → σ 248 k = playP c k) (pt : Int) : L_X12_goesHour_2 ([0, pt, 0, 0, 0, 0], [239, 0, 0, 0, 0, 0], upA σ 244 (ptS c (nC c))) = some (.inl 0, ([0, pt, c 3, 0, 0, 0], [239, 0, 0, 0, 0, 0], upA σ 244 (lpS c (bn3 c)))) := by
  refine Wd_out ?_
  have hH := hw.1
  have hn := bn3_c hw.1
  unfold L_X12_goesHour_2
  refine Wd_it (fun i z => z = ([0, pt, (i : Int), 0, 0, 0], [239, 0, 0, 0, 0, 0], upA σ 244 (lpS c i))) (bn3 c) ?_ ?_ ?_
  · have e0 : lpS c 0 = ptS c (nC c) := by funext k; unfold lpS; rw [if_neg (by omega)]
    rw [e0]
    rfl
  · intro i z hi hz
    subst hz
    have lo : ∀ k, ¬ (46 ≤ k ∧ k < 46 + i) → ¬ (58 ≤ k ∧ k < 64) → lpS c i k = c k := fun k h1 h2 => by
      unfold lpS
      rw [if_neg h1, ptS_o hw.1 h2]
    have d1 := (hw.2.2.1 i (by omega) (by omega)).1
    have en := plO_P hw.2.2.1 i (by omega)
    have e8 := hp i hi
    have es : lpS c (i + 1) = upc (lpS c i) (46 + (i : Int)).toNat (lipsB c (playP c) i) := by
      funext k
      by_cases e : k = (46 + (i : Int)).toNat
      · subst e
        rw [upc_same]
        unfold lpS
        rw [if_pos (by omega)]
        congr 1
        omega
      · rw [upc_ne e]
        unfold lpS
        by_cases e2 : 46 ≤ k ∧ k < 46 + i
        · rw [if_pos e2, if_pos (by omega)]
        · rw [if_neg e2, if_neg (by omega)]
    have el : lipsB c (playP c) i = if playP c i < 6 then c (46 + (i : Int)).toNat - c (16 + playP c i).toNat else if c (46 + (i : Int)).toNat + c 5 < c (52 + (i : Int)).toNat then c (46 + (i : Int)).toNat + c 5 else c (52 + (i : Int)).toNat := by
      unfold lipsB
      rw [Int.toNat_natCast]
    by_cases g6 : playP c i = 6
    · rw [if_neg (by omega)] at el
      simp (disch := omega) only [C_X12_goesHour_2, D_X12_goesHour_2, U_X12_goesHour_2, e8, g6, lo, Wd_some, Wd_bn, Wd_sqM, Wd_outV, Wd_blkM, Wd_swM, Wd_ite, Wd_map, v_kS_0, v_kS_b, v_kS_r, v_kO_r, v_kW_0, v_kW_1, v_kW_2, v_kW_r, v_kL_0, v_kL_1, v_kL_2, v_kL_r, v_kU_0, ups_11, upsN, upsA, upA_same, upA_neA, fl_at, fl_neA, v_sq_eq, v_sqM_0, v_sqM_r, v_sqM_b, v_sqM_n, sqM_ite, v_asI, v_asR, v_inc, v_pfI, v_pfZ, v_pfO, v_paI, v_paO, v_exI, v_iff, v_rtI, v_rtZ, v_rtV, v_sk, v_brk, v_cnt, v_blk_eq, v_blkM_some, blkM_ite, v_lI, v_lR, v_cI, v_gI, v_gR, v_op1, v_op2, v_arI, v_arR, v_alen, v_tern, v_cmp1, v_cmp2, v_cAnd, v_cOr, v_cNot, v_cTern, v_bn_some, bn_ite, v_bn_none, v_outV_r, v_outV_0, v_outV_n, outV_ite, List.getD_cons_zero, List.getD_cons_succ, List.set_cons_zero, List.set_cons_succ, List.take_succ_cons, List.take_zero, List.drop_succ_cons, List.drop_zero, List.nil_append, List.cons_append, Option.map_some, Option.map_none, if_true, if_false, reduceIte, reduceCtorEq, decide_eq_true_eq, Bool.not_eq_true', decide_eq_false_iff_not, decide_eq_true, decide_eq_false, decide_true, decide_false, and_self, and_true, true_and, or_self, stO, v_caV_, v_caV_i, v_caV_ii, v_caV_iii, v_caV_iiii, v_caV_iiiii, v_caV_il, v_caV_iil, v_caV_l, v_caV_ll, v_caV_r, v_caV_ri, v_caV_rii, v_caV_riii, v_caV_riiii, v_caV_ir, v_caV_iri, v_caV_iiri, v_caS_i, v_caS_ii, v_caS_iii, v_caS_iiii, v_caS_iiiiii, v_caS_il, v_caS_li, v_caS_ll, v_caS_lll, v_caS_ri, v_caS_riii, sh_239, sh_240, sh_241, sh_242, sh_243, sh_244, sh_245, sh_246, sh_247, sh_248, sh_249, sh_250, sh_251, sh_252, sh_253, rf_239_4, rf_239_5, rf_239_6, rf_239_7, rf_239_20, rf_239_21, rf_239_22, rf_239_23, rf_239_27, rf_239_28, rf_239_32, rf_239_33, rf_239_34, rf_239_35, Int.reduceLE, Int.reduceLT, Int.reduceToNat, Int.reduceAdd, Int.reduceSub, Int.reduceMul, Int.reduceNeg, Int.reduceEq, Int.reduceNe, Nat.reduceAdd, Nat.reduceMul, Nat.reduceLT, Nat.reduceEqDiff, or_true, true_or, or_false, false_or, and_false, false_and, not_true_eq_false, not_false_eq_true, ne_eq, cN4, cN5, cN6, cN7, cN13, cN30, cN60, cN64, cN100, cN136, cN240, cN384, cN900, cN2040, cN3, v_sw_eq, v_swM_0, v_swM_1, v_swM_r, v_swM_n, swM_ite, app_ite, ex_some, bI_0, bI_1, nn_iff, Int.toNat_natCast, Int.toNat_of_nonneg, Int.natCast_add, cN1, wI_id2, wL_id2, if_pos, if_neg]
      rw [es, el, upA_ups]
    · have t1 := hw.2.1 (playP c i) (by omega) (by omega)
      rw [if_pos (by omega)] at el
      simp (disch := omega) only [C_X12_goesHour_2, D_X12_goesHour_2, U_X12_goesHour_2, e8, g6, lo, Wd_some, Wd_bn, Wd_sqM, Wd_outV, Wd_blkM, Wd_swM, Wd_ite, Wd_map, v_kS_0, v_kS_b, v_kS_r, v_kO_r, v_kW_0, v_kW_1, v_kW_2, v_kW_r, v_kL_0, v_kL_1, v_kL_2, v_kL_r, v_kU_0, ups_11, upsN, upsA, upA_same, upA_neA, fl_at, fl_neA, v_sq_eq, v_sqM_0, v_sqM_r, v_sqM_b, v_sqM_n, sqM_ite, v_asI, v_asR, v_inc, v_pfI, v_pfZ, v_pfO, v_paI, v_paO, v_exI, v_iff, v_rtI, v_rtZ, v_rtV, v_sk, v_brk, v_cnt, v_blk_eq, v_blkM_some, blkM_ite, v_lI, v_lR, v_cI, v_gI, v_gR, v_op1, v_op2, v_arI, v_arR, v_alen, v_tern, v_cmp1, v_cmp2, v_cAnd, v_cOr, v_cNot, v_cTern, v_bn_some, bn_ite, v_bn_none, v_outV_r, v_outV_0, v_outV_n, outV_ite, List.getD_cons_zero, List.getD_cons_succ, List.set_cons_zero, List.set_cons_succ, List.take_succ_cons, List.take_zero, List.drop_succ_cons, List.drop_zero, List.nil_append, List.cons_append, Option.map_some, Option.map_none, if_true, if_false, reduceIte, reduceCtorEq, decide_eq_true_eq, Bool.not_eq_true', decide_eq_false_iff_not, decide_eq_true, decide_eq_false, decide_true, decide_false, and_self, and_true, true_and, or_self, stO, v_caV_, v_caV_i, v_caV_ii, v_caV_iii, v_caV_iiii, v_caV_iiiii, v_caV_il, v_caV_iil, v_caV_l, v_caV_ll, v_caV_r, v_caV_ri, v_caV_rii, v_caV_riii, v_caV_riiii, v_caV_ir, v_caV_iri, v_caV_iiri, v_caS_i, v_caS_ii, v_caS_iii, v_caS_iiii, v_caS_iiiiii, v_caS_il, v_caS_li, v_caS_ll, v_caS_lll, v_caS_ri, v_caS_riii, sh_239, sh_240, sh_241, sh_242, sh_243, sh_244, sh_245, sh_246, sh_247, sh_248, sh_249, sh_250, sh_251, sh_252, sh_253, rf_239_4, rf_239_5, rf_239_6, rf_239_7, rf_239_20, rf_239_21, rf_239_22, rf_239_23, rf_239_27, rf_239_28, rf_239_32, rf_239_33, rf_239_34, rf_239_35, Int.reduceLE, Int.reduceLT, Int.reduceToNat, Int.reduceAdd, Int.reduceSub, Int.reduceMul, Int.reduceNeg, Int.reduceEq, Int.reduceNe, Nat.reduceAdd, Nat.reduceMul, Nat.reduceLT, Nat.reduceEqDiff, or_true, true_or, or_false, false_or, and_false, false_and, not_true_eq_false, not_false_eq_true, ne_eq, cN4, cN5, cN6, cN7, cN13, cN30, cN60, cN64, cN100, cN136, cN240, cN384, cN900, cN2040, cN3, v_sw_eq, v_swM_0, v_swM_1, v_swM_r, v_swM_n, swM_ite, app_ite, ex_some, bI_0, bI_1, nn_iff, Int.toNat_natCast, Int.toNat_of_nonneg, Int.natCast_add, cN1, wI_id2, wL_id2, if_pos, if_neg]
      rw [es, el, upA_ups]
  · intro z hz
    subst hz
    have lo : lpS c (bn3 c) 3 = c 3 := by
      unfold lpS
      rw [if_neg (by omega), ptS_o hw.1 (by omega)]
    simp (disch := omega) only [C_X12_goesHour_2, D_X12_goesHour_2, U_X12_goesHour_2, lo, hn, Wd_some, Wd_bn, Wd_sqM, Wd_outV, Wd_blkM, Wd_swM, Wd_ite, Wd_map, v_kS_0, v_kS_b, v_kS_r, v_kO_r, v_kW_0, v_kW_1, v_kW_2, v_kW_r, v_kL_0, v_kL_1, v_kL_2, v_kL_r, v_kU_0, ups_11, upsN, upsA, upA_same, upA_neA, fl_at, fl_neA, v_sq_eq, v_sqM_0, v_sqM_r, v_sqM_b, v_sqM_n, sqM_ite, v_asI, v_asR, v_inc, v_pfI, v_pfZ, v_pfO, v_paI, v_paO, v_exI, v_iff, v_rtI, v_rtZ, v_rtV, v_sk, v_brk, v_cnt, v_blk_eq, v_blkM_some, blkM_ite, v_lI, v_lR, v_cI, v_gI, v_gR, v_op1, v_op2, v_arI, v_arR, v_alen, v_tern, v_cmp1, v_cmp2, v_cAnd, v_cOr, v_cNot, v_cTern, v_bn_some, bn_ite, v_bn_none, v_outV_r, v_outV_0, v_outV_n, outV_ite, List.getD_cons_zero, List.getD_cons_succ, List.set_cons_zero, List.set_cons_succ, List.take_succ_cons, List.take_zero, List.drop_succ_cons, List.drop_zero, List.nil_append, List.cons_append, Option.map_some, Option.map_none, if_true, if_false, reduceIte, reduceCtorEq, decide_eq_true_eq, Bool.not_eq_true', decide_eq_false_iff_not, decide_eq_true, decide_eq_false, decide_true, decide_false, and_self, and_true, true_and, or_self, stO, v_caV_, v_caV_i, v_caV_ii, v_caV_iii, v_caV_iiii, v_caV_iiiii, v_caV_il, v_caV_iil, v_caV_l, v_caV_ll, v_caV_r, v_caV_ri, v_caV_rii, v_caV_riii, v_caV_riiii, v_caV_ir, v_caV_iri, v_caV_iiri, v_caS_i, v_caS_ii, v_caS_iii, v_caS_iiii, v_caS_iiiiii, v_caS_il, v_caS_li, v_caS_ll, v_caS_lll, v_caS_ri, v_caS_riii, sh_239, sh_240, sh_241, sh_242, sh_243, sh_244, sh_245, sh_246, sh_247, sh_248, sh_249, sh_250, sh_251, sh_252, sh_253, rf_239_4, rf_239_5, rf_239_6, rf_239_7, rf_239_20, rf_239_21, rf_239_22, rf_239_23, rf_239_27, rf_239_28, rf_239_32, rf_239_33, rf_239_34, rf_239_35, Int.reduceLE, Int.reduceLT, Int.reduceToNat, Int.reduceAdd, Int.reduceSub, Int.reduceMul, Int.reduceNeg, Int.reduceEq, Int.reduceNe, Nat.reduceAdd, Nat.reduceMul, Nat.reduceLT, Nat.reduceEqDiff, or_true, true_or, or_false, false_or, and_false, false_and, not_true_eq_false, not_false_eq_true, ne_eq, cN4, cN5, cN6, cN7, cN13, cN30, cN60, cN64, cN100, cN136, cN240, cN384, cN900, cN2040, cN3, v_sw_eq, v_swM_0, v_swM_1, v_swM_r, v_swM_n, swM_ite, app_ite, ex_some, bI_0, bI_1, nn_iff, Int.toNat_natCast, Int.toNat_of_nonneg, Int.natCast_add, cN1, wI_id2, wL_id2, if_pos, if_neg]
/-- the sum over the bands is the sum over the cells that are held -/
theorem sumN_one {v : Int} {wh : Int} : ∀ n : Nat, sumN (fun b => if wh = (b : Int) then v else 0) n = if 0 ≤ wh ∧ wh < n then v else 0
  | 0 => by
    rw [if_neg (by omega)]
    rfl
  | n + 1 => by
    show sumN (fun b => if wh = (b : Int) then v else 0) n + (if wh = (n : Int) then v else 0) = _
    rw [sumN_one n]
    by_cases h : wh = (n : Int)
    · rw [if_neg (by omega), if_pos h, if_pos (by omega)]
      omega
    · rw [if_neg h]
      by_cases h2 : 0 ≤ wh ∧ wh < (n : Int)
      · rw [if_pos h2, if_pos (by omega)]
        omega
      · rw [if_neg h2, if_neg (by omega)]
        rfl
theorem sumN_plus {f g : Nat → Int} : ∀ n : Nat, sumN (fun k => f k + g k) n = sumN f n + sumN g n
  | 0 => rfl
  | n + 1 => by
    show sumN (fun k => f k + g k) n + (f n + g n) = (sumN f n + f n) + (sumN g n + g n)
    rw [sumN_plus n]
    omega
theorem pts_eq {c : Nat → Int} (hw : WH c) : ∀ n : Nat, sumN (fun b => gainB c (playP c) b n) (bn3 c) = sumC c (totF c) n
  | 0 => sumN_zero _ (fun _ _ => rfl)
  | n + 1 => by
    have hn := bn3_c hw
    have r := holdB_rng hw (playP c) ((n : Int) % c 0) ((n : Int) / c 0)
    have e : (fun b : Nat => gainB c (playP c) b (n + 1)) = fun b : Nat => gainB c (playP c) b n + (if holdB c (playP c) ((n : Int) % c 0) ((n : Int) / c 0) = (b : Int) then (if pondB c ((n : Int) % c 0) ((n : Int) / c 0) = 1 then 3 else 1) else 0) := rfl
    rw [e, sumN_plus, pts_eq hw n, sumN_one, sumC_1]
    unfold totF
    congr 1
    by_cases g : 0 ≤ holdB c (playP c) ((n : Int) % c 0) ((n : Int) / c 0)
    · rw [if_pos g, if_pos (by omega)]
    · rw [if_neg g, if_neg (by omega)]
theorem m_goesHour (hw : WB (σ 244)) (hq : WQ (σ 244)) (h7 : σ 244 7 < 12000) : Wd (F_X12_goesHour 239 σ) (fun r σ' => r = ptsB (σ 244) ∧ σ' 244 = hourB (σ 244) ∧ (∀ a, a ≠ 239 → a ≠ 244 → a ≠ 248 → a ≠ 249 → σ' a = σ a) ∧ (∀ k, k ≠ 29 → σ' 239 k = σ 239 k) ∧ σ' 239 29 = tirB (σ 244) (bn3 (σ 244))) := by
  have hH := hw.1
  have hn := bn3_c hw.1
  have e44 : nowM σ (bn3 (σ 244)) 244 = σ 244 := nowM_a (by omega) (by omega)
  have hp : ∀ k : Nat, k < bn3 (σ 244) → nowM σ (bn3 (σ 244)) 248 k = playP (σ 244) k := fun k hk => nowM_p hk
  have q0 := ml_goes0 (σ := nowM σ (bn3 (σ 244))) hw hq hp (z0 := ([0, 0, 0, 0, 0, 0], [239, 0, 0, 0, 0, 0], nowM σ (bn3 (σ 244)))) ⟨nowM σ (bn3 (σ 244)) 249, by
    rw [Nat.zero_mul, ptS_0, upA_id]
    rw [← e44, upA_id]
    rfl⟩
  simp (disch := omega) only [F_X12_goesHour, E_X12_goesHour, m_laysNow hw.1 hw.2.2.1, Wd_some, Wd_bn, Wd_sqM, Wd_outV, Wd_blkM, Wd_swM, Wd_ite, Wd_map, v_kS_0, v_kS_b, v_kS_r, v_kO_r, v_kW_0, v_kW_1, v_kW_2, v_kW_r, v_kL_0, v_kL_1, v_kL_2, v_kL_r, v_kU_0, ups_11, upsN, upsA, upA_same, upA_neA, fl_at, fl_neA, v_sq_eq, v_sqM_0, v_sqM_r, v_sqM_b, v_sqM_n, sqM_ite, v_asI, v_asR, v_inc, v_pfI, v_pfZ, v_pfO, v_paI, v_paO, v_exI, v_iff, v_rtI, v_rtZ, v_rtV, v_sk, v_brk, v_cnt, v_blk_eq, v_blkM_some, blkM_ite, v_lI, v_lR, v_cI, v_gI, v_gR, v_op1, v_op2, v_arI, v_arR, v_alen, v_tern, v_cmp1, v_cmp2, v_cAnd, v_cOr, v_cNot, v_cTern, v_bn_some, bn_ite, v_bn_none, v_outV_r, v_outV_0, v_outV_n, outV_ite, List.getD_cons_zero, List.getD_cons_succ, List.set_cons_zero, List.set_cons_succ, List.take_succ_cons, List.take_zero, List.drop_succ_cons, List.drop_zero, List.nil_append, List.cons_append, Option.map_some, Option.map_none, if_true, if_false, reduceIte, reduceCtorEq, decide_eq_true_eq, Bool.not_eq_true', decide_eq_false_iff_not, decide_eq_true, decide_eq_false, decide_true, decide_false, and_self, and_true, true_and, or_self, stO, v_caV_, v_caV_i, v_caV_ii, v_caV_iii, v_caV_iiii, v_caV_iiiii, v_caV_il, v_caV_iil, v_caV_l, v_caV_ll, v_caV_r, v_caV_ri, v_caV_rii, v_caV_riii, v_caV_riiii, v_caV_ir, v_caV_iri, v_caV_iiri, v_caS_i, v_caS_ii, v_caS_iii, v_caS_iiii, v_caS_iiiiii, v_caS_il, v_caS_li, v_caS_ll, v_caS_lll, v_caS_ri, v_caS_riii, sh_239, sh_240, sh_241, sh_242, sh_243, sh_244, sh_245, sh_246, sh_247, sh_248, sh_249, sh_250, sh_251, sh_252, sh_253, rf_239_4, rf_239_5, rf_239_6, rf_239_7, rf_239_20, rf_239_21, rf_239_22, rf_239_23, rf_239_27, rf_239_28, rf_239_32, rf_239_33, rf_239_34, rf_239_35, Int.reduceLE, Int.reduceLT, Int.reduceToNat, Int.reduceAdd, Int.reduceSub, Int.reduceMul, Int.reduceNeg, Int.reduceEq, Int.reduceNe, Nat.reduceAdd, Nat.reduceMul, Nat.reduceLT, Nat.reduceEqDiff, or_true, true_or, or_false, false_or, and_false, false_and, not_true_eq_false, not_false_eq_true, ne_eq, cN4, cN5, cN6, cN7, cN13, cN30, cN60, cN64, cN100, cN136, cN240, cN384, cN900, cN2040, cN3, v_sw_eq, v_swM_0, v_swM_1, v_swM_r, v_swM_n, swM_ite, app_ite, ex_some, bI_0, bI_1, nn_iff, Int.toNat_natCast, Int.toNat_of_nonneg, Int.natCast_add, cN1, wI_id2, wL_id2, if_pos, if_neg]
  refine Wd_mono q0 (fun o z hz => ?_)
  obtain ⟨ho, f, hz⟩ := hz
  subst ho; subst hz
  rw [nC_mul hw.1, ← pts_eq hw.1]
  have q2 := ml_goes2 (σ := upA (nowM σ (bn3 (σ 244))) 249 f) hw (by simp (disch := omega) only [ups_11, upsN, upsA, upA_same, upA_neA, fl_at, fl_neA]; exact hp) (sumN (fun b => gainB (σ 244) (playP (σ 244)) b (nC (σ 244))) (bn3 (σ 244)))
  have l7 : lpS (σ 244) (bn3 (σ 244)) 7 = σ 244 7 := by
    unfold lpS
    rw [if_neg (by omega), ptS_o hw.1 (by omega)]
  simp (disch := omega) only [q2, l7, Wd_some, Wd_bn, Wd_sqM, Wd_outV, Wd_blkM, Wd_swM, Wd_ite, Wd_map, v_kS_0, v_kS_b, v_kS_r, v_kO_r, v_kW_0, v_kW_1, v_kW_2, v_kW_r, v_kL_0, v_kL_1, v_kL_2, v_kL_r, v_kU_0, ups_11, upsN, upsA, upA_same, upA_neA, fl_at, fl_neA, v_sq_eq, v_sqM_0, v_sqM_r, v_sqM_b, v_sqM_n, sqM_ite, v_asI, v_asR, v_inc, v_pfI, v_pfZ, v_pfO, v_paI, v_paO, v_exI, v_iff, v_rtI, v_rtZ, v_rtV, v_sk, v_brk, v_cnt, v_blk_eq, v_blkM_some, blkM_ite, v_lI, v_lR, v_cI, v_gI, v_gR, v_op1, v_op2, v_arI, v_arR, v_alen, v_tern, v_cmp1, v_cmp2, v_cAnd, v_cOr, v_cNot, v_cTern, v_bn_some, bn_ite, v_bn_none, v_outV_r, v_outV_0, v_outV_n, outV_ite, List.getD_cons_zero, List.getD_cons_succ, List.set_cons_zero, List.set_cons_succ, List.take_succ_cons, List.take_zero, List.drop_succ_cons, List.drop_zero, List.nil_append, List.cons_append, Option.map_some, Option.map_none, if_true, if_false, reduceIte, reduceCtorEq, decide_eq_true_eq, Bool.not_eq_true', decide_eq_false_iff_not, decide_eq_true, decide_eq_false, decide_true, decide_false, and_self, and_true, true_and, or_self, stO, v_caV_, v_caV_i, v_caV_ii, v_caV_iii, v_caV_iiii, v_caV_iiiii, v_caV_il, v_caV_iil, v_caV_l, v_caV_ll, v_caV_r, v_caV_ri, v_caV_rii, v_caV_riii, v_caV_riiii, v_caV_ir, v_caV_iri, v_caV_iiri, v_caS_i, v_caS_ii, v_caS_iii, v_caS_iiii, v_caS_iiiiii, v_caS_il, v_caS_li, v_caS_ll, v_caS_lll, v_caS_ri, v_caS_riii, sh_239, sh_240, sh_241, sh_242, sh_243, sh_244, sh_245, sh_246, sh_247, sh_248, sh_249, sh_250, sh_251, sh_252, sh_253, rf_239_4, rf_239_5, rf_239_6, rf_239_7, rf_239_20, rf_239_21, rf_239_22, rf_239_23, rf_239_27, rf_239_28, rf_239_32, rf_239_33, rf_239_34, rf_239_35, Int.reduceLE, Int.reduceLT, Int.reduceToNat, Int.reduceAdd, Int.reduceSub, Int.reduceMul, Int.reduceNeg, Int.reduceEq, Int.reduceNe, Nat.reduceAdd, Nat.reduceMul, Nat.reduceLT, Nat.reduceEqDiff, or_true, true_or, or_false, false_or, and_false, false_and, not_true_eq_false, not_false_eq_true, ne_eq, cN4, cN5, cN6, cN7, cN13, cN30, cN60, cN64, cN100, cN136, cN240, cN384, cN900, cN2040, cN3, v_sw_eq, v_swM_0, v_swM_1, v_swM_r, v_swM_n, swM_ite, app_ite, ex_some, bI_0, bI_1, nn_iff, Int.toNat_natCast, Int.toNat_of_nonneg, Int.natCast_add, cN1, wI_id2, wL_id2, if_pos, if_neg]
  refine ⟨rfl, ?_, fun a h1 h2 h3 h4 => ?_, fun k hk => ?_, ?_⟩
  · rw [upA_ups, upA_same]
    unfold hourB
    congr 1
    funext k
    unfold lpS hpB ptS
    by_cases e1 : 46 ≤ k ∧ k < 46 + bn3 (σ 244)
    · rw [if_pos e1, if_pos e1]
    · rw [if_neg e1, if_neg e1]
  · simp (disch := omega) only [ups_11, upsN, upsA, upA_same, upA_neA, fl_at, fl_neA]
    exact nowM_a h1 h3
  · simp (disch := omega) only [ups_11, upsN, upsA, upA_same, upA_neA, fl_at, fl_neA]
    exact nowM_f hk
  · simp (disch := omega) only [ups_11, upsN, upsA, upA_same, upA_neA, fl_at, fl_neA]
    exact nowM_29
end MH
