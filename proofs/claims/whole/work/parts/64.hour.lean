/-! an hour -/
def sndE (c c' : Nat → Int) : Prop := ∀ k : Nat, ¬ (5 ≤ k ∧ k ≤ 7) → (k < 46 ∨ (106 ≤ k ∧ k < 136)) → c' k = c k
section SND
variable {c c' : Nat → Int}
theorem sndE_bn (h : sndE c c') : bn3 c' = bn3 c := by unfold bn3; rw [h 3 (by omega) (by omega)]
theorem sndE_nC (h : sndE c c') : nC c' = nC c := by unfold nC; rw [h 0 (by omega) (by omega), h 1 (by omega) (by omega)]
theorem lossB_e (h : sndE c c') {b : Int} (hb : 0 ≤ b ∧ b < 6) (x y : Int) : lossB c' b x y = lossB c b x y := by
  unfold lossB fadeB
  rw [h 4 (by omega) (by omega), h 8 (by omega) (by omega), h 9 (by omega) (by omega), h (28 + b).toNat (by omega) (by omega), h (34 + b).toNat (by omega) (by omega)]
theorem hearB_e (h : sndE c c') {b t : Int} (hb : 0 ≤ b ∧ b < 6) (ht : 0 ≤ t ∧ t ≤ 6) (x y : Int) : hearB c' b t x y = hearB c b t x y := by
  unfold hearB
  rw [lossB_e h hb, h (40 + b).toNat (by omega) (by omega), h (10 + t).toNat (by omega) (by omega)]
theorem noiB_e (hw : WH c) (h : sndE c c') {p : Nat → Int} (hp : plO c p) (x y : Int) : ∀ k : Nat, k < bn3 c → noiB c' p x y k = noiB c p x y k := by
  intro k hk
  have hn := bn3_c hw
  have := hp k (by omega)
  unfold noiB
  exact hearB_e h (by omega) (by omega) x y
theorem holdB_e (hw : WH c) (h : sndE c c') {p : Nat → Int} (hp : plO c p) (x y : Int) : holdB c' p x y = holdB c p x y := by
  unfold holdB
  rw [sndE_bn h]
  exact whoN_congr _ (noiB_e hw h hp x y)
theorem loudB_e (hw : WH c) (h : sndE c c') {p : Nat → Int} (hp : plO c p) (x y : Int) : loudB c' p x y = loudB c p x y := by
  unfold loudB
  rw [sndE_bn h]
  exact mostN_congr _ (noiB_e hw h hp x y)
theorem cellsB_e (hw : WH c) (h : sndE c c') {p : Nat → Int} (hp : plO c p) (who : Int) : cellsB c' p who = cellsB c p who := by
  unfold cellsB sumC
  rw [sndE_nC h]
  exact sumN_congr _ (fun k _ => by simp only [holdB_e hw h hp, h 0 (by omega) (by omega)])
theorem pondB_e (h : sndE c c') {x y : Int} (hx : 0 ≤ x ∧ x < 6) (hy : 0 ≤ y ∧ y < 5) : pondB c' x y = pondB c x y := by
  unfold pondB
  exact h _ (by omega) (by omega)
theorem gainB_e (hw : WH c) (h : sndE c c') {p : Nat → Int} (hp : plO c p) (who : Int) {n : Nat} (hN : n ≤ nC c) : gainB c' p who n = gainB c p who n := by
  have hn := nC_c hw
  unfold gainB sumC
  refine sumN_congr _ (fun k hk => ?_)
  obtain ⟨w1, w2, w3, w4⟩ := cell_rng hw (k := k) (by omega)
  simp only [h 0 (by omega) (by omega), holdB_e hw h hp, pondB_e h (x := (k : Int) % c 0) (y := (k : Int) / c 0) (by omega) (by omega)]
theorem plO_e (h : sndE c c') {p : Nat → Int} (hp : plO c' p) : plO c p := by
  intro k hk
  have := hp k (by rw [h 3 (by omega) (by omega)]; exact hk)
  unfold enB at this
  rw [h 2 (by omega) (by omega)] at this
  exact this
theorem plO_e2 (h : sndE c c') {p : Nat → Int} (hp : plO c p) : plO c' p := by
  intro k hk
  rw [h 3 (by omega) (by omega)] at hk
  have := hp k hk
  unfold enB
  rw [h 2 (by omega) (by omega)]
  exact this
theorem StT_e {s : Nat} {σ : SS} (hw : WH c) (h : sndE c c') (T : StT s c σ) : StT s c' σ := by
  constructor
  · intro b k hb hk
    rw [h 3 (by omega) (by omega)] at hb
    rw [h 0 (by omega) (by omega), h 1 (by omega) (by omega)] at hk
    rw [lossB_e h (by omega), h 0 (by omega) (by omega)]
    exact T.1 b k hb hk
  · intro q hq p hp hk b hb
    have hp2 := plO_e h hp
    rw [sndE_bn h] at hk
    rw [cellsB_e hw h hp2, sndE_nC h, gainB_e hw h hp2 _ (Nat.le_refl _)]
    exact T.2 q hq p hp2 hk b hb
theorem WB_hp (hw : WB c) (h : ∀ k, ¬ (46 ≤ k ∧ k < 52) → ¬ (58 ≤ k ∧ k < 64) → c' k = c k) (h2 : ∀ b : Int, 0 ≤ b → b < c 3 → (0 ≤ c' (46 + b).toNat ∧ c' (46 + b).toNat ≤ c (52 + b).toNat) ∧ (0 ≤ c' (58 + b).toNat ∧ c' (58 + b).toNat ≤ 2000000)) : WB c' := by
  obtain ⟨w1, w2, w3, w4⟩ := hw
  have e : ∀ k, k < 46 → c' k = c k := fun k hk => h k (by omega) (by omega)
  have e2 : ∀ k, 64 ≤ k → c' k = c k := fun k hk => h k (by omega) (by omega)
  refine ⟨?_, ?_, ?_, ?_⟩
  · unfold WH
    rw [e 0 (by omega), e 1 (by omega), e 2 (by omega), e 3 (by omega), e 4 (by omega), e 5 (by omega), e 6 (by omega), e 7 (by omega), e 8 (by omega), e 9 (by omega)]
    exact w1
  · intro t t0 t1
    rw [e 2 (by omega)] at t1
    unfold WTi
    rw [e (10 + t).toNat (by omega), e (16 + t).toNat (by omega), e (22 + t).toNat (by omega)]
    exact w2 t t0 t1
  · intro b b0 b1
    rw [e 3 (by omega)] at b1
    have ⟨d1, d2⟩ := w3 b b0 b1
    have q := h2 b b0 b1
    refine ⟨?_, fun k k0 k1 => ?_⟩
    · unfold WDi
      rw [e (28 + b).toNat (by omega), e (34 + b).toNat (by omega), e (40 + b).toNat (by omega), h (52 + b).toNat (by omega) (by omega), e2 (64 + b).toNat (by omega), e 0 (by omega), e 1 (by omega)]
      omega
    · unfold enB
      rw [e2 (64 + b).toNat (by omega)] at k1
      rw [e2 _ (by omega), e 2 (by omega)]
      exact d2 k k0 k1
  · intro k k0 k1
    rw [e2 _ (by omega), e 0 (by omega), e 1 (by omega)]
    exact w4 k k0 k1
theorem WB_7 (hw : WB c) {v : Int} (hv : 0 ≤ v ∧ v ≤ 12000) : WB (upc c 7 v) := by
  obtain ⟨w1, w2, w3, w4⟩ := hw
  have e : ∀ k, k ≠ 7 → upc c 7 v k = c k := fun k hk => upc_ne hk
  refine ⟨?_, ?_, ?_, ?_⟩
  · unfold WH
    rw [e 0 (by omega), e 1 (by omega), e 2 (by omega), e 3 (by omega), e 4 (by omega), e 5 (by omega), e 6 (by omega), upc_same, e 8 (by omega), e 9 (by omega)]
    omega
  · intro t t0 t1
    rw [e 2 (by omega)] at t1
    unfold WTi
    rw [e (10 + t).toNat (by omega), e (16 + t).toNat (by omega), e (22 + t).toNat (by omega)]
    exact w2 t t0 t1
  · intro b b0 b1
    rw [e 3 (by omega)] at b1
    have ⟨d1, d2⟩ := w3 b b0 b1
    refine ⟨?_, fun k k0 k1 => ?_⟩
    · unfold WDi
      rw [e (28 + b).toNat (by omega), e (34 + b).toNat (by omega), e (40 + b).toNat (by omega), e (46 + b).toNat (by omega), e (52 + b).toNat (by omega), e (58 + b).toNat (by omega), e (64 + b).toNat (by omega), e 0 (by omega), e 1 (by omega)]
      exact d1
    · unfold enB
      rw [e (64 + b).toNat (by omega)] at k1
      rw [e _ (by omega), e 2 (by omega)]
      exact d2 k k0 k1
  · intro k k0 k1
    rw [e _ (by omega), e 0 (by omega), e 1 (by omega)]
    exact w4 k k0 k1
end SND
def playP (c : Nat → Int) : Nat → Int := fun k => playB c k
theorem plO_P {c : Nat → Int} (hd : WD c) : plO c (playP c) := fun k hk => playB_en hd (by omega) hk
def hpB (c p : Nat → Int) (i : Nat) : Nat → Int := fun k => if 46 ≤ k ∧ k < 46 + i then lipsB c p ((k : Int) - 46) else if 58 ≤ k ∧ k < 58 + i then c k + gainB c p ((k : Int) - 58) (nC c) else c k
def hourB (c : Nat → Int) : Nat → Int := upc (hpB c (playP c) (bn3 c)) 7 (c 7 + 1)
def ptsB (c : Nat → Int) : Int := sumN (fun b => gainB c (playP c) b (nC c)) (bn3 c)
def hrN (c : Nat → Int) : Nat → Nat → Int
  | 0 => c
  | h + 1 => hourB (hrN c h)
def gotN (c : Nat → Int) : Nat → Int
  | 0 => 0
  | h + 1 => gotN c h + ptsB (hrN c h)
def sizN (t : Int) : Int := sumN (fun k => if andI (shrI t k) 1 = 1 then 1 else 0) 6
def tiN (c : Nat → Int) : Nat → Int
  | 0 => 0
  | h + 1 => tiN c h + sizN (tirB (hrN c h) (bn3 (hrN c h)))
theorem hpB_0 (c p : Nat → Int) : hpB c p 0 = c := by
  funext k
  unfold hpB
  rw [if_neg (by omega), if_neg (by omega)]
theorem hpB_s (c p : Nat → Int) {i : Nat} (hi : i < 6) : hpB c p (i + 1) = upc (upc (hpB c p i) (22 + 6 * 6 + i) (c (58 + (i : Int)).toNat + gainB c p i (nC c))) (22 + 6 * 4 + i) (lipsB c p i) := by
  funext k
  by_cases h1 : k = 22 + 6 * 4 + i
  · subst h1
    rw [upc_same]
    unfold hpB
    rw [if_pos (by omega)]
    congr 1
    omega
  · rw [upc_ne h1]
    by_cases h2 : k = 22 + 6 * 6 + i
    · subst h2
      rw [upc_same]
      unfold hpB
      rw [if_neg (by omega), if_pos (by omega)]
      have e1 : ((22 + 6 * 6 + i : Nat) : Int) - 58 = (i : Int) := by omega
      have e2 : 22 + 6 * 6 + i = (58 + (i : Int)).toNat := by omega
      rw [e1, ← e2]
    · rw [upc_ne h2]
      unfold hpB
      by_cases h3 : 46 ≤ k ∧ k < 46 + i
      · rw [if_pos h3, if_pos (by omega)]
      · rw [if_neg h3, if_neg (by omega)]
        by_cases h4 : 58 ≤ k ∧ k < 58 + i
        · rw [if_pos h4, if_pos (by omega)]
        · rw [if_neg h4, if_neg (by omega)]
theorem hpB_o {c p : Nat → Int} {i k : Nat} (h1 : ¬ (46 ≤ k ∧ k < 46 + i)) (h2 : ¬ (58 ≤ k ∧ k < 58 + i)) : hpB c p i k = c k := by
  unfold hpB
  rw [if_neg h1, if_neg h2]
section HB
variable {c : Nat → Int}
theorem hourB_o (hw : WH c) {k : Nat} (h : k ≠ 7) (h1 : ¬ (46 ≤ k ∧ k < 52)) (h2 : ¬ (58 ≤ k ∧ k < 64)) : hourB c k = c k := by
  have hn := bn3_c hw
  unfold hourB
  rw [upc_ne h, hpB_o (by omega) (by omega)]
theorem hourB_7 : hourB c 7 = c 7 + 1 := upc_same _ _ _
theorem hourB_l (hw : WH c) {b : Int} (b0 : 0 ≤ b) (b1 : b < c 3) : hourB c (46 + b).toNat = lipsB c (playP c) b := by
  have hn := bn3_c hw
  unfold hourB hpB
  rw [upc_ne (by omega), if_pos (by omega)]
  congr 1
  omega
theorem hourB_p (hw : WH c) {b : Int} (b0 : 0 ≤ b) (b1 : b < c 3) : hourB c (58 + b).toNat = c (58 + b).toNat + gainB c (playP c) b (nC c) := by
  have hn := bn3_c hw
  unfold hourB hpB
  rw [upc_ne (by omega), if_neg (by omega), if_pos (by omega)]
  congr 2
  omega
theorem lipsB_bd (hw : WB c) {b : Int} (b0 : 0 ≤ b) (b1 : b < c 3) : 0 ≤ lipsB c (playP c) b ∧ lipsB c (playP c) b ≤ c (52 + b).toNat := by
  have d1 := (hw.2.2.1 b b0 b1).1
  have hH := hw.1
  have en := wantB_en hw.2.2.1 (b := b) (h := c 7) b0 b1
  have e : playP c b.toNat = playB c b := by unfold playP; rw [Int.toNat_of_nonneg b0]
  unfold lipsB
  rw [e]
  by_cases g : playB c b < 6
  · rw [if_pos g]
    unfold playB at g ⊢
    by_cases g2 : wantB c b (c 7) < 6 ∧ c (16 + wantB c b (c 7)).toNat ≤ c (46 + b).toNat
    · rw [if_pos g2]
      have t1 := hw.2.1 (wantB c b (c 7)) (by omega) (by omega)
      omega
    · rw [if_neg g2] at g
      omega
  · rw [if_neg g]
    split <;> omega
theorem WB_hour (hw : WB c) (hq : WQ c) (h7 : c 7 < 12000) : WB (hourB c) ∧ WQ (hourB c) ∧ sndE c (hourB c) := by
  have hH := hw.1
  have hn := bn3_c hw.1
  have hN := nC_c hw.1
  refine ⟨?_, ?_, ?_⟩
  · refine WB_7 (WB_hp hw (fun k h1 h2 => hpB_o (by omega) (by omega)) (fun b b0 b1 => ?_)) (by omega)
    have l := lipsB_bd hw b0 b1
    have e1 := hourB_l hw.1 b0 b1
    have e2 := hourB_p hw.1 b0 b1
    unfold hourB at e1 e2
    rw [upc_ne (by omega)] at e1 e2
    have g := gainF_bd c (playP c) b (nC c)
    have q := hq b b0 b1
    have d1 := (hw.2.2.1 b b0 b1).1
    rw [e1, e2]
    omega
  · intro b b0 b1
    rw [hourB_o hw.1 (by omega) (by omega) (by omega)] at b1
    have g := gainF_bd c (playP c) b (nC c)
    have q := hq b b0 b1
    rw [hourB_p hw.1 b0 b1, hourB_7]
    omega
  · intro k k1 k2
    exact hourB_o hw.1 (by omega) (by omega) (by omega)
theorem sndE_t {c c' c'' : Nat → Int} (h : sndE c c') (h2 : sndE c' c'') : sndE c c'' := fun k k1 k2 => by rw [h2 k k1 k2, h k k1 k2]
theorem sndE_r : sndE c c := fun _ _ _ => rfl
theorem hrN_ok (hw : WB c) (hq : WQ c) : ∀ h : Nat, c 7 + h ≤ 12000 → WB (hrN c h) ∧ WQ (hrN c h) ∧ sndE c (hrN c h) ∧ hrN c h 7 = c 7 + h
  | 0, _ => ⟨hw, hq, sndE_r, by show c 7 = c 7 + 0; omega⟩
  | h + 1, h7 => by
    obtain ⟨a1, a2, a3, a4⟩ := hrN_ok hw hq h (by omega)
    obtain ⟨b1, b2, b3⟩ := WB_hour a1 a2 (by omega)
    refine ⟨b1, b2, sndE_t a3 b3, ?_⟩
    show hourB (hrN c h) 7 = _
    rw [hourB_7, a4]
    omega
theorem hrN_o (hw : WB c) (hq : WQ c) {k : Nat} (h0 : k ≠ 7) (h1 : ¬ (46 ≤ k ∧ k < 52)) (h2 : ¬ (58 ≤ k ∧ k < 64)) : ∀ h : Nat, c 7 + h ≤ 12000 → hrN c h k = c k
  | 0, _ => rfl
  | h + 1, h7 => by
    obtain ⟨a1, a2, a3, a4⟩ := hrN_ok hw hq h (by omega)
    show hourB (hrN c h) k = _
    rw [hourB_o a1.1 h0 h1 h2]
    exact hrN_o hw hq h0 h1 h2 h (by omega)
theorem sumN_b {f : Nat → Int} {B : Int} (hB : 0 ≤ B) {n m : Nat} (hm : n ≤ m) (h : ∀ k : Nat, k < n → 0 ≤ f k ∧ f k ≤ B) : 0 ≤ sumN f n ∧ sumN f n ≤ B * m := by
  have q := sumN_bd hB n h
  have e : B * (n : Int) ≤ B * (m : Int) := Int.mul_le_mul_of_nonneg_left (by omega) hB
  omega
theorem ptsB_bd (hw : WB c) : 0 ≤ ptsB c ∧ ptsB c ≤ 540 := by
  have hH := hw.1
  have hn := bn3_c hw.1
  have hN := nC_c hw.1
  have q := sumN_b (f := fun b => gainB c (playP c) b (nC c)) (B := 90) (n := bn3 c) (m := 6) (by omega) (by omega) (fun k _ => by
    have := gainF_bd c (playP c) k (nC c)
    show 0 ≤ gainB c (playP c) k (nC c) ∧ gainB c (playP c) k (nC c) ≤ 90
    omega)
  unfold ptsB
  omega
theorem gotN_bd (hw : WB c) (hq : WQ c) : ∀ h : Nat, c 7 + h ≤ 12000 → 0 ≤ gotN c h ∧ gotN c h ≤ 540 * h
  | 0, _ => by unfold gotN; omega
  | h + 1, h7 => by
    have a := gotN_bd hw hq h (by omega)
    have b := ptsB_bd (hrN_ok hw hq h (by omega)).1
    unfold gotN
    omega
end HB
theorem sizN_bd (t : Int) : 0 ≤ sizN t ∧ sizN t ≤ 6 := by
  have := sumN_bd (f := fun k => if andI (shrI t k) 1 = 1 then (1 : Int) else 0) (B := 1) (by omega) 6 (fun k _ => by show 0 ≤ (if andI (shrI t k) 1 = 1 then (1 : Int) else 0) ∧ (if andI (shrI t k) 1 = 1 then (1 : Int) else 0) ≤ 1; split <;> omega)
  unfold sizN
  omega
theorem or_64 : ∀ (t : Fin 64) (b : Fin 6), 0 ≤ orI (t.val : Int) (shlI 1 (b.val : Int)) ∧ orI (t.val : Int) (shlI 1 (b.val : Int)) < 64 := by decide +kernel
theorem tirB_64 (c : Nat → Int) : ∀ n : Nat, n ≤ 6 → 0 ≤ tirB c n ∧ tirB c n < 64
  | 0, _ => by unfold tirB; omega
  | n + 1, h => by
    have ih := tirB_64 c n (by omega)
    unfold tirB
    split
    · have := or_64 ⟨(tirB c n).toNat, by omega⟩ ⟨n, by omega⟩
      rw [Int.toNat_of_nonneg ih.1] at this
      exact this
    · exact ih
noncomputable def bcE (x : Int) : Int := match outV (B_bitCount ([x], [0], fun _ _ => 0)) with
  | some (r, _) => r
  | none => 0
theorem bc_F (x : Int) (σ : SS) : F_bitCount x σ = some (bcE x, σ) := rfl
theorem bc_all : ∀ t : Fin 64, bcE (t.val : Int) = sizN (t.val : Int) := by decide +kernel
theorem k_bitCount {t : Int} (h : 0 ≤ t ∧ t < 64) (σ : SS) : F_bitCount t σ = some (sizN t, σ) := by
  have := bc_all ⟨t.toNat, by omega⟩
  rw [Int.toNat_of_nonneg h.1] at this
  rw [bc_F, this]
theorem m_has (t k : Int) (σ : SS) : F_X12_has t k σ = some (bI (andI (shrI t k) 1 = 1), σ) := by
  try simp (disch := omega) only [F_X12_has, B_X12_has, Wd_some, Wd_bn, Wd_sqM, Wd_outV, Wd_blkM, Wd_swM, Wd_ite, Wd_map, v_kS_0, v_kS_b, v_kS_r, v_kO_r, v_kW_0, v_kW_1, v_kW_2, v_kW_r, v_kL_0, v_kL_1, v_kL_2, v_kL_r, v_kU_0, ups_11, upsN, upsA, upA_same, upA_neA, fl_at, fl_neA, v_sq_eq, v_sqM_0, v_sqM_r, v_sqM_b, v_sqM_n, sqM_ite, v_asI, v_asR, v_inc, v_pfI, v_pfZ, v_pfO, v_paI, v_paO, v_exI, v_iff, v_rtI, v_rtZ, v_rtV, v_sk, v_brk, v_cnt, v_blk_eq, v_blkM_some, blkM_ite, v_lI, v_lR, v_cI, v_gI, v_gR, v_op1, v_op2, v_arI, v_arR, v_alen, v_tern, v_cmp1, v_cmp2, v_cAnd, v_cOr, v_cNot, v_cTern, v_bn_some, bn_ite, v_bn_none, v_outV_r, v_outV_0, v_outV_n, outV_ite, List.getD_cons_zero, List.getD_cons_succ, List.set_cons_zero, List.set_cons_succ, List.take_succ_cons, List.take_zero, List.drop_succ_cons, List.drop_zero, List.nil_append, List.cons_append, Option.map_some, Option.map_none, if_true, if_false, reduceIte, reduceCtorEq, decide_eq_true_eq, Bool.not_eq_true', decide_eq_false_iff_not, decide_eq_true, decide_eq_false, decide_true, decide_false, and_self, and_true, true_and, or_self, stO, v_caV_, v_caV_i, v_caV_ii, v_caV_iii, v_caV_iiii, v_caV_iiiii, v_caV_il, v_caV_iil, v_caV_l, v_caV_ll, v_caV_r, v_caV_ri, v_caV_rii, v_caV_riii, v_caV_riiii, v_caV_ir, v_caV_iri, v_caV_iiri, v_caS_i, v_caS_ii, v_caS_iii, v_caS_iiii, v_caS_iiiiii, v_caS_il, v_caS_li, v_caS_ll, v_caS_lll, v_caS_ri, v_caS_riii, sh_239, sh_240, sh_241, sh_242, sh_243, sh_244, sh_245, sh_246, sh_247, sh_248, sh_249, sh_250, sh_251, sh_252, sh_253, rf_239_4, rf_239_5, rf_239_6, rf_239_7, rf_239_20, rf_239_21, rf_239_22, rf_239_23, rf_239_27, rf_239_28, rf_239_32, rf_239_33, rf_239_34, rf_239_35, Int.reduceLE, Int.reduceLT, Int.reduceToNat, Int.reduceAdd, Int.reduceSub, Int.reduceMul, Int.reduceNeg, Int.reduceEq, Int.reduceNe, Nat.reduceAdd, Nat.reduceMul, Nat.reduceLT, Nat.reduceEqDiff, or_true, true_or, or_false, false_or, and_false, false_and, not_true_eq_false, not_false_eq_true, ne_eq, cN4, cN5, cN6, cN7, cN13, cN30, cN60, cN64, cN100, cN136, cN240, cN384, cN900, cN2040, cN3, v_sw_eq, v_swM_0, v_swM_1, v_swM_r, v_swM_n, swM_ite, app_ite, ex_some, bI_0, bI_1, nn_iff, Int.toNat_natCast, Int.toNat_of_nonneg, Int.natCast_add, cN1, if_pos, if_neg]
  try unfold bI
  repeat' split
  all_goals first | rfl | omega | (exfalso; omega)
theorem ml_sizeOf (t : Int) (σ : SS) : L_X12_sizeOf_0 ([t, 0, 0], [0, 0, 0], σ) = some (.inl 0, ([t, sizN t, 6], [0, 0, 0], σ)) := by
  refine Wd_out ?_
  unfold L_X12_sizeOf_0
  refine Wd_it (fun i z => z = ([t, sumN (fun k => if andI (shrI t k) 1 = 1 then 1 else 0) i, (i : Int)], [0, 0, 0], σ)) 6 rfl ?_ ?_
  · intro i z hi hz
    subst hz
    have b := sumN_bd (f := fun k => if andI (shrI t k) 1 = 1 then (1 : Int) else 0) (B := 1) (by omega) i (fun k _ => by show 0 ≤ (if andI (shrI t k) 1 = 1 then (1 : Int) else 0) ∧ (if andI (shrI t k) 1 = 1 then (1 : Int) else 0) ≤ 1; split <;> omega)
    have s1 : sumN (fun k => if andI (shrI t k) 1 = 1 then (1 : Int) else 0) (i + 1) = sumN (fun k => if andI (shrI t k) 1 = 1 then (1 : Int) else 0) i + (if andI (shrI t i) 1 = 1 then 1 else 0) := rfl
    by_cases g : andI (shrI t i) 1 = 1
    · rw [if_pos g] at s1
      try simp (disch := omega) only [C_X12_sizeOf_0, D_X12_sizeOf_0, U_X12_sizeOf_0, m_has, g, Wd_some, Wd_bn, Wd_sqM, Wd_outV, Wd_blkM, Wd_swM, Wd_ite, Wd_map, v_kS_0, v_kS_b, v_kS_r, v_kO_r, v_kW_0, v_kW_1, v_kW_2, v_kW_r, v_kL_0, v_kL_1, v_kL_2, v_kL_r, v_kU_0, ups_11, upsN, upsA, upA_same, upA_neA, fl_at, fl_neA, v_sq_eq, v_sqM_0, v_sqM_r, v_sqM_b, v_sqM_n, sqM_ite, v_asI, v_asR, v_inc, v_pfI, v_pfZ, v_pfO, v_paI, v_paO, v_exI, v_iff, v_rtI, v_rtZ, v_rtV, v_sk, v_brk, v_cnt, v_blk_eq, v_blkM_some, blkM_ite, v_lI, v_lR, v_cI, v_gI, v_gR, v_op1, v_op2, v_arI, v_arR, v_alen, v_tern, v_cmp1, v_cmp2, v_cAnd, v_cOr, v_cNot, v_cTern, v_bn_some, bn_ite, v_bn_none, v_outV_r, v_outV_0, v_outV_n, outV_ite, List.getD_cons_zero, List.getD_cons_succ, List.set_cons_zero, List.set_cons_succ, List.take_succ_cons, List.take_zero, List.drop_succ_cons, List.drop_zero, List.nil_append, List.cons_append, Option.map_some, Option.map_none, if_true, if_false, reduceIte, reduceCtorEq, decide_eq_true_eq, Bool.not_eq_true', decide_eq_false_iff_not, decide_eq_true, decide_eq_false, decide_true, decide_false, and_self, and_true, true_and, or_self, stO, v_caV_, v_caV_i, v_caV_ii, v_caV_iii, v_caV_iiii, v_caV_iiiii, v_caV_il, v_caV_iil, v_caV_l, v_caV_ll, v_caV_r, v_caV_ri, v_caV_rii, v_caV_riii, v_caV_riiii, v_caV_ir, v_caV_iri, v_caV_iiri, v_caS_i, v_caS_ii, v_caS_iii, v_caS_iiii, v_caS_iiiiii, v_caS_il, v_caS_li, v_caS_ll, v_caS_lll, v_caS_ri, v_caS_riii, sh_239, sh_240, sh_241, sh_242, sh_243, sh_244, sh_245, sh_246, sh_247, sh_248, sh_249, sh_250, sh_251, sh_252, sh_253, rf_239_4, rf_239_5, rf_239_6, rf_239_7, rf_239_20, rf_239_21, rf_239_22, rf_239_23, rf_239_27, rf_239_28, rf_239_32, rf_239_33, rf_239_34, rf_239_35, Int.reduceLE, Int.reduceLT, Int.reduceToNat, Int.reduceAdd, Int.reduceSub, Int.reduceMul, Int.reduceNeg, Int.reduceEq, Int.reduceNe, Nat.reduceAdd, Nat.reduceMul, Nat.reduceLT, Nat.reduceEqDiff, or_true, true_or, or_false, false_or, and_false, false_and, not_true_eq_false, not_false_eq_true, ne_eq, cN4, cN5, cN6, cN7, cN13, cN30, cN60, cN64, cN100, cN136, cN240, cN384, cN900, cN2040, cN3, v_sw_eq, v_swM_0, v_swM_1, v_swM_r, v_swM_n, swM_ite, app_ite, ex_some, bI_0, bI_1, nn_iff, Int.toNat_natCast, Int.toNat_of_nonneg, Int.natCast_add, cN1, wI_id2, wL_id2, if_pos, if_neg]
      rw [s1]
    · rw [if_neg g] at s1
      try simp (disch := omega) only [C_X12_sizeOf_0, D_X12_sizeOf_0, U_X12_sizeOf_0, m_has, g, Wd_some, Wd_bn, Wd_sqM, Wd_outV, Wd_blkM, Wd_swM, Wd_ite, Wd_map, v_kS_0, v_kS_b, v_kS_r, v_kO_r, v_kW_0, v_kW_1, v_kW_2, v_kW_r, v_kL_0, v_kL_1, v_kL_2, v_kL_r, v_kU_0, ups_11, upsN, upsA, upA_same, upA_neA, fl_at, fl_neA, v_sq_eq, v_sqM_0, v_sqM_r, v_sqM_b, v_sqM_n, sqM_ite, v_asI, v_asR, v_inc, v_pfI, v_pfZ, v_pfO, v_paI, v_paO, v_exI, v_iff, v_rtI, v_rtZ, v_rtV, v_sk, v_brk, v_cnt, v_blk_eq, v_blkM_some, blkM_ite, v_lI, v_lR, v_cI, v_gI, v_gR, v_op1, v_op2, v_arI, v_arR, v_alen, v_tern, v_cmp1, v_cmp2, v_cAnd, v_cOr, v_cNot, v_cTern, v_bn_some, bn_ite, v_bn_none, v_outV_r, v_outV_0, v_outV_n, outV_ite, List.getD_cons_zero, List.getD_cons_succ, List.set_cons_zero, List.set_cons_succ, List.take_succ_cons, List.take_zero, List.drop_succ_cons, List.drop_zero, List.nil_append, List.cons_append, Option.map_some, Option.map_none, if_true, if_false, reduceIte, reduceCtorEq, decide_eq_true_eq, Bool.not_eq_true', decide_eq_false_iff_not, decide_eq_true, decide_eq_false, decide_true, decide_false, and_self, and_true, true_and, or_self, stO, v_caV_, v_caV_i, v_caV_ii, v_caV_iii, v_caV_iiii, v_caV_iiiii, v_caV_il, v_caV_iil, v_caV_l, v_caV_ll, v_caV_r, v_caV_ri, v_caV_rii, v_caV_riii, v_caV_riiii, v_caV_ir, v_caV_iri, v_caV_iiri, v_caS_i, v_caS_ii, v_caS_iii, v_caS_iiii, v_caS_iiiiii, v_caS_il, v_caS_li, v_caS_ll, v_caS_lll, v_caS_ri, v_caS_riii, sh_239, sh_240, sh_241, sh_242, sh_243, sh_244, sh_245, sh_246, sh_247, sh_248, sh_249, sh_250, sh_251, sh_252, sh_253, rf_239_4, rf_239_5, rf_239_6, rf_239_7, rf_239_20, rf_239_21, rf_239_22, rf_239_23, rf_239_27, rf_239_28, rf_239_32, rf_239_33, rf_239_34, rf_239_35, Int.reduceLE, Int.reduceLT, Int.reduceToNat, Int.reduceAdd, Int.reduceSub, Int.reduceMul, Int.reduceNeg, Int.reduceEq, Int.reduceNe, Nat.reduceAdd, Nat.reduceMul, Nat.reduceLT, Nat.reduceEqDiff, or_true, true_or, or_false, false_or, and_false, false_and, not_true_eq_false, not_false_eq_true, ne_eq, cN4, cN5, cN6, cN7, cN13, cN30, cN60, cN64, cN100, cN136, cN240, cN384, cN900, cN2040, cN3, v_sw_eq, v_swM_0, v_swM_1, v_swM_r, v_swM_n, swM_ite, app_ite, ex_some, bI_0, bI_1, nn_iff, Int.toNat_natCast, Int.toNat_of_nonneg, Int.natCast_add, cN1, wI_id2, wL_id2, if_pos, if_neg]
      rw [s1, Int.add_zero]
  · intro z hz
    subst hz
    try simp (disch := omega) only [C_X12_sizeOf_0, D_X12_sizeOf_0, U_X12_sizeOf_0, Wd_some, Wd_bn, Wd_sqM, Wd_outV, Wd_blkM, Wd_swM, Wd_ite, Wd_map, v_kS_0, v_kS_b, v_kS_r, v_kO_r, v_kW_0, v_kW_1, v_kW_2, v_kW_r, v_kL_0, v_kL_1, v_kL_2, v_kL_r, v_kU_0, ups_11, upsN, upsA, upA_same, upA_neA, fl_at, fl_neA, v_sq_eq, v_sqM_0, v_sqM_r, v_sqM_b, v_sqM_n, sqM_ite, v_asI, v_asR, v_inc, v_pfI, v_pfZ, v_pfO, v_paI, v_paO, v_exI, v_iff, v_rtI, v_rtZ, v_rtV, v_sk, v_brk, v_cnt, v_blk_eq, v_blkM_some, blkM_ite, v_lI, v_lR, v_cI, v_gI, v_gR, v_op1, v_op2, v_arI, v_arR, v_alen, v_tern, v_cmp1, v_cmp2, v_cAnd, v_cOr, v_cNot, v_cTern, v_bn_some, bn_ite, v_bn_none, v_outV_r, v_outV_0, v_outV_n, outV_ite, List.getD_cons_zero, List.getD_cons_succ, List.set_cons_zero, List.set_cons_succ, List.take_succ_cons, List.take_zero, List.drop_succ_cons, List.drop_zero, List.nil_append, List.cons_append, Option.map_some, Option.map_none, if_true, if_false, reduceIte, reduceCtorEq, decide_eq_true_eq, Bool.not_eq_true', decide_eq_false_iff_not, decide_eq_true, decide_eq_false, decide_true, decide_false, and_self, and_true, true_and, or_self, stO, v_caV_, v_caV_i, v_caV_ii, v_caV_iii, v_caV_iiii, v_caV_iiiii, v_caV_il, v_caV_iil, v_caV_l, v_caV_ll, v_caV_r, v_caV_ri, v_caV_rii, v_caV_riii, v_caV_riiii, v_caV_ir, v_caV_iri, v_caV_iiri, v_caS_i, v_caS_ii, v_caS_iii, v_caS_iiii, v_caS_iiiiii, v_caS_il, v_caS_li, v_caS_ll, v_caS_lll, v_caS_ri, v_caS_riii, sh_239, sh_240, sh_241, sh_242, sh_243, sh_244, sh_245, sh_246, sh_247, sh_248, sh_249, sh_250, sh_251, sh_252, sh_253, rf_239_4, rf_239_5, rf_239_6, rf_239_7, rf_239_20, rf_239_21, rf_239_22, rf_239_23, rf_239_27, rf_239_28, rf_239_32, rf_239_33, rf_239_34, rf_239_35, Int.reduceLE, Int.reduceLT, Int.reduceToNat, Int.reduceAdd, Int.reduceSub, Int.reduceMul, Int.reduceNeg, Int.reduceEq, Int.reduceNe, Nat.reduceAdd, Nat.reduceMul, Nat.reduceLT, Nat.reduceEqDiff, or_true, true_or, or_false, false_or, and_false, false_and, not_true_eq_false, not_false_eq_true, ne_eq, cN4, cN5, cN6, cN7, cN13, cN30, cN60, cN64, cN100, cN136, cN240, cN384, cN900, cN2040, cN3, v_sw_eq, v_swM_0, v_swM_1, v_swM_r, v_swM_n, swM_ite, app_ite, ex_some, bI_0, bI_1, nn_iff, Int.toNat_natCast, Int.toNat_of_nonneg, Int.natCast_add, cN1, wI_id2, wL_id2, if_pos, if_neg]
    rfl
theorem m_sizeOf (t : Int) (σ : SS) : F_X12_sizeOf t σ = some (sizN t, σ) := by
  try simp (disch := omega) only [F_X12_sizeOf, E_X12_sizeOf, ml_sizeOf, Wd_some, Wd_bn, Wd_sqM, Wd_outV, Wd_blkM, Wd_swM, Wd_ite, Wd_map, v_kS_0, v_kS_b, v_kS_r, v_kO_r, v_kW_0, v_kW_1, v_kW_2, v_kW_r, v_kL_0, v_kL_1, v_kL_2, v_kL_r, v_kU_0, ups_11, upsN, upsA, upA_same, upA_neA, fl_at, fl_neA, v_sq_eq, v_sqM_0, v_sqM_r, v_sqM_b, v_sqM_n, sqM_ite, v_asI, v_asR, v_inc, v_pfI, v_pfZ, v_pfO, v_paI, v_paO, v_exI, v_iff, v_rtI, v_rtZ, v_rtV, v_sk, v_brk, v_cnt, v_blk_eq, v_blkM_some, blkM_ite, v_lI, v_lR, v_cI, v_gI, v_gR, v_op1, v_op2, v_arI, v_arR, v_alen, v_tern, v_cmp1, v_cmp2, v_cAnd, v_cOr, v_cNot, v_cTern, v_bn_some, bn_ite, v_bn_none, v_outV_r, v_outV_0, v_outV_n, outV_ite, List.getD_cons_zero, List.getD_cons_succ, List.set_cons_zero, List.set_cons_succ, List.take_succ_cons, List.take_zero, List.drop_succ_cons, List.drop_zero, List.nil_append, List.cons_append, Option.map_some, Option.map_none, if_true, if_false, reduceIte, reduceCtorEq, decide_eq_true_eq, Bool.not_eq_true', decide_eq_false_iff_not, decide_eq_true, decide_eq_false, decide_true, decide_false, and_self, and_true, true_and, or_self, stO, v_caV_, v_caV_i, v_caV_ii, v_caV_iii, v_caV_iiii, v_caV_iiiii, v_caV_il, v_caV_iil, v_caV_l, v_caV_ll, v_caV_r, v_caV_ri, v_caV_rii, v_caV_riii, v_caV_riiii, v_caV_ir, v_caV_iri, v_caV_iiri, v_caS_i, v_caS_ii, v_caS_iii, v_caS_iiii, v_caS_iiiiii, v_caS_il, v_caS_li, v_caS_ll, v_caS_lll, v_caS_ri, v_caS_riii, sh_239, sh_240, sh_241, sh_242, sh_243, sh_244, sh_245, sh_246, sh_247, sh_248, sh_249, sh_250, sh_251, sh_252, sh_253, rf_239_4, rf_239_5, rf_239_6, rf_239_7, rf_239_20, rf_239_21, rf_239_22, rf_239_23, rf_239_27, rf_239_28, rf_239_32, rf_239_33, rf_239_34, rf_239_35, Int.reduceLE, Int.reduceLT, Int.reduceToNat, Int.reduceAdd, Int.reduceSub, Int.reduceMul, Int.reduceNeg, Int.reduceEq, Int.reduceNe, Nat.reduceAdd, Nat.reduceMul, Nat.reduceLT, Nat.reduceEqDiff, or_true, true_or, or_false, false_or, and_false, false_and, not_true_eq_false, not_false_eq_true, ne_eq, cN4, cN5, cN6, cN7, cN13, cN30, cN60, cN64, cN100, cN136, cN240, cN384, cN900, cN2040, cN3, v_sw_eq, v_swM_0, v_swM_1, v_swM_r, v_swM_n, swM_ite, app_ite, ex_some, bI_0, bI_1, nn_iff, Int.toNat_natCast, Int.toNat_of_nonneg, Int.natCast_add, cN1, wI_id2, wL_id2, if_pos, if_neg]
/-! the class: hours go by -/
theorem WH_up {c : Nat → Int} {k : Nat} {v : Int} (hk : 10 ≤ k) (hw : WH c) : WH (upc c k v) := by
  unfold WH
  rw [upc_ne (by omega), upc_ne (by omega), upc_ne (by omega), upc_ne (by omega), upc_ne (by omega), upc_ne (by omega), upc_ne (by omega), upc_ne (by omega), upc_ne (by omega), upc_ne (by omega)]
  exact hw
theorem kT_c2 {σ σ' : SS} {a : Nat} {c w : Nat → Int} (hw : WH c) (h : ∀ x, a + 11 ≤ x → x < a + 17 → σ' x = σ x) (H : kT σ a c w) : kT σ' a c w := by
  intro b hb
  rw [h (a + 11 + b) (by omega) (by omega)]
  exact H b hb
section KP
variable {σ : SS} {s : Nat} {c w : Nat → Int}
def Ph1 (s : Nat) (c w : Nat → Int) (q : Nat) (n h got : Int) (σ : SS) (i : Nat) (z : ZZ) : Prop := ∃ σ' : SS, z = ([0, n, got + sumN (fun b => gainB c (playP c) b (nC c)) i, h, (q : Int), (i : Int), 0, 0], [s, 0, 0, 0, 0, 0, 0, 0], σ') ∧ (∀ a, ¬ (s + 18 ≤ a ∧ a < s + 30) → σ' a = σ a) ∧ PkS σ' (s + 1) (hpB c (playP c) i) w
theorem kb_pass1 (hs : isS s) {i : Nat} (hi : i < 6) (n h q got p v4 v5 v6 gn tl rs : Int) (eg : F_X6_gainIn (s + 30) q i σ = some (gn, σ)) (e41 : σ (s + 41) i = p) (e4 : σ (s + 1 + 17 + 2 * i) 4 = v4) (e5 : σ (s + 1 + 17 + 2 * i) 5 = v5) (e6 : σ (s + 1 + 17 + 2 * i) 6 = v6) (er : σ (s + 1) 3 = rs) (et : F_X3_tollOf (s + 1) p (ups σ (s + 1 + 17 + 2 * i) 6 (v6 + gn)) = some (tl, ups σ (s + 1 + 17 + 2 * i) 6 (v6 + gn))) (b4 : 0 ≤ v4 ∧ v4 ≤ 99) (b5 : 0 ≤ v5 ∧ v5 ≤ 99) (b6 : 0 ≤ v6 ∧ v6 ≤ 2000000) (bg : 0 ≤ gn ∧ gn ≤ 90) (bt : 0 ≤ tl ∧ tl ≤ 9) (br : 0 ≤ rs ∧ rs ≤ 9) (bo : 0 ≤ got ∧ got ≤ 3000000) : D_X7_passHours_1 ([0, n, got, h, q, (i : Int), 0, 0], [s, 0, 0, 0, 0, 0, 0, 0], σ) = some (.inl 0, ([0, n, got + gn, h, q, (i : Int), 0, 0], [s, 0, 0, 0, 0, 0, 0, 0], ups (ups σ (s + 1 + 17 + 2 * i) 6 (v6 + gn)) (s + 1 + 17 + 2 * i) 4 (if p = 6 then (if v4 + rs < v5 then v4 + rs else v5) else v4 - tl))) := by
  refine Wd_out ?_
  by_cases g6 : p = 6
  · subst g6
    rw [if_pos rfl]
    try simp (disch := omega) only [D_X7_passHours_1, F_X0_lipsAfter, B_X0_lipsAfter, S_s hs, S_r0 hs, S_r1 hs, S_r2 hs, S_q hs, S_q0 hs, S_q1 hs, S_q2 hs, S_q3 hs, S_q4 hs, S_l hs, S_k hs, S_w hs, S_n hs, S_y hs, S_rl hs, S_sl hs, P_a (S_P hs), P_1 (S_P hs), P_2 (S_P hs), P_3 (S_P hs), P_4 (S_P hs), P_5 (S_P hs), P_6 (S_P hs), P_7 (S_P hs), P_8 (S_P hs), P_9 (S_P hs), P_10 (S_P hs), P_t (S_P hs), P_b (S_P hs), P_g (S_P hs), P_r8 (S_P hs), P_r10 (S_P hs), P_r12 (S_P hs), P_r13 (S_P hs), P_e2 (S_P hs), P_e3 (S_P hs), P_e4 (S_P hs), P_e5 (S_P hs), P_e6 (S_P hs), P_e7 (S_P hs), P_rt (S_P hs), P_rb (S_P hs), P_rg (S_P hs), eg, e41, e4, e5, e6, er, et, Wd_some, Wd_bn, Wd_sqM, Wd_outV, Wd_blkM, Wd_swM, Wd_ite, Wd_map, v_kS_0, v_kS_b, v_kS_r, v_kO_r, v_kW_0, v_kW_1, v_kW_2, v_kW_r, v_kL_0, v_kL_1, v_kL_2, v_kL_r, v_kU_0, ups_11, upsN, upsA, upA_same, upA_neA, fl_at, fl_neA, v_sq_eq, v_sqM_0, v_sqM_r, v_sqM_b, v_sqM_n, sqM_ite, v_asI, v_asR, v_inc, v_pfI, v_pfZ, v_pfO, v_paI, v_paO, v_exI, v_iff, v_rtI, v_rtZ, v_rtV, v_sk, v_brk, v_cnt, v_blk_eq, v_blkM_some, blkM_ite, v_lI, v_lR, v_cI, v_gI, v_gR, v_op1, v_op2, v_arI, v_arR, v_alen, v_tern, v_cmp1, v_cmp2, v_cAnd, v_cOr, v_cNot, v_cTern, v_bn_some, bn_ite, v_bn_none, v_outV_r, v_outV_0, v_outV_n, outV_ite, List.getD_cons_zero, List.getD_cons_succ, List.set_cons_zero, List.set_cons_succ, List.take_succ_cons, List.take_zero, List.drop_succ_cons, List.drop_zero, List.nil_append, List.cons_append, Option.map_some, Option.map_none, if_true, if_false, reduceIte, reduceCtorEq, decide_eq_true_eq, Bool.not_eq_true', decide_eq_false_iff_not, decide_eq_true, decide_eq_false, decide_true, decide_false, and_self, and_true, true_and, or_self, stO, v_caV_, v_caV_i, v_caV_ii, v_caV_iii, v_caV_iiii, v_caV_iiiii, v_caV_il, v_caV_iil, v_caV_l, v_caV_ll, v_caV_r, v_caV_ri, v_caV_rii, v_caV_riii, v_caV_riiii, v_caV_ir, v_caV_iri, v_caV_iiri, v_caS_i, v_caS_ii, v_caS_iii, v_caS_iiii, v_caS_iiiiii, v_caS_il, v_caS_li, v_caS_ll, v_caS_lll, v_caS_ri, v_caS_riii, sh_239, sh_240, sh_241, sh_242, sh_243, sh_244, sh_245, sh_246, sh_247, sh_248, sh_249, sh_250, sh_251, sh_252, sh_253, rf_239_4, rf_239_5, rf_239_6, rf_239_7, rf_239_20, rf_239_21, rf_239_22, rf_239_23, rf_239_27, rf_239_28, rf_239_32, rf_239_33, rf_239_34, rf_239_35, Int.reduceLE, Int.reduceLT, Int.reduceToNat, Int.reduceAdd, Int.reduceSub, Int.reduceMul, Int.reduceNeg, Int.reduceEq, Int.reduceNe, Nat.reduceAdd, Nat.reduceMul, Nat.reduceLT, Nat.reduceEqDiff, or_true, true_or, or_false, false_or, and_false, false_and, not_true_eq_false, not_false_eq_true, ne_eq, cN4, cN5, cN6, cN7, cN13, cN30, cN60, cN64, cN100, cN136, cN240, cN384, cN900, cN2040, cN3, v_sw_eq, v_swM_0, v_swM_1, v_swM_r, v_swM_n, swM_ite, app_ite, ex_some, bI_0, bI_1, nn_iff, Int.toNat_natCast, Int.toNat_of_nonneg, Int.natCast_add, cN1, wI_id2, wL_id2, if_pos, if_neg]
  · rw [if_neg g6]
    try simp (disch := omega) only [D_X7_passHours_1, F_X0_lipsAfter, B_X0_lipsAfter, S_s hs, S_r0 hs, S_r1 hs, S_r2 hs, S_q hs, S_q0 hs, S_q1 hs, S_q2 hs, S_q3 hs, S_q4 hs, S_l hs, S_k hs, S_w hs, S_n hs, S_y hs, S_rl hs, S_sl hs, P_a (S_P hs), P_1 (S_P hs), P_2 (S_P hs), P_3 (S_P hs), P_4 (S_P hs), P_5 (S_P hs), P_6 (S_P hs), P_7 (S_P hs), P_8 (S_P hs), P_9 (S_P hs), P_10 (S_P hs), P_t (S_P hs), P_b (S_P hs), P_g (S_P hs), P_r8 (S_P hs), P_r10 (S_P hs), P_r12 (S_P hs), P_r13 (S_P hs), P_e2 (S_P hs), P_e3 (S_P hs), P_e4 (S_P hs), P_e5 (S_P hs), P_e6 (S_P hs), P_e7 (S_P hs), P_rt (S_P hs), P_rb (S_P hs), P_rg (S_P hs), eg, e41, g6, e4, e5, e6, er, et, Wd_some, Wd_bn, Wd_sqM, Wd_outV, Wd_blkM, Wd_swM, Wd_ite, Wd_map, v_kS_0, v_kS_b, v_kS_r, v_kO_r, v_kW_0, v_kW_1, v_kW_2, v_kW_r, v_kL_0, v_kL_1, v_kL_2, v_kL_r, v_kU_0, ups_11, upsN, upsA, upA_same, upA_neA, fl_at, fl_neA, v_sq_eq, v_sqM_0, v_sqM_r, v_sqM_b, v_sqM_n, sqM_ite, v_asI, v_asR, v_inc, v_pfI, v_pfZ, v_pfO, v_paI, v_paO, v_exI, v_iff, v_rtI, v_rtZ, v_rtV, v_sk, v_brk, v_cnt, v_blk_eq, v_blkM_some, blkM_ite, v_lI, v_lR, v_cI, v_gI, v_gR, v_op1, v_op2, v_arI, v_arR, v_alen, v_tern, v_cmp1, v_cmp2, v_cAnd, v_cOr, v_cNot, v_cTern, v_bn_some, bn_ite, v_bn_none, v_outV_r, v_outV_0, v_outV_n, outV_ite, List.getD_cons_zero, List.getD_cons_succ, List.set_cons_zero, List.set_cons_succ, List.take_succ_cons, List.take_zero, List.drop_succ_cons, List.drop_zero, List.nil_append, List.cons_append, Option.map_some, Option.map_none, if_true, if_false, reduceIte, reduceCtorEq, decide_eq_true_eq, Bool.not_eq_true', decide_eq_false_iff_not, decide_eq_true, decide_eq_false, decide_true, decide_false, and_self, and_true, true_and, or_self, stO, v_caV_, v_caV_i, v_caV_ii, v_caV_iii, v_caV_iiii, v_caV_iiiii, v_caV_il, v_caV_iil, v_caV_l, v_caV_ll, v_caV_r, v_caV_ri, v_caV_rii, v_caV_riii, v_caV_riiii, v_caV_ir, v_caV_iri, v_caV_iiri, v_caS_i, v_caS_ii, v_caS_iii, v_caS_iiii, v_caS_iiiiii, v_caS_il, v_caS_li, v_caS_ll, v_caS_lll, v_caS_ri, v_caS_riii, sh_239, sh_240, sh_241, sh_242, sh_243, sh_244, sh_245, sh_246, sh_247, sh_248, sh_249, sh_250, sh_251, sh_252, sh_253, rf_239_4, rf_239_5, rf_239_6, rf_239_7, rf_239_20, rf_239_21, rf_239_22, rf_239_23, rf_239_27, rf_239_28, rf_239_32, rf_239_33, rf_239_34, rf_239_35, Int.reduceLE, Int.reduceLT, Int.reduceToNat, Int.reduceAdd, Int.reduceSub, Int.reduceMul, Int.reduceNeg, Int.reduceEq, Int.reduceNe, Nat.reduceAdd, Nat.reduceMul, Nat.reduceLT, Nat.reduceEqDiff, or_true, true_or, or_false, false_or, and_false, false_and, not_true_eq_false, not_false_eq_true, ne_eq, cN4, cN5, cN6, cN7, cN13, cN30, cN60, cN64, cN100, cN136, cN240, cN384, cN900, cN2040, cN3, v_sw_eq, v_swM_0, v_swM_1, v_swM_r, v_swM_n, swM_ite, app_ite, ex_some, bI_0, bI_1, nn_iff, Int.toNat_natCast, Int.toNat_of_nonneg, Int.natCast_add, cN1, wI_id2, wL_id2, if_pos, if_neg]
theorem kl_pass1 (hs : isS s) (P : PkS σ (s + 1) c w) (hw : WB c) (hL : LkS s c σ) {q : Nat} (hq : SlR s c (playP c) q σ) (n h got : Int) (hg : 0 ≤ got ∧ got ≤ 2000000) : Wd (L_X7_passHours_1 ([0, n, got, h, (q : Int), 0, 0, 0], [s, 0, 0, 0, 0, 0, 0, 0], σ)) (fun o z => o = .inl 0 ∧ Ph1 s c w q n h got σ (bn3 c) z) := by
  have hn := bn3_c hw.1
  have hN := nC_c hw.1
  have hH := hw.1
  unfold L_X7_passHours_1
  refine Wd_it (Ph1 s c w q n h got σ) (bn3 c) ⟨σ, by show _ = ([0, n, got + 0, h, (q : Int), 0, 0, 0], _, _); rw [Int.add_zero], fun _ _ => rfl, by rw [hpB_0]; exact P⟩ ?_ ?_
  · intro i z hi hz
    obtain ⟨σ1, hz, f1, f2⟩ := hz
    subst hz
    have d1 := (hw.2.2.1 i (by omega) (by omega)).1
    have H' : kH σ1 (s + 1) c := kH_c (f1 _ (by omega)) P.1
    have T' : kT σ1 (s + 1) c w := by
      intro t ht
      rw [f1 _ (by omega)]
      exact P.2.1 t ht
    have en := plO_P hw.2.2.1 i (by omega)
    have e41 : σ1 (s + 41) i = playP c i := by
      rw [f1 _ (by omega), hL.2.2.2 i (by omega), if_pos (by omega)]
      rfl
    have eg := k_gainIn (σ := σ1) hs hq.1 (show i < 6 by omega)
    rw [f1 (s + 40) (by omega), (hq.2 i (by omega)).2] at eg
    have g := gainF_bd c (playP c) i (nC c)
    have gs := sumN_b (f := fun b => gainB c (playP c) b (nC c)) (B := 90) (n := i) (m := 6) (by omega) (by omega) (fun k _ => by
      have := gainF_bd c (playP c) k (nC c)
      show 0 ≤ gainB c (playP c) k (nC c) ∧ gainB c (playP c) k (nC c) ≤ 90
      omega)
    have ss : sumN (fun b => gainB c (playP c) b (nC c)) (i + 1) = sumN (fun b => gainB c (playP c) b (nC c)) i + gainB c (playP c) i (nC c) := rfl
    have B' := f2.2.2.1
    have hb3 : (i : Int) < hpB c (playP c) i 3 := by rw [hpB_o (by omega) (by omega)]; omega
    have v4 := kB_4 B' i hb3
    have v5 := kB_5 B' i hb3
    have v6 := kB_6 B' i hb3
    rw [hpB_o (by omega) (by omega)] at v4 v5 v6
    have W' : WH (hpB c (playP c) i) := by
      unfold WH
      rw [hpB_o (by omega) (by omega), hpB_o (by omega) (by omega), hpB_o (by omega) (by omega), hpB_o (by omega) (by omega), hpB_o (by omega) (by omega), hpB_o (by omega) (by omega), hpB_o (by omega) (by omega), hpB_o (by omega) (by omega), hpB_o (by omega) (by omega), hpB_o (by omega) (by omega)]
      exact hw.1
    have U := PkS_upF (WH_up (by omega) W') (PkS_upF W' f2 hb3 (f := 6) (by omega) (c (58 + (i : Int)).toNat + gainB c (playP c) i (nC c))) (i := i) (by rw [upc_ne (by omega)]; exact hb3) (f := 4) (by omega) (lipsB c (playP c) i)
    rw [← hpB_s c (playP c) (show i < 6 by omega)] at U
    have fin : ∀ v : Int, v = lipsB c (playP c) i → Ph1 s c w q n h got σ (i + 1) ([0, n, got + sumN (fun b => gainB c (playP c) b (nC c)) i + gainB c (playP c) i (nC c), h, (q : Int), (i : Int) + 1, 0, 0], [s, 0, 0, 0, 0, 0, 0, 0], ups (ups σ1 (s + 1 + 17 + 2 * i) 6 (c (58 + (i : Int)).toNat + gainB c (playP c) i (nC c))) (s + 1 + 17 + 2 * i) 4 v) := by
      intro v hv
      subst hv
      refine ⟨_, by rw [ss, Int.add_assoc]; rfl, fun a ha => ?_, U⟩
      try simp (disch := omega) only [ups_11, upsN, upsA, upA_same, upA_neA, fl_at, fl_neA]
      exact f1 a ha
    have toll := k_tollOf (S_P hs) (σ := ups σ1 (s + 1 + 17 + 2 * i) 6 (c (58 + (i : Int)).toNat + gainB c (playP c) i (nC c))) (kH_c (upsA (by omega)) H') (kT_c2 hw.1 (fun x h1 h2 => upsA (by omega)) T') hw.1 en
    have el : lipsB c (playP c) i = if playP c i < 6 then c (46 + (i : Int)).toNat - c (16 + playP c i).toNat else if c (46 + (i : Int)).toNat + c 5 < c (52 + (i : Int)).toNat then c (46 + (i : Int)).toNat + c 5 else c (52 + (i : Int)).toNat := by
      unfold lipsB
      rw [Int.toNat_natCast]
    have tb : 0 ≤ (if playP c i < 6 then c (16 + playP c i).toNat else 0) ∧ (if playP c i < 6 then c (16 + playP c i).toNat else 0) ≤ 9 := by
      split
      · have t1 := hw.2.1 (playP c i) (by omega) (by omega)
        omega
      · omega
    have bd := kb_pass1 hs (show i < 6 by omega) n h q (got + sumN (fun b => gainB c (playP c) b (nC c)) i) _ _ _ _ _ _ _ eg e41 v4 v5 v6 H'.2.2.2.1 toll (by omega) (by omega) (by omega) (by omega) tb (by omega) (by omega)
    have ce : C_X7_passHours_1 ([0, n, got + sumN (fun b => gainB c (playP c) b (nC c)) i, h, (q : Int), (i : Int), 0, 0], [s, 0, 0, 0, 0, 0, 0, 0], σ1) = some (true, σ1) := by
      refine Wd_out ?_
      clear en eg g gs tb bd toll fin U el
      try simp (disch := omega) only [C_X7_passHours_1, S_s hs, S_r0 hs, S_r1 hs, S_r2 hs, S_q hs, S_q0 hs, S_q1 hs, S_q2 hs, S_q3 hs, S_q4 hs, S_l hs, S_k hs, S_w hs, S_n hs, S_y hs, S_rl hs, S_sl hs, P_a (S_P hs), P_1 (S_P hs), P_2 (S_P hs), P_3 (S_P hs), P_4 (S_P hs), P_5 (S_P hs), P_6 (S_P hs), P_7 (S_P hs), P_8 (S_P hs), P_9 (S_P hs), P_10 (S_P hs), P_t (S_P hs), P_b (S_P hs), P_g (S_P hs), P_r8 (S_P hs), P_r10 (S_P hs), P_r12 (S_P hs), P_r13 (S_P hs), P_e2 (S_P hs), P_e3 (S_P hs), P_e4 (S_P hs), P_e5 (S_P hs), P_e6 (S_P hs), P_e7 (S_P hs), P_rt (S_P hs), P_rb (S_P hs), P_rg (S_P hs), H'.1, H'.2.1, H'.2.2.1, H'.2.2.2.1, H'.2.2.2.2.1, H'.2.2.2.2.2.1, H'.2.2.2.2.2.2.1, H'.2.2.2.2.2.2.2.1, H'.2.2.2.2.2.2.2.2.1, H'.2.2.2.2.2.2.2.2.2, Wd_some, Wd_bn, Wd_sqM, Wd_outV, Wd_blkM, Wd_swM, Wd_ite, Wd_map, v_kS_0, v_kS_b, v_kS_r, v_kO_r, v_kW_0, v_kW_1, v_kW_2, v_kW_r, v_kL_0, v_kL_1, v_kL_2, v_kL_r, v_kU_0, ups_11, upsN, upsA, upA_same, upA_neA, fl_at, fl_neA, v_sq_eq, v_sqM_0, v_sqM_r, v_sqM_b, v_sqM_n, sqM_ite, v_asI, v_asR, v_inc, v_pfI, v_pfZ, v_pfO, v_paI, v_paO, v_exI, v_iff, v_rtI, v_rtZ, v_rtV, v_sk, v_brk, v_cnt, v_blk_eq, v_blkM_some, blkM_ite, v_lI, v_lR, v_cI, v_gI, v_gR, v_op1, v_op2, v_arI, v_arR, v_alen, v_tern, v_cmp1, v_cmp2, v_cAnd, v_cOr, v_cNot, v_cTern, v_bn_some, bn_ite, v_bn_none, v_outV_r, v_outV_0, v_outV_n, outV_ite, List.getD_cons_zero, List.getD_cons_succ, List.set_cons_zero, List.set_cons_succ, List.take_succ_cons, List.take_zero, List.drop_succ_cons, List.drop_zero, List.nil_append, List.cons_append, Option.map_some, Option.map_none, if_true, if_false, reduceIte, reduceCtorEq, decide_eq_true_eq, Bool.not_eq_true', decide_eq_false_iff_not, decide_eq_true, decide_eq_false, decide_true, decide_false, and_self, and_true, true_and, or_self, stO, v_caV_, v_caV_i, v_caV_ii, v_caV_iii, v_caV_iiii, v_caV_iiiii, v_caV_il, v_caV_iil, v_caV_l, v_caV_ll, v_caV_r, v_caV_ri, v_caV_rii, v_caV_riii, v_caV_riiii, v_caV_ir, v_caV_iri, v_caV_iiri, v_caS_i, v_caS_ii, v_caS_iii, v_caS_iiii, v_caS_iiiiii, v_caS_il, v_caS_li, v_caS_ll, v_caS_lll, v_caS_ri, v_caS_riii, sh_239, sh_240, sh_241, sh_242, sh_243, sh_244, sh_245, sh_246, sh_247, sh_248, sh_249, sh_250, sh_251, sh_252, sh_253, rf_239_4, rf_239_5, rf_239_6, rf_239_7, rf_239_20, rf_239_21, rf_239_22, rf_239_23, rf_239_27, rf_239_28, rf_239_32, rf_239_33, rf_239_34, rf_239_35, Int.reduceLE, Int.reduceLT, Int.reduceToNat, Int.reduceAdd, Int.reduceSub, Int.reduceMul, Int.reduceNeg, Int.reduceEq, Int.reduceNe, Nat.reduceAdd, Nat.reduceMul, Nat.reduceLT, Nat.reduceEqDiff, or_true, true_or, or_false, false_or, and_false, false_and, not_true_eq_false, not_false_eq_true, ne_eq, cN4, cN5, cN6, cN7, cN13, cN30, cN60, cN64, cN100, cN136, cN240, cN384, cN900, cN2040, cN3, v_sw_eq, v_swM_0, v_swM_1, v_swM_r, v_swM_n, swM_ite, app_ite, ex_some, bI_0, bI_1, nn_iff, Int.toNat_natCast, Int.toNat_of_nonneg, Int.natCast_add, cN1, wI_id2, wL_id2, if_pos, if_neg]
    rw [ce, Wd_some]
    show Wd (D_X7_passHours_1 _) _
    rw [bd, Wd_some]
    show Wd (U_X7_passHours_1 _) _
    have ue : ∀ (x : Int) (τ : SS), U_X7_passHours_1 ([0, n, x, h, (q : Int), (i : Int), 0, 0], [s, 0, 0, 0, 0, 0, 0, 0], τ) = some (.inl 0, ([0, n, x, h, (q : Int), (i : Int) + 1, 0, 0], [s, 0, 0, 0, 0, 0, 0, 0], τ)) := by
      intro x τ
      refine Wd_out ?_
      clear en eg g gs tb bd toll fin U el
      try simp (disch := omega) only [U_X7_passHours_1, Wd_some, Wd_bn, Wd_sqM, Wd_outV, Wd_blkM, Wd_swM, Wd_ite, Wd_map, v_kS_0, v_kS_b, v_kS_r, v_kO_r, v_kW_0, v_kW_1, v_kW_2, v_kW_r, v_kL_0, v_kL_1, v_kL_2, v_kL_r, v_kU_0, ups_11, upsN, upsA, upA_same, upA_neA, fl_at, fl_neA, v_sq_eq, v_sqM_0, v_sqM_r, v_sqM_b, v_sqM_n, sqM_ite, v_asI, v_asR, v_inc, v_pfI, v_pfZ, v_pfO, v_paI, v_paO, v_exI, v_iff, v_rtI, v_rtZ, v_rtV, v_sk, v_brk, v_cnt, v_blk_eq, v_blkM_some, blkM_ite, v_lI, v_lR, v_cI, v_gI, v_gR, v_op1, v_op2, v_arI, v_arR, v_alen, v_tern, v_cmp1, v_cmp2, v_cAnd, v_cOr, v_cNot, v_cTern, v_bn_some, bn_ite, v_bn_none, v_outV_r, v_outV_0, v_outV_n, outV_ite, List.getD_cons_zero, List.getD_cons_succ, List.set_cons_zero, List.set_cons_succ, List.take_succ_cons, List.take_zero, List.drop_succ_cons, List.drop_zero, List.nil_append, List.cons_append, Option.map_some, Option.map_none, if_true, if_false, reduceIte, reduceCtorEq, decide_eq_true_eq, Bool.not_eq_true', decide_eq_false_iff_not, decide_eq_true, decide_eq_false, decide_true, decide_false, and_self, and_true, true_and, or_self, stO, v_caV_, v_caV_i, v_caV_ii, v_caV_iii, v_caV_iiii, v_caV_iiiii, v_caV_il, v_caV_iil, v_caV_l, v_caV_ll, v_caV_r, v_caV_ri, v_caV_rii, v_caV_riii, v_caV_riiii, v_caV_ir, v_caV_iri, v_caV_iiri, v_caS_i, v_caS_ii, v_caS_iii, v_caS_iiii, v_caS_iiiiii, v_caS_il, v_caS_li, v_caS_ll, v_caS_lll, v_caS_ri, v_caS_riii, sh_239, sh_240, sh_241, sh_242, sh_243, sh_244, sh_245, sh_246, sh_247, sh_248, sh_249, sh_250, sh_251, sh_252, sh_253, rf_239_4, rf_239_5, rf_239_6, rf_239_7, rf_239_20, rf_239_21, rf_239_22, rf_239_23, rf_239_27, rf_239_28, rf_239_32, rf_239_33, rf_239_34, rf_239_35, Int.reduceLE, Int.reduceLT, Int.reduceToNat, Int.reduceAdd, Int.reduceSub, Int.reduceMul, Int.reduceNeg, Int.reduceEq, Int.reduceNe, Nat.reduceAdd, Nat.reduceMul, Nat.reduceLT, Nat.reduceEqDiff, or_true, true_or, or_false, false_or, and_false, false_and, not_true_eq_false, not_false_eq_true, ne_eq, cN4, cN5, cN6, cN7, cN13, cN30, cN60, cN64, cN100, cN136, cN240, cN384, cN900, cN2040, cN3, v_sw_eq, v_swM_0, v_swM_1, v_swM_r, v_swM_n, swM_ite, app_ite, ex_some, bI_0, bI_1, nn_iff, Int.toNat_natCast, Int.toNat_of_nonneg, Int.natCast_add, cN1, wI_id2, wL_id2, if_pos, if_neg]
    rw [ue, Wd_some]
    refine fin _ ?_
    rw [el]
    by_cases g6 : playP c i = 6
    · rw [if_pos g6]
      symm
      rw [if_neg (show ¬ playP c i < 6 by omega)]
    · rw [if_neg g6, if_pos (show playP c i < 6 by omega), if_pos (show playP c i < 6 by omega)]
  · intro z hz
    obtain ⟨σ1, hz, f1, f2⟩ := hz
    subst hz
    have H' : kH σ1 (s + 1) c := kH_c (f1 _ (by omega)) P.1
    try simp (disch := omega) only [C_X7_passHours_1, D_X7_passHours_1, U_X7_passHours_1, S_s hs, S_r0 hs, S_r1 hs, S_r2 hs, S_q hs, S_q0 hs, S_q1 hs, S_q2 hs, S_q3 hs, S_q4 hs, S_l hs, S_k hs, S_w hs, S_n hs, S_y hs, S_rl hs, S_sl hs, P_a (S_P hs), P_1 (S_P hs), P_2 (S_P hs), P_3 (S_P hs), P_4 (S_P hs), P_5 (S_P hs), P_6 (S_P hs), P_7 (S_P hs), P_8 (S_P hs), P_9 (S_P hs), P_10 (S_P hs), P_t (S_P hs), P_b (S_P hs), P_g (S_P hs), P_r8 (S_P hs), P_r10 (S_P hs), P_r12 (S_P hs), P_r13 (S_P hs), P_e2 (S_P hs), P_e3 (S_P hs), P_e4 (S_P hs), P_e5 (S_P hs), P_e6 (S_P hs), P_e7 (S_P hs), P_rt (S_P hs), P_rb (S_P hs), P_rg (S_P hs), H'.1, H'.2.1, H'.2.2.1, H'.2.2.2.1, H'.2.2.2.2.1, H'.2.2.2.2.2.1, H'.2.2.2.2.2.2.1, H'.2.2.2.2.2.2.2.1, H'.2.2.2.2.2.2.2.2.1, H'.2.2.2.2.2.2.2.2.2, hn, Wd_some, Wd_bn, Wd_sqM, Wd_outV, Wd_blkM, Wd_swM, Wd_ite, Wd_map, v_kS_0, v_kS_b, v_kS_r, v_kO_r, v_kW_0, v_kW_1, v_kW_2, v_kW_r, v_kL_0, v_kL_1, v_kL_2, v_kL_r, v_kU_0, ups_11, upsN, upsA, upA_same, upA_neA, fl_at, fl_neA, v_sq_eq, v_sqM_0, v_sqM_r, v_sqM_b, v_sqM_n, sqM_ite, v_asI, v_asR, v_inc, v_pfI, v_pfZ, v_pfO, v_paI, v_paO, v_exI, v_iff, v_rtI, v_rtZ, v_rtV, v_sk, v_brk, v_cnt, v_blk_eq, v_blkM_some, blkM_ite, v_lI, v_lR, v_cI, v_gI, v_gR, v_op1, v_op2, v_arI, v_arR, v_alen, v_tern, v_cmp1, v_cmp2, v_cAnd, v_cOr, v_cNot, v_cTern, v_bn_some, bn_ite, v_bn_none, v_outV_r, v_outV_0, v_outV_n, outV_ite, List.getD_cons_zero, List.getD_cons_succ, List.set_cons_zero, List.set_cons_succ, List.take_succ_cons, List.take_zero, List.drop_succ_cons, List.drop_zero, List.nil_append, List.cons_append, Option.map_some, Option.map_none, if_true, if_false, reduceIte, reduceCtorEq, decide_eq_true_eq, Bool.not_eq_true', decide_eq_false_iff_not, decide_eq_true, decide_eq_false, decide_true, decide_false, and_self, and_true, true_and, or_self, stO, v_caV_, v_caV_i, v_caV_ii, v_caV_iii, v_caV_iiii, v_caV_iiiii, v_caV_il, v_caV_iil, v_caV_l, v_caV_ll, v_caV_r, v_caV_ri, v_caV_rii, v_caV_riii, v_caV_riiii, v_caV_ir, v_caV_iri, v_caV_iiri, v_caS_i, v_caS_ii, v_caS_iii, v_caS_iiii, v_caS_iiiiii, v_caS_il, v_caS_li, v_caS_ll, v_caS_lll, v_caS_ri, v_caS_riii, sh_239, sh_240, sh_241, sh_242, sh_243, sh_244, sh_245, sh_246, sh_247, sh_248, sh_249, sh_250, sh_251, sh_252, sh_253, rf_239_4, rf_239_5, rf_239_6, rf_239_7, rf_239_20, rf_239_21, rf_239_22, rf_239_23, rf_239_27, rf_239_28, rf_239_32, rf_239_33, rf_239_34, rf_239_35, Int.reduceLE, Int.reduceLT, Int.reduceToNat, Int.reduceAdd, Int.reduceSub, Int.reduceMul, Int.reduceNeg, Int.reduceEq, Int.reduceNe, Nat.reduceAdd, Nat.reduceMul, Nat.reduceLT, Nat.reduceEqDiff, or_true, true_or, or_false, false_or, and_false, false_and, not_true_eq_false, not_false_eq_true, ne_eq, cN4, cN5, cN6, cN7, cN13, cN30, cN60, cN64, cN100, cN136, cN240, cN384, cN900, cN2040, cN3, v_sw_eq, v_swM_0, v_swM_1, v_swM_r, v_swM_n, swM_ite, app_ite, ex_some, bI_0, bI_1, nn_iff, Int.toNat_natCast, Int.toNat_of_nonneg, Int.natCast_add, cN1, wI_id2, wL_id2, if_pos, if_neg]
    exact ⟨σ1, by rw [hn], f1, f2⟩
/-- what hours leave as it was -/
def PhF (s : Nat) (σ σ' : SS) : Prop := (∀ a, ¬ (s ≤ a ∧ a ≤ s + 41) → σ' a = σ a) ∧ (∀ a, s + 5 ≤ a → a ≤ s + 11 → σ' a = σ a) ∧ (∀ k, k ≠ 4 → k ≠ 8 → σ' s k = σ s k) ∧ σ' (s + 1) 14 = σ (s + 1) 14
def PhO (s : Nat) (c w : Nat → Int) (V n : Int) (σ : SS) (h : Nat) (z : ZZ) : Prop := ∃ σ' : SS, z = ([0, n, gotN c h, (h : Int), 0, 0, 0, 0], [s, 0, 0, 0, 0, 0, 0, 0], σ') ∧ PkS σ' (s + 1) (hrN c h) w ∧ StK s (hrN c h) V σ' ∧ PhF s σ σ' ∧ (0 ≤ σ s 8 ∧ σ s 8 ≤ 1000000 → σ' s 8 = σ s 8 + tiN c h)
theorem tiN_bd (c : Nat → Int) : ∀ h : Nat, 0 ≤ tiN c h ∧ tiN c h ≤ 6 * h
  | 0 => by unfold tiN; omega
  | h + 1 => by
    have a := tiN_bd c h
    have b := sizN_bd (tirB (hrN c h) (bn3 (hrN c h)))
    unfold tiN
    omega
theorem kl_pass0 (hs : isS s) (P : PkS σ (s + 1) c w) (hw : WB c) (hq : WQ c) {V : Int} (K : StK s c V σ) {n : Nat} (hn : n ≤ 200) (h7 : c 7 + n ≤ 12000) : Wd (L_X7_passHours_0 ([0, (n : Int), 0, 0, 0, 0, 0, 0], [s, 0, 0, 0, 0, 0, 0, 0], σ)) (fun o z => o = .inl 0 ∧ PhO s c w V n σ n z) := by
  unfold L_X7_passHours_0
  refine Wd_it (PhO s c w V n σ) n ⟨σ, rfl, P, K, ⟨fun _ _ => rfl, fun _ _ _ => rfl, fun _ _ _ => rfl, rfl⟩, fun _ => by show _ = _ + (0 : Int); omega⟩ ?_ ?_
  · intro h z hh hz
    obtain ⟨σ1, hz, f1, f2, f3, f4⟩ := hz
    subst hz
    obtain ⟨a1, a2, a3, a4⟩ := hrN_ok hw hq h (by omega)
    have gb := gotN_bd hw hq h (by omega)
    have tb := tiN_bd c h
    have pb := ptsB_bd a1
    have eg1 : gotN c (h + 1) = gotN c h + ptsB (hrN c h) := rfl
    have et1 : tiN c (h + 1) = tiN c h + sizN (tirB (hrN c h) (bn3 (hrN c h))) := rfl
    have eh1 : hrN c (h + 1) = hourB (hrN c h) := rfl
    generalize hrN c h = d at a1 a2 a3 a4 f1 f2 pb eg1 et1 eh1
    have bnd := bn3_c a1.1
    have aH := a1.1
    try simp (disch := omega) only [C_X7_passHours_0, D_X7_passHours_0, U_X7_passHours_0, S_s hs, S_r0 hs, S_r1 hs, S_r2 hs, S_q hs, S_q0 hs, S_q1 hs, S_q2 hs, S_q3 hs, S_q4 hs, S_l hs, S_k hs, S_w hs, S_n hs, S_y hs, S_rl hs, S_sl hs, P_a (S_P hs), P_1 (S_P hs), P_2 (S_P hs), P_3 (S_P hs), P_4 (S_P hs), P_5 (S_P hs), P_6 (S_P hs), P_7 (S_P hs), P_8 (S_P hs), P_9 (S_P hs), P_10 (S_P hs), P_t (S_P hs), P_b (S_P hs), P_g (S_P hs), P_r8 (S_P hs), P_r10 (S_P hs), P_r12 (S_P hs), P_r13 (S_P hs), P_e2 (S_P hs), P_e3 (S_P hs), P_e4 (S_P hs), P_e5 (S_P hs), P_e6 (S_P hs), P_e7 (S_P hs), P_rt (S_P hs), P_rb (S_P hs), P_rg (S_P hs), Wd_some, Wd_bn, Wd_sqM, Wd_outV, Wd_blkM, Wd_swM, Wd_ite, Wd_map, v_kS_0, v_kS_b, v_kS_r, v_kO_r, v_kW_0, v_kW_1, v_kW_2, v_kW_r, v_kL_0, v_kL_1, v_kL_2, v_kL_r, v_kU_0, ups_11, upsN, upsA, upA_same, upA_neA, fl_at, fl_neA, v_sq_eq, v_sqM_0, v_sqM_r, v_sqM_b, v_sqM_n, sqM_ite, v_asI, v_asR, v_inc, v_pfI, v_pfZ, v_pfO, v_paI, v_paO, v_exI, v_iff, v_rtI, v_rtZ, v_rtV, v_sk, v_brk, v_cnt, v_blk_eq, v_blkM_some, blkM_ite, v_lI, v_lR, v_cI, v_gI, v_gR, v_op1, v_op2, v_arI, v_arR, v_alen, v_tern, v_cmp1, v_cmp2, v_cAnd, v_cOr, v_cNot, v_cTern, v_bn_some, bn_ite, v_bn_none, v_outV_r, v_outV_0, v_outV_n, outV_ite, List.getD_cons_zero, List.getD_cons_succ, List.set_cons_zero, List.set_cons_succ, List.take_succ_cons, List.take_zero, List.drop_succ_cons, List.drop_zero, List.nil_append, List.cons_append, Option.map_some, Option.map_none, if_true, if_false, reduceIte, reduceCtorEq, decide_eq_true_eq, Bool.not_eq_true', decide_eq_false_iff_not, decide_eq_true, decide_eq_false, decide_true, decide_false, and_self, and_true, true_and, or_self, stO, v_caV_, v_caV_i, v_caV_ii, v_caV_iii, v_caV_iiii, v_caV_iiiii, v_caV_il, v_caV_iil, v_caV_l, v_caV_ll, v_caV_r, v_caV_ri, v_caV_rii, v_caV_riii, v_caV_riiii, v_caV_ir, v_caV_iri, v_caV_iiri, v_caS_i, v_caS_ii, v_caS_iii, v_caS_iiii, v_caS_iiiiii, v_caS_il, v_caS_li, v_caS_ll, v_caS_lll, v_caS_ri, v_caS_riii, sh_239, sh_240, sh_241, sh_242, sh_243, sh_244, sh_245, sh_246, sh_247, sh_248, sh_249, sh_250, sh_251, sh_252, sh_253, rf_239_4, rf_239_5, rf_239_6, rf_239_7, rf_239_20, rf_239_21, rf_239_22, rf_239_23, rf_239_27, rf_239_28, rf_239_32, rf_239_33, rf_239_34, rf_239_35, Int.reduceLE, Int.reduceLT, Int.reduceToNat, Int.reduceAdd, Int.reduceSub, Int.reduceMul, Int.reduceNeg, Int.reduceEq, Int.reduceNe, Nat.reduceAdd, Nat.reduceMul, Nat.reduceLT, Nat.reduceEqDiff, or_true, true_or, or_false, false_or, and_false, false_and, not_true_eq_false, not_false_eq_true, ne_eq, cN4, cN5, cN6, cN7, cN13, cN30, cN60, cN64, cN100, cN136, cN240, cN384, cN900, cN2040, cN3, v_sw_eq, v_swM_0, v_swM_1, v_swM_r, v_swM_n, swM_ite, app_ite, ex_some, bI_0, bI_1, nn_iff, Int.toNat_natCast, Int.toNat_of_nonneg, Int.natCast_add, cN1, wI_id2, wL_id2, if_pos, if_neg]
    refine Wd_mono (k_look hs f1 a1 f2) (fun r σ2 hr => ?_)
    obtain ⟨hr, lf, ls⟩ := hr
    subst hr
    have P2 : PkS σ2 (s + 1) d w := PkS_c a1.1 (fun k hk => by rw [lf.1 _ (by omega)]) (fun x h1 h2 => lf.1 _ (by omega)) f1
    have ep : ∀ k : Nat, k < bn3 d → σ2 (s + 41) k = playP d k := fun k hk => by
      rw [ls.2.2.2 k (by omega), if_pos (by omega)]
      rfl
    have hp2 : plO d (σ2 (s + 41)) := fun k hk => by
      rw [ep k (by omega)]
      exact plO_P a1.2.2.1 k hk
    try simp (disch := omega) only [S_s hs, S_r0 hs, S_r1 hs, S_r2 hs, S_q hs, S_q0 hs, S_q1 hs, S_q2 hs, S_q3 hs, S_q4 hs, S_l hs, S_k hs, S_w hs, S_n hs, S_y hs, S_rl hs, S_sl hs, P_a (S_P hs), P_1 (S_P hs), P_2 (S_P hs), P_3 (S_P hs), P_4 (S_P hs), P_5 (S_P hs), P_6 (S_P hs), P_7 (S_P hs), P_8 (S_P hs), P_9 (S_P hs), P_10 (S_P hs), P_t (S_P hs), P_b (S_P hs), P_g (S_P hs), P_r8 (S_P hs), P_r10 (S_P hs), P_r12 (S_P hs), P_r13 (S_P hs), P_e2 (S_P hs), P_e3 (S_P hs), P_e4 (S_P hs), P_e5 (S_P hs), P_e6 (S_P hs), P_e7 (S_P hs), P_rt (S_P hs), P_rb (S_P hs), P_rg (S_P hs), Wd_some, Wd_bn, Wd_sqM, Wd_outV, Wd_blkM, Wd_swM, Wd_ite, Wd_map, v_kS_0, v_kS_b, v_kS_r, v_kO_r, v_kW_0, v_kW_1, v_kW_2, v_kW_r, v_kL_0, v_kL_1, v_kL_2, v_kL_r, v_kU_0, ups_11, upsN, upsA, upA_same, upA_neA, fl_at, fl_neA, v_sq_eq, v_sqM_0, v_sqM_r, v_sqM_b, v_sqM_n, sqM_ite, v_asI, v_asR, v_inc, v_pfI, v_pfZ, v_pfO, v_paI, v_paO, v_exI, v_iff, v_rtI, v_rtZ, v_rtV, v_sk, v_brk, v_cnt, v_blk_eq, v_blkM_some, blkM_ite, v_lI, v_lR, v_cI, v_gI, v_gR, v_op1, v_op2, v_arI, v_arR, v_alen, v_tern, v_cmp1, v_cmp2, v_cAnd, v_cOr, v_cNot, v_cTern, v_bn_some, bn_ite, v_bn_none, v_outV_r, v_outV_0, v_outV_n, outV_ite, List.getD_cons_zero, List.getD_cons_succ, List.set_cons_zero, List.set_cons_succ, List.take_succ_cons, List.take_zero, List.drop_succ_cons, List.drop_zero, List.nil_append, List.cons_append, Option.map_some, Option.map_none, if_true, if_false, reduceIte, reduceCtorEq, decide_eq_true_eq, Bool.not_eq_true', decide_eq_false_iff_not, decide_eq_true, decide_eq_false, decide_true, decide_false, and_self, and_true, true_and, or_self, stO, v_caV_, v_caV_i, v_caV_ii, v_caV_iii, v_caV_iiii, v_caV_iiiii, v_caV_il, v_caV_iil, v_caV_l, v_caV_ll, v_caV_r, v_caV_ri, v_caV_rii, v_caV_riii, v_caV_riiii, v_caV_ir, v_caV_iri, v_caV_iiri, v_caS_i, v_caS_ii, v_caS_iii, v_caS_iiii, v_caS_iiiiii, v_caS_il, v_caS_li, v_caS_ll, v_caS_lll, v_caS_ri, v_caS_riii, sh_239, sh_240, sh_241, sh_242, sh_243, sh_244, sh_245, sh_246, sh_247, sh_248, sh_249, sh_250, sh_251, sh_252, sh_253, rf_239_4, rf_239_5, rf_239_6, rf_239_7, rf_239_20, rf_239_21, rf_239_22, rf_239_23, rf_239_27, rf_239_28, rf_239_32, rf_239_33, rf_239_34, rf_239_35, Int.reduceLE, Int.reduceLT, Int.reduceToNat, Int.reduceAdd, Int.reduceSub, Int.reduceMul, Int.reduceNeg, Int.reduceEq, Int.reduceNe, Nat.reduceAdd, Nat.reduceMul, Nat.reduceLT, Nat.reduceEqDiff, or_true, true_or, or_false, false_or, and_false, false_and, not_true_eq_false, not_false_eq_true, ne_eq, cN4, cN5, cN6, cN7, cN13, cN30, cN60, cN64, cN100, cN136, cN240, cN384, cN900, cN2040, cN3, v_sw_eq, v_swM_0, v_swM_1, v_swM_r, v_swM_n, swM_ite, app_ite, ex_some, bI_0, bI_1, nn_iff, Int.toNat_natCast, Int.toNat_of_nonneg, Int.natCast_add, cN1, wI_id2, wL_id2, if_pos, if_neg]
    refine Wd_mono (k_slotOf hs P2 a1 ls.1 (S_y hs) hp2) (fun r σ3 hr => ?_)
    obtain ⟨q, hr, sf, st, sq1, sq2⟩ := hr
    subst hr
    have P3 : PkS σ3 (s + 1) d w := PkS_c a1.1 (fun k hk => by rw [sf _ (by omega)]) (fun x h1 h2 => sf _ (by omega)) P2
    have L3 : LkS s d σ3 := by
      refine ⟨st, ?_, ?_, fun k hk => ?_⟩
      · rw [sf _ (by omega), sf _ (by omega)]; exact ls.2.1
      · rw [sf _ (by omega)]; exact ls.2.2.1
      · rw [sf _ (by omega)]; exact ls.2.2.2 k hk
    have R3 : SlR s d (playP d) q σ3 := by
      refine ⟨sq1, fun b hb => ?_⟩
      have := sq2 b hb
      rw [cellsB_p ep, gainB_p ep] at this
      exact this
    try simp (disch := omega) only [S_s hs, S_r0 hs, S_r1 hs, S_r2 hs, S_q hs, S_q0 hs, S_q1 hs, S_q2 hs, S_q3 hs, S_q4 hs, S_l hs, S_k hs, S_w hs, S_n hs, S_y hs, S_rl hs, S_sl hs, P_a (S_P hs), P_1 (S_P hs), P_2 (S_P hs), P_3 (S_P hs), P_4 (S_P hs), P_5 (S_P hs), P_6 (S_P hs), P_7 (S_P hs), P_8 (S_P hs), P_9 (S_P hs), P_10 (S_P hs), P_t (S_P hs), P_b (S_P hs), P_g (S_P hs), P_r8 (S_P hs), P_r10 (S_P hs), P_r12 (S_P hs), P_r13 (S_P hs), P_e2 (S_P hs), P_e3 (S_P hs), P_e4 (S_P hs), P_e5 (S_P hs), P_e6 (S_P hs), P_e7 (S_P hs), P_rt (S_P hs), P_rb (S_P hs), P_rg (S_P hs), Wd_some, Wd_bn, Wd_sqM, Wd_outV, Wd_blkM, Wd_swM, Wd_ite, Wd_map, v_kS_0, v_kS_b, v_kS_r, v_kO_r, v_kW_0, v_kW_1, v_kW_2, v_kW_r, v_kL_0, v_kL_1, v_kL_2, v_kL_r, v_kU_0, ups_11, upsN, upsA, upA_same, upA_neA, fl_at, fl_neA, v_sq_eq, v_sqM_0, v_sqM_r, v_sqM_b, v_sqM_n, sqM_ite, v_asI, v_asR, v_inc, v_pfI, v_pfZ, v_pfO, v_paI, v_paO, v_exI, v_iff, v_rtI, v_rtZ, v_rtV, v_sk, v_brk, v_cnt, v_blk_eq, v_blkM_some, blkM_ite, v_lI, v_lR, v_cI, v_gI, v_gR, v_op1, v_op2, v_arI, v_arR, v_alen, v_tern, v_cmp1, v_cmp2, v_cAnd, v_cOr, v_cNot, v_cTern, v_bn_some, bn_ite, v_bn_none, v_outV_r, v_outV_0, v_outV_n, outV_ite, List.getD_cons_zero, List.getD_cons_succ, List.set_cons_zero, List.set_cons_succ, List.take_succ_cons, List.take_zero, List.drop_succ_cons, List.drop_zero, List.nil_append, List.cons_append, Option.map_some, Option.map_none, if_true, if_false, reduceIte, reduceCtorEq, decide_eq_true_eq, Bool.not_eq_true', decide_eq_false_iff_not, decide_eq_true, decide_eq_false, decide_true, decide_false, and_self, and_true, true_and, or_self, stO, v_caV_, v_caV_i, v_caV_ii, v_caV_iii, v_caV_iiii, v_caV_iiiii, v_caV_il, v_caV_iil, v_caV_l, v_caV_ll, v_caV_r, v_caV_ri, v_caV_rii, v_caV_riii, v_caV_riiii, v_caV_ir, v_caV_iri, v_caV_iiri, v_caS_i, v_caS_ii, v_caS_iii, v_caS_iiii, v_caS_iiiiii, v_caS_il, v_caS_li, v_caS_ll, v_caS_lll, v_caS_ri, v_caS_riii, sh_239, sh_240, sh_241, sh_242, sh_243, sh_244, sh_245, sh_246, sh_247, sh_248, sh_249, sh_250, sh_251, sh_252, sh_253, rf_239_4, rf_239_5, rf_239_6, rf_239_7, rf_239_20, rf_239_21, rf_239_22, rf_239_23, rf_239_27, rf_239_28, rf_239_32, rf_239_33, rf_239_34, rf_239_35, Int.reduceLE, Int.reduceLT, Int.reduceToNat, Int.reduceAdd, Int.reduceSub, Int.reduceMul, Int.reduceNeg, Int.reduceEq, Int.reduceNe, Nat.reduceAdd, Nat.reduceMul, Nat.reduceLT, Nat.reduceEqDiff, or_true, true_or, or_false, false_or, and_false, false_and, not_true_eq_false, not_false_eq_true, ne_eq, cN4, cN5, cN6, cN7, cN13, cN30, cN60, cN64, cN100, cN136, cN240, cN384, cN900, cN2040, cN3, v_sw_eq, v_swM_0, v_swM_1, v_swM_r, v_swM_n, swM_ite, app_ite, ex_some, bI_0, bI_1, nn_iff, Int.toNat_natCast, Int.toNat_of_nonneg, Int.natCast_add, cN1, wI_id2, wL_id2, if_pos, if_neg]
    refine Wd_mono (kl_pass1 hs P3 a1 L3 R3 n h (gotN c h) (by omega)) (fun o z hz => ?_)
    obtain ⟨ho, σ4, hz, g1, g2⟩ := hz
    subst ho; subst hz
    have t4 : σ4 s 4 = tirB d (bn3 d) := by rw [g1 _ (by omega)]; exact L3.2.2.1
    have tt := tirB_64 d (bn3 d) (by omega)
    have sz := sizN_bd (tirB d (bn3 d))
    have hr5 : σ4 (s + 1) 5 = d 7 := by
      rw [g1 _ (by omega)]
      exact P3.1.2.2.2.2.2.1
    have hss : ∀ k, k ≠ 4 → k ≠ 8 → σ4 s k = σ s k := fun k h1 h2 => by
      rw [g1 _ (by omega), sf _ (by omega), lf.2 k h1]
      exact f3.2.2.1 k h1 h2
    have h8 : σ4 s 8 = σ1 s 8 := by rw [g1 _ (by omega), sf _ (by omega), lf.2 8 (by omega)]
    have e14 : σ4 (s + 1) 14 = σ (s + 1) 14 := by
      rw [g1 _ (by omega), sf _ (by omega), lf.1 _ (by omega)]
      exact f3.2.2.2
    have e5 : σ4 (s + 30) 5 = σ4 (s + 1) 14 := by
      rw [g1 _ (by omega), g1 _ (by omega)]
      exact L3.2.1
    have fin : ∀ v8 v7 : Int, v7 = d 7 + 1 → (0 ≤ σ s 8 ∧ σ s 8 ≤ 1000000 → v8 = σ s 8 + tiN c (h + 1)) → PhO s c w V n σ (h + 1) ([0, (n : Int), gotN c h + sumN (fun b => gainB d (playP d) b (nC d)) (bn3 d), (h : Int) + 1, 0, 0, 0, 0], [s, 0, 0, 0, 0, 0, 0, 0], ups (ups σ4 s 8 v8) (s + 1) 5 v7) := by
      intro v8 v7 hv7 hv8
      subst hv7
      have Wd1 : WH (hpB d (playP d) (bn3 d)) := by
        unfold WH
        rw [hpB_o (by omega) (by omega), hpB_o (by omega) (by omega), hpB_o (by omega) (by omega), hpB_o (by omega) (by omega), hpB_o (by omega) (by omega), hpB_o (by omega) (by omega), hpB_o (by omega) (by omega), hpB_o (by omega) (by omega), hpB_o (by omega) (by omega), hpB_o (by omega) (by omega)]
        exact a1.1
      refine ⟨_, by rw [eg1]; rfl, ?_, ?_, ⟨fun a ha => ?_, fun a h1 h2 => ?_, fun k h1 h2 => ?_, ?_⟩, fun hx => ?_⟩
      · rw [eh1]
        have U := PkS_upH Wd1 (PkS_c (σ' := ups σ4 s 8 v8) Wd1 (fun k hk => by try simp (disch := omega) only [ups_11, upsN, upsA, upA_same, upA_neA, fl_at, fl_neA]) (fun x h1 h2 => by try simp (disch := omega) only [ups_11, upsN, upsA, upA_same, upA_neA, fl_at, fl_neA]) g2) (f := 5) (by omega) (d 7 + 1)
        exact U
      · rw [eh1]
        obtain ⟨b1, b2, b3⟩ := WB_hour a1 a2 (by omega)
        refine ⟨?_, fun _ => ?_⟩
        · try simp (disch := omega) only [ups_11, upsN, upsA, upA_same, upA_neA, fl_at, fl_neA]
          rw [e5, e14]
          have k0 := f2.1
          rw [f3.2.2.2] at k0
          omega
        · refine StT_e a1.1 b3 (StT_c a1.1 (fun a h1 h2 => ?_) st)
          try simp (disch := omega) only [ups_11, upsN, upsA, upA_same, upA_neA, fl_at, fl_neA]
          exact g1 a (by omega)
      · try simp (disch := omega) only [ups_11, upsN, upsA, upA_same, upA_neA, fl_at, fl_neA]
        rw [g1 a (by omega), sf a (by omega), lf.1 a (by omega)]
        exact f3.1 a ha
      · try simp (disch := omega) only [ups_11, upsN, upsA, upA_same, upA_neA, fl_at, fl_neA]
        rw [g1 a (by omega), sf a (by omega), lf.1 a (by omega)]
        exact f3.2.1 a h1 h2
      · try simp (disch := omega) only [ups_11, upsN, upsA, upA_same, upA_neA, fl_at, fl_neA]
        exact hss k h1 h2
      · try simp (disch := omega) only [ups_11, upsN, upsA, upA_same, upA_neA, fl_at, fl_neA]
        exact e14
      · try simp (disch := omega) only [ups_11, upsN, upsA, upA_same, upA_neA, fl_at, fl_neA]
        exact hv8 hx
    try simp (disch := omega) only [S_s hs, S_r0 hs, S_r1 hs, S_r2 hs, S_q hs, S_q0 hs, S_q1 hs, S_q2 hs, S_q3 hs, S_q4 hs, S_l hs, S_k hs, S_w hs, S_n hs, S_y hs, S_rl hs, S_sl hs, P_a (S_P hs), P_1 (S_P hs), P_2 (S_P hs), P_3 (S_P hs), P_4 (S_P hs), P_5 (S_P hs), P_6 (S_P hs), P_7 (S_P hs), P_8 (S_P hs), P_9 (S_P hs), P_10 (S_P hs), P_t (S_P hs), P_b (S_P hs), P_g (S_P hs), P_r8 (S_P hs), P_r10 (S_P hs), P_r12 (S_P hs), P_r13 (S_P hs), P_e2 (S_P hs), P_e3 (S_P hs), P_e4 (S_P hs), P_e5 (S_P hs), P_e6 (S_P hs), P_e7 (S_P hs), P_rt (S_P hs), P_rb (S_P hs), P_rg (S_P hs), k_bitCount tt, t4, hr5, Wd_some, Wd_bn, Wd_sqM, Wd_outV, Wd_blkM, Wd_swM, Wd_ite, Wd_map, v_kS_0, v_kS_b, v_kS_r, v_kO_r, v_kW_0, v_kW_1, v_kW_2, v_kW_r, v_kL_0, v_kL_1, v_kL_2, v_kL_r, v_kU_0, ups_11, upsN, upsA, upA_same, upA_neA, fl_at, fl_neA, v_sq_eq, v_sqM_0, v_sqM_r, v_sqM_b, v_sqM_n, sqM_ite, v_asI, v_asR, v_inc, v_pfI, v_pfZ, v_pfO, v_paI, v_paO, v_exI, v_iff, v_rtI, v_rtZ, v_rtV, v_sk, v_brk, v_cnt, v_blk_eq, v_blkM_some, blkM_ite, v_lI, v_lR, v_cI, v_gI, v_gR, v_op1, v_op2, v_arI, v_arR, v_alen, v_tern, v_cmp1, v_cmp2, v_cAnd, v_cOr, v_cNot, v_cTern, v_bn_some, bn_ite, v_bn_none, v_outV_r, v_outV_0, v_outV_n, outV_ite, List.getD_cons_zero, List.getD_cons_succ, List.set_cons_zero, List.set_cons_succ, List.take_succ_cons, List.take_zero, List.drop_succ_cons, List.drop_zero, List.nil_append, List.cons_append, Option.map_some, Option.map_none, if_true, if_false, reduceIte, reduceCtorEq, decide_eq_true_eq, Bool.not_eq_true', decide_eq_false_iff_not, decide_eq_true, decide_eq_false, decide_true, decide_false, and_self, and_true, true_and, or_self, stO, v_caV_, v_caV_i, v_caV_ii, v_caV_iii, v_caV_iiii, v_caV_iiiii, v_caV_il, v_caV_iil, v_caV_l, v_caV_ll, v_caV_r, v_caV_ri, v_caV_rii, v_caV_riii, v_caV_riiii, v_caV_ir, v_caV_iri, v_caV_iiri, v_caS_i, v_caS_ii, v_caS_iii, v_caS_iiii, v_caS_iiiiii, v_caS_il, v_caS_li, v_caS_ll, v_caS_lll, v_caS_ri, v_caS_riii, sh_239, sh_240, sh_241, sh_242, sh_243, sh_244, sh_245, sh_246, sh_247, sh_248, sh_249, sh_250, sh_251, sh_252, sh_253, rf_239_4, rf_239_5, rf_239_6, rf_239_7, rf_239_20, rf_239_21, rf_239_22, rf_239_23, rf_239_27, rf_239_28, rf_239_32, rf_239_33, rf_239_34, rf_239_35, Int.reduceLE, Int.reduceLT, Int.reduceToNat, Int.reduceAdd, Int.reduceSub, Int.reduceMul, Int.reduceNeg, Int.reduceEq, Int.reduceNe, Nat.reduceAdd, Nat.reduceMul, Nat.reduceLT, Nat.reduceEqDiff, or_true, true_or, or_false, false_or, and_false, false_and, not_true_eq_false, not_false_eq_true, ne_eq, cN4, cN5, cN6, cN7, cN13, cN30, cN60, cN64, cN100, cN136, cN240, cN384, cN900, cN2040, cN3, v_sw_eq, v_swM_0, v_swM_1, v_swM_r, v_swM_n, swM_ite, app_ite, ex_some, bI_0, bI_1, nn_iff, Int.toNat_natCast, Int.toNat_of_nonneg, Int.natCast_add, cN1, wI_id2, wL_id2, if_pos, if_neg]
    refine fin _ _ rfl (fun hx => ?_)
    have := f4 hx
    rw [wI_id2 (by omega), h8, et1]
    omega
  · intro z hz
    obtain ⟨σ1, hz, f1, f2, f3, f4⟩ := hz
    subst hz
    try simp (disch := omega) only [C_X7_passHours_0, D_X7_passHours_0, U_X7_passHours_0, S_s hs, S_r0 hs, S_r1 hs, S_r2 hs, S_q hs, S_q0 hs, S_q1 hs, S_q2 hs, S_q3 hs, S_q4 hs, S_l hs, S_k hs, S_w hs, S_n hs, S_y hs, S_rl hs, S_sl hs, P_a (S_P hs), P_1 (S_P hs), P_2 (S_P hs), P_3 (S_P hs), P_4 (S_P hs), P_5 (S_P hs), P_6 (S_P hs), P_7 (S_P hs), P_8 (S_P hs), P_9 (S_P hs), P_10 (S_P hs), P_t (S_P hs), P_b (S_P hs), P_g (S_P hs), P_r8 (S_P hs), P_r10 (S_P hs), P_r12 (S_P hs), P_r13 (S_P hs), P_e2 (S_P hs), P_e3 (S_P hs), P_e4 (S_P hs), P_e5 (S_P hs), P_e6 (S_P hs), P_e7 (S_P hs), P_rt (S_P hs), P_rb (S_P hs), P_rg (S_P hs), Wd_some, Wd_bn, Wd_sqM, Wd_outV, Wd_blkM, Wd_swM, Wd_ite, Wd_map, v_kS_0, v_kS_b, v_kS_r, v_kO_r, v_kW_0, v_kW_1, v_kW_2, v_kW_r, v_kL_0, v_kL_1, v_kL_2, v_kL_r, v_kU_0, ups_11, upsN, upsA, upA_same, upA_neA, fl_at, fl_neA, v_sq_eq, v_sqM_0, v_sqM_r, v_sqM_b, v_sqM_n, sqM_ite, v_asI, v_asR, v_inc, v_pfI, v_pfZ, v_pfO, v_paI, v_paO, v_exI, v_iff, v_rtI, v_rtZ, v_rtV, v_sk, v_brk, v_cnt, v_blk_eq, v_blkM_some, blkM_ite, v_lI, v_lR, v_cI, v_gI, v_gR, v_op1, v_op2, v_arI, v_arR, v_alen, v_tern, v_cmp1, v_cmp2, v_cAnd, v_cOr, v_cNot, v_cTern, v_bn_some, bn_ite, v_bn_none, v_outV_r, v_outV_0, v_outV_n, outV_ite, List.getD_cons_zero, List.getD_cons_succ, List.set_cons_zero, List.set_cons_succ, List.take_succ_cons, List.take_zero, List.drop_succ_cons, List.drop_zero, List.nil_append, List.cons_append, Option.map_some, Option.map_none, if_true, if_false, reduceIte, reduceCtorEq, decide_eq_true_eq, Bool.not_eq_true', decide_eq_false_iff_not, decide_eq_true, decide_eq_false, decide_true, decide_false, and_self, and_true, true_and, or_self, stO, v_caV_, v_caV_i, v_caV_ii, v_caV_iii, v_caV_iiii, v_caV_iiiii, v_caV_il, v_caV_iil, v_caV_l, v_caV_ll, v_caV_r, v_caV_ri, v_caV_rii, v_caV_riii, v_caV_riiii, v_caV_ir, v_caV_iri, v_caV_iiri, v_caS_i, v_caS_ii, v_caS_iii, v_caS_iiii, v_caS_iiiiii, v_caS_il, v_caS_li, v_caS_ll, v_caS_lll, v_caS_ri, v_caS_riii, sh_239, sh_240, sh_241, sh_242, sh_243, sh_244, sh_245, sh_246, sh_247, sh_248, sh_249, sh_250, sh_251, sh_252, sh_253, rf_239_4, rf_239_5, rf_239_6, rf_239_7, rf_239_20, rf_239_21, rf_239_22, rf_239_23, rf_239_27, rf_239_28, rf_239_32, rf_239_33, rf_239_34, rf_239_35, Int.reduceLE, Int.reduceLT, Int.reduceToNat, Int.reduceAdd, Int.reduceSub, Int.reduceMul, Int.reduceNeg, Int.reduceEq, Int.reduceNe, Nat.reduceAdd, Nat.reduceMul, Nat.reduceLT, Nat.reduceEqDiff, or_true, true_or, or_false, false_or, and_false, false_and, not_true_eq_false, not_false_eq_true, ne_eq, cN4, cN5, cN6, cN7, cN13, cN30, cN60, cN64, cN100, cN136, cN240, cN384, cN900, cN2040, cN3, v_sw_eq, v_swM_0, v_swM_1, v_swM_r, v_swM_n, swM_ite, app_ite, ex_some, bI_0, bI_1, nn_iff, Int.toNat_natCast, Int.toNat_of_nonneg, Int.natCast_add, cN1, wI_id2, wL_id2, if_pos, if_neg]
    exact ⟨σ1, rfl, f1, f2, f3, f4⟩
theorem k_passHours (hs : isS s) (P : PkS σ (s + 1) c w) (hw : WB c) (hq : WQ c) {V : Int} (K : StK s c V σ) {n : Nat} (hn : n ≤ 200) (h7 : c 7 + n ≤ 12000) : Wd (F_X7_passHours s n σ) (fun r σ' => r = gotN c n ∧ PkS σ' (s + 1) (hrN c n) w ∧ StK s (hrN c n) V σ' ∧ PhF s σ σ' ∧ (0 ≤ σ s 8 ∧ σ s 8 ≤ 1000000 → σ' s 8 = σ s 8 + tiN c n)) := by
  try simp (disch := omega) only [F_X7_passHours, E_X7_passHours, Wd_some, Wd_bn, Wd_sqM, Wd_outV, Wd_blkM, Wd_swM, Wd_ite, Wd_map, v_kS_0, v_kS_b, v_kS_r, v_kO_r, v_kW_0, v_kW_1, v_kW_2, v_kW_r, v_kL_0, v_kL_1, v_kL_2, v_kL_r, v_kU_0, ups_11, upsN, upsA, upA_same, upA_neA, fl_at, fl_neA, v_sq_eq, v_sqM_0, v_sqM_r, v_sqM_b, v_sqM_n, sqM_ite, v_asI, v_asR, v_inc, v_pfI, v_pfZ, v_pfO, v_paI, v_paO, v_exI, v_iff, v_rtI, v_rtZ, v_rtV, v_sk, v_brk, v_cnt, v_blk_eq, v_blkM_some, blkM_ite, v_lI, v_lR, v_cI, v_gI, v_gR, v_op1, v_op2, v_arI, v_arR, v_alen, v_tern, v_cmp1, v_cmp2, v_cAnd, v_cOr, v_cNot, v_cTern, v_bn_some, bn_ite, v_bn_none, v_outV_r, v_outV_0, v_outV_n, outV_ite, List.getD_cons_zero, List.getD_cons_succ, List.set_cons_zero, List.set_cons_succ, List.take_succ_cons, List.take_zero, List.drop_succ_cons, List.drop_zero, List.nil_append, List.cons_append, Option.map_some, Option.map_none, if_true, if_false, reduceIte, reduceCtorEq, decide_eq_true_eq, Bool.not_eq_true', decide_eq_false_iff_not, decide_eq_true, decide_eq_false, decide_true, decide_false, and_self, and_true, true_and, or_self, stO, v_caV_, v_caV_i, v_caV_ii, v_caV_iii, v_caV_iiii, v_caV_iiiii, v_caV_il, v_caV_iil, v_caV_l, v_caV_ll, v_caV_r, v_caV_ri, v_caV_rii, v_caV_riii, v_caV_riiii, v_caV_ir, v_caV_iri, v_caV_iiri, v_caS_i, v_caS_ii, v_caS_iii, v_caS_iiii, v_caS_iiiiii, v_caS_il, v_caS_li, v_caS_ll, v_caS_lll, v_caS_ri, v_caS_riii, sh_239, sh_240, sh_241, sh_242, sh_243, sh_244, sh_245, sh_246, sh_247, sh_248, sh_249, sh_250, sh_251, sh_252, sh_253, rf_239_4, rf_239_5, rf_239_6, rf_239_7, rf_239_20, rf_239_21, rf_239_22, rf_239_23, rf_239_27, rf_239_28, rf_239_32, rf_239_33, rf_239_34, rf_239_35, Int.reduceLE, Int.reduceLT, Int.reduceToNat, Int.reduceAdd, Int.reduceSub, Int.reduceMul, Int.reduceNeg, Int.reduceEq, Int.reduceNe, Nat.reduceAdd, Nat.reduceMul, Nat.reduceLT, Nat.reduceEqDiff, or_true, true_or, or_false, false_or, and_false, false_and, not_true_eq_false, not_false_eq_true, ne_eq, cN4, cN5, cN6, cN7, cN13, cN30, cN60, cN64, cN100, cN136, cN240, cN384, cN900, cN2040, cN3, v_sw_eq, v_swM_0, v_swM_1, v_swM_r, v_swM_n, swM_ite, app_ite, ex_some, bI_0, bI_1, nn_iff, Int.toNat_natCast, Int.toNat_of_nonneg, Int.natCast_add, cN1, wI_id2, wL_id2, if_pos, if_neg]
  refine Wd_mono (kl_pass0 hs P hw hq K hn h7) (fun o z hz => ?_)
  obtain ⟨ho, σ1, hz, f1, f2, f3, f4⟩ := hz
  subst ho; subst hz
  try simp (disch := omega) only [Wd_some, Wd_bn, Wd_sqM, Wd_outV, Wd_blkM, Wd_swM, Wd_ite, Wd_map, v_kS_0, v_kS_b, v_kS_r, v_kO_r, v_kW_0, v_kW_1, v_kW_2, v_kW_r, v_kL_0, v_kL_1, v_kL_2, v_kL_r, v_kU_0, ups_11, upsN, upsA, upA_same, upA_neA, fl_at, fl_neA, v_sq_eq, v_sqM_0, v_sqM_r, v_sqM_b, v_sqM_n, sqM_ite, v_asI, v_asR, v_inc, v_pfI, v_pfZ, v_pfO, v_paI, v_paO, v_exI, v_iff, v_rtI, v_rtZ, v_rtV, v_sk, v_brk, v_cnt, v_blk_eq, v_blkM_some, blkM_ite, v_lI, v_lR, v_cI, v_gI, v_gR, v_op1, v_op2, v_arI, v_arR, v_alen, v_tern, v_cmp1, v_cmp2, v_cAnd, v_cOr, v_cNot, v_cTern, v_bn_some, bn_ite, v_bn_none, v_outV_r, v_outV_0, v_outV_n, outV_ite, List.getD_cons_zero, List.getD_cons_succ, List.set_cons_zero, List.set_cons_succ, List.take_succ_cons, List.take_zero, List.drop_succ_cons, List.drop_zero, List.nil_append, List.cons_append, Option.map_some, Option.map_none, if_true, if_false, reduceIte, reduceCtorEq, decide_eq_true_eq, Bool.not_eq_true', decide_eq_false_iff_not, decide_eq_true, decide_eq_false, decide_true, decide_false, and_self, and_true, true_and, or_self, stO, v_caV_, v_caV_i, v_caV_ii, v_caV_iii, v_caV_iiii, v_caV_iiiii, v_caV_il, v_caV_iil, v_caV_l, v_caV_ll, v_caV_r, v_caV_ri, v_caV_rii, v_caV_riii, v_caV_riiii, v_caV_ir, v_caV_iri, v_caV_iiri, v_caS_i, v_caS_ii, v_caS_iii, v_caS_iiii, v_caS_iiiiii, v_caS_il, v_caS_li, v_caS_ll, v_caS_lll, v_caS_ri, v_caS_riii, sh_239, sh_240, sh_241, sh_242, sh_243, sh_244, sh_245, sh_246, sh_247, sh_248, sh_249, sh_250, sh_251, sh_252, sh_253, rf_239_4, rf_239_5, rf_239_6, rf_239_7, rf_239_20, rf_239_21, rf_239_22, rf_239_23, rf_239_27, rf_239_28, rf_239_32, rf_239_33, rf_239_34, rf_239_35, Int.reduceLE, Int.reduceLT, Int.reduceToNat, Int.reduceAdd, Int.reduceSub, Int.reduceMul, Int.reduceNeg, Int.reduceEq, Int.reduceNe, Nat.reduceAdd, Nat.reduceMul, Nat.reduceLT, Nat.reduceEqDiff, or_true, true_or, or_false, false_or, and_false, false_and, not_true_eq_false, not_false_eq_true, ne_eq, cN4, cN5, cN6, cN7, cN13, cN30, cN60, cN64, cN100, cN136, cN240, cN384, cN900, cN2040, cN3, v_sw_eq, v_swM_0, v_swM_1, v_swM_r, v_swM_n, swM_ite, app_ite, ex_some, bI_0, bI_1, nn_iff, Int.toNat_natCast, Int.toNat_of_nonneg, Int.natCast_add, cN1, wI_id2, wL_id2, if_pos, if_neg]
  exact ⟨f1, f2, f3, f4⟩
end KP
/-! the reference: an hour -/
section MH
variable {σ : SS}
def ptS (c : Nat → Int) (n : Nat) : Nat → Int := fun k => if 58 ≤ k ∧ k < 58 + bn3 c then c k + gainB c (playP c) ((k : Int) - 58) n else c k
def totF (c : Nat → Int) : Int → Int → Int := fun x y => if 0 ≤ holdB c (playP c) x y then (if pondB c x y = 1 then 3 else 1) else 0
theorem ptS_o {c : Nat → Int} (hw : WH c) {n k : Nat} (h : ¬ (58 ≤ k ∧ k < 64)) : ptS c n k = c k := by
  have := bn3_c hw
  unfold ptS
  rw [if_neg (by omega)]
theorem ptS_p {c : Nat → Int} (hw : WH c) {n : Nat} {b : Int} (b0 : 0 ≤ b) (b1 : b < c 3) : ptS c n (58 + b).toNat = c (58 + b).toNat + gainB c (playP c) b n := by
  have := bn3_c hw
  unfold ptS
  rw [if_pos (by omega)]
  congr 2
  omega
theorem ptS_0 (c : Nat → Int) : ptS c 0 = c := by
  funext k
  unfold ptS
  split
  · show c k + 0 = c k
    omega
  · rfl
theorem ptS_WB {c : Nat → Int} (hw : WB c) (hq : WQ c) {n : Nat} (hn : n ≤ 30) : WB (ptS c n) ∧ sndE c (ptS c n) := by
  have hH := hw.1
  refine ⟨WB_hp hw (fun k h1 h2 => ptS_o hw.1 h2) (fun b b0 b1 => ?_), fun k h1 h2 => ptS_o hw.1 (by omega)⟩
  have d1 := (hw.2.2.1 b b0 b1).1
  have q := hq b b0 b1
  have g := gainF_bd c (playP c) b n
  rw [ptS_p hw.1 b0 b1, ptS_o hw.1 (by omega)]
  omega
theorem ptS_s {c : Nat → Int} (hw : WH c) (n : Nat) : ptS c (n + 1) = if 0 ≤ holdB c (playP c) ((n : Int) % c 0) ((n : Int) / c 0) then upc (ptS c n) (58 + holdB c (playP c) ((n : Int) % c 0) ((n : Int) / c 0)).toNat (ptS c n (58 + holdB c (playP c) ((n : Int) % c 0) ((n : Int) / c 0)).toNat + totF c ((n : Int) % c 0) ((n : Int) / c 0)) else ptS c n := by
  have hn := bn3_c hw
  have r := holdB_rng hw (playP c) ((n : Int) % c 0) ((n : Int) / c 0)
  unfold totF
  generalize hh : holdB c (playP c) ((n : Int) % c 0) ((n : Int) / c 0) = wh at r
  by_cases g : 0 ≤ wh
  · rw [if_pos g, if_pos g]
    funext k
    by_cases e : k = (58 + wh).toNat
    · subst e
      rw [upc_same]
      unfold ptS
      rw [if_pos (by omega), if_pos (by omega), gainB_s, hh, if_pos (by omega)]
      omega
    · rw [upc_ne e]
      unfold ptS
      by_cases e2 : 58 ≤ k ∧ k < 58 + bn3 c
      · rw [if_pos e2, if_pos e2, gainB_s, hh, if_neg (by omega), Int.add_zero]
      · rw [if_neg e2, if_neg e2]
  · rw [if_neg g]
    funext k
    unfold ptS
    by_cases e2 : 58 ≤ k ∧ k < 58 + bn3 c
    · rw [if_pos e2, if_pos e2, gainB_s, hh, if_neg (by omega), Int.add_zero]
    · rw [if_neg e2, if_neg e2]
theorem upA_ups {σ : SS} {a k : Nat} {f : Nat → Int} {v : Int} : ups (upA σ a f) a k v = upA σ a (upc f k v) := by
  funext x y
  unfold ups upA upc
  by_cases hx : x = a
  · subst hx
    by_cases hy : y = k <;> simp [hy]
  · simp [hx]
theorem upA_eq {σ : SS} {a : Nat} {f : Nat → Int} (h : σ a = f) : upA σ a f = σ := by rw [← h, upA_id]
theorem upA_comm {σ : SS} {a b : Nat} {f g : Nat → Int} (h : a ≠ b) : upA (upA σ a f) b g = upA (upA σ b g) a f := by
  funext x
  by_cases hx : x = a
  · subst hx
    rw [upA_ne h, upA_same, upA_same]
  · by_cases hy : x = b
    · subst hy
      rw [upA_same, upA_ne hx, upA_same]
    · rw [upA_ne hy, upA_ne hx, upA_ne hx, upA_ne hy]
/-- at column x of row y -/
def GIn (σ : SS) (c : Nat → Int) (y x : Nat) (z : ZZ) : Prop := ∃ f, z = ([0, sumC c (totF c) (y * (c 0).toNat + x), (y : Int), (x : Int), 0, 0], [239, 0, 0, 0, 0, 0], upA (upA σ 249 f) 244 (ptS c (y * (c 0).toNat + x)))
theorem ml_goes1 {c : Nat → Int} (hw : WB c) (hq : WQ c) (hp : ∀ k : Nat, k < bn3 c → σ 248 k = playP c k) {y : Nat} (hy : (y : Int) < c 1) {z0 : ZZ} (hz0 : GIn σ c y 0 z0) : Wd (L_X12_goesHour_1 z0) (fun o z => o = .inl 0 ∧ GIn σ c y (c 0).toNat z) := by
  have hH := hw.1
  have hn := bn3_c hw.1
  unfold L_X12_goesHour_1
  refine Wd_it (GIn σ c y) (c 0).toNat hz0 ?_ ?_
  · intro i z hi hz
    obtain ⟨f, hz⟩ := hz
    subst hz
    have b2 := yx_bd hw.1 hy (x := i) (by omega)
    obtain ⟨W1, S1⟩ := ptS_WB hw hq b2
    have e48 : upA (upA σ 249 f) 244 (ptS c (y * (c 0).toNat + i)) 248 = σ 248 := by try simp (disch := omega) only [ups_11, upsN, upsA, upA_same, upA_neA, fl_at, fl_neA]
    have e44 : upA (upA σ 249 f) 244 (ptS c (y * (c 0).toNat + i)) 244 = ptS c (y * (c 0).toNat + i) := by try simp (disch := omega) only [ups_11, upsN, upsA, upA_same, upA_neA, fl_at, fl_neA]
    have hp1 : plO c (σ 248) := fun k hk => by
      rw [hp k (by omega)]
      exact plO_P hw.2.2.1 k hk
    have q := @m_holds (upA (upA σ 249 f) 244 (ptS c (y * (c 0).toNat + i))) (by rw [e44]; exact W1.1) (by rw [e44]; exact W1.2.1) (by rw [e44]; exact W1.2.2.1) (by rw [e44, e48]; exact plO_e2 S1 hp1) i y (by omega) (by omega)
    rw [e44, e48, holdB_e hw.1 S1 hp1, holdB_p hp] at q
    have pq := m_isPondAt (x := i) (y := y) (by omega) (by omega) (fl (upA (upA σ 249 f) 244 (ptS c (y * (c 0).toNat + i))) 249 (bn3 (ptS c (y * (c 0).toNat + i))) (noiB (ptS c (y * (c 0).toNat + i)) (σ 248) i y))
    have e44' : fl (upA (upA σ 249 f) 244 (ptS c (y * (c 0).toNat + i))) 249 (bn3 (ptS c (y * (c 0).toNat + i))) (noiB (ptS c (y * (c 0).toNat + i)) (σ 248) i y) 244 = ptS c (y * (c 0).toNat + i) := by try simp (disch := omega) only [ups_11, upsN, upsA, upA_same, upA_neA, fl_at, fl_neA]
    rw [e44', pondB_e S1 (by omega) (by omega)] at pq
    have ep := ptS_s hw.1 (y * (c 0).toNat + i)
    have e : ((y * (c 0).toNat + i : Nat) : Int) = (y : Int) * c 0 + i := by
      rw [Int.natCast_add, Int.natCast_mul, Int.toNat_of_nonneg (by omega)]
    have ⟨q1, q2⟩ := cell_xy (W := c 0) (x := (i : Int)) (y := (y : Int)) (by omega) (by omega)
    rw [e, q1, q2] at ep
    have s1 := sumC_s (c := c) (f := totF c) (x := i) (y := y) (by omega)
    have b1 := sumC_bd (c := c) (f := totF c) (B := 3) (by omega) (fun x y => by unfold totF; split <;> (try split) <;> omega) (y * (c 0).toNat + i)
    have r := holdB_rng hw.1 (playP c) i y
    have et : totF c i y = if 0 ≤ holdB c (playP c) i y then (if pondB c i y = 1 then 3 else 1) else 0 := rfl
    have fst : ∀ g, fl (upA (upA σ 249 f) 244 (ptS c (y * (c 0).toNat + i))) 249 (bn3 (ptS c (y * (c 0).toNat + i))) g = upA (upA σ 249 (fun k => if k < bn3 (ptS c (y * (c 0).toNat + i)) then g k else f k)) 244 (ptS c (y * (c 0).toNat + i)) := by
      intro g
      unfold fl
      funext x
      by_cases h1 : x = 249
      · subst h1
        rw [upA_same, upA_ne (by omega), upA_same, upA_ne (by omega), upA_same]
      · by_cases h2 : x = 244
        · subst h2
          rw [upA_ne (by omega), upA_same, upA_same]
        · rw [upA_ne h1, upA_ne h2, upA_ne h1, upA_ne h2, upA_ne h1]
    rw [fst] at q pq
    generalize holdB c (playP c) i y = wh at q ep r et
    generalize (fun k => if k < bn3 (ptS c (y * (c 0).toNat + i)) then noiB (ptS c (y * (c 0).toNat + i)) (σ 248) i y k else f k) = f2 at q pq
    by_cases g : wh < 0
    · rw [if_neg (by omega)] at ep et
      try simp (disch := omega) only [C_X12_goesHour_1, D_X12_goesHour_1, U_X12_goesHour_1, q, ptS_o hw.1, Wd_some, Wd_bn, Wd_sqM, Wd_outV, Wd_blkM, Wd_swM, Wd_ite, Wd_map, v_kS_0, v_kS_b, v_kS_r, v_kO_r, v_kW_0, v_kW_1, v_kW_2, v_kW_r, v_kL_0, v_kL_1, v_kL_2, v_kL_r, v_kU_0, ups_11, upsN, upsA, upA_same, upA_neA, fl_at, fl_neA, v_sq_eq, v_sqM_0, v_sqM_r, v_sqM_b, v_sqM_n, sqM_ite, v_asI, v_asR, v_inc, v_pfI, v_pfZ, v_pfO, v_paI, v_paO, v_exI, v_iff, v_rtI, v_rtZ, v_rtV, v_sk, v_brk, v_cnt, v_blk_eq, v_blkM_some, blkM_ite, v_lI, v_lR, v_cI, v_gI, v_gR, v_op1, v_op2, v_arI, v_arR, v_alen, v_tern, v_cmp1, v_cmp2, v_cAnd, v_cOr, v_cNot, v_cTern, v_bn_some, bn_ite, v_bn_none, v_outV_r, v_outV_0, v_outV_n, outV_ite, List.getD_cons_zero, List.getD_cons_succ, List.set_cons_zero, List.set_cons_succ, List.take_succ_cons, List.take_zero, List.drop_succ_cons, List.drop_zero, List.nil_append, List.cons_append, Option.map_some, Option.map_none, if_true, if_false, reduceIte, reduceCtorEq, decide_eq_true_eq, Bool.not_eq_true', decide_eq_false_iff_not, decide_eq_true, decide_eq_false, decide_true, decide_false, and_self, and_true, true_and, or_self, stO, v_caV_, v_caV_i, v_caV_ii, v_caV_iii, v_caV_iiii, v_caV_iiiii, v_caV_il, v_caV_iil, v_caV_l, v_caV_ll, v_caV_r, v_caV_ri, v_caV_rii, v_caV_riii, v_caV_riiii, v_caV_ir, v_caV_iri, v_caV_iiri, v_caS_i, v_caS_ii, v_caS_iii, v_caS_iiii, v_caS_iiiiii, v_caS_il, v_caS_li, v_caS_ll, v_caS_lll, v_caS_ri, v_caS_riii, sh_239, sh_240, sh_241, sh_242, sh_243, sh_244, sh_245, sh_246, sh_247, sh_248, sh_249, sh_250, sh_251, sh_252, sh_253, rf_239_4, rf_239_5, rf_239_6, rf_239_7, rf_239_20, rf_239_21, rf_239_22, rf_239_23, rf_239_27, rf_239_28, rf_239_32, rf_239_33, rf_239_34, rf_239_35, Int.reduceLE, Int.reduceLT, Int.reduceToNat, Int.reduceAdd, Int.reduceSub, Int.reduceMul, Int.reduceNeg, Int.reduceEq, Int.reduceNe, Nat.reduceAdd, Nat.reduceMul, Nat.reduceLT, Nat.reduceEqDiff, or_true, true_or, or_false, false_or, and_false, false_and, not_true_eq_false, not_false_eq_true, ne_eq, cN4, cN5, cN6, cN7, cN13, cN30, cN60, cN64, cN100, cN136, cN240, cN384, cN900, cN2040, cN3, v_sw_eq, v_swM_0, v_swM_1, v_swM_r, v_swM_n, swM_ite, app_ite, ex_some, bI_0, bI_1, nn_iff, Int.toNat_natCast, Int.toNat_of_nonneg, Int.natCast_add, cN1, wI_id2, wL_id2, if_pos, if_neg]
      refine ⟨f2, ?_⟩
      rw [← Nat.add_assoc, ep, Nat.add_assoc, s1, et, Int.add_zero]
      rfl
    · rw [if_pos (by omega)] at ep et
      have pv := ptS_p hw.1 (n := y * (c 0).toNat + i) (b := wh) (by omega) (by omega)
      have d1 := (hw.2.2.1 wh (by omega) (by omega)).1
      have qv := hq wh (by omega) (by omega)
      have gv := gainF_bd c (playP c) wh (y * (c 0).toNat + i)
      by_cases gp : pondB c i y = 1
      · rw [if_pos gp] at et
        rw [et, pv] at ep
        try simp (disch := omega) only [C_X12_goesHour_1, D_X12_goesHour_1, U_X12_goesHour_1, q, pq, gp, ptS_o hw.1, pv, Wd_some, Wd_bn, Wd_sqM, Wd_outV, Wd_blkM, Wd_swM, Wd_ite, Wd_map, v_kS_0, v_kS_b, v_kS_r, v_kO_r, v_kW_0, v_kW_1, v_kW_2, v_kW_r, v_kL_0, v_kL_1, v_kL_2, v_kL_r, v_kU_0, ups_11, upsN, upsA, upA_same, upA_neA, fl_at, fl_neA, v_sq_eq, v_sqM_0, v_sqM_r, v_sqM_b, v_sqM_n, sqM_ite, v_asI, v_asR, v_inc, v_pfI, v_pfZ, v_pfO, v_paI, v_paO, v_exI, v_iff, v_rtI, v_rtZ, v_rtV, v_sk, v_brk, v_cnt, v_blk_eq, v_blkM_some, blkM_ite, v_lI, v_lR, v_cI, v_gI, v_gR, v_op1, v_op2, v_arI, v_arR, v_alen, v_tern, v_cmp1, v_cmp2, v_cAnd, v_cOr, v_cNot, v_cTern, v_bn_some, bn_ite, v_bn_none, v_outV_r, v_outV_0, v_outV_n, outV_ite, List.getD_cons_zero, List.getD_cons_succ, List.set_cons_zero, List.set_cons_succ, List.take_succ_cons, List.take_zero, List.drop_succ_cons, List.drop_zero, List.nil_append, List.cons_append, Option.map_some, Option.map_none, if_true, if_false, reduceIte, reduceCtorEq, decide_eq_true_eq, Bool.not_eq_true', decide_eq_false_iff_not, decide_eq_true, decide_eq_false, decide_true, decide_false, and_self, and_true, true_and, or_self, stO, v_caV_, v_caV_i, v_caV_ii, v_caV_iii, v_caV_iiii, v_caV_iiiii, v_caV_il, v_caV_iil, v_caV_l, v_caV_ll, v_caV_r, v_caV_ri, v_caV_rii, v_caV_riii, v_caV_riiii, v_caV_ir, v_caV_iri, v_caV_iiri, v_caS_i, v_caS_ii, v_caS_iii, v_caS_iiii, v_caS_iiiiii, v_caS_il, v_caS_li, v_caS_ll, v_caS_lll, v_caS_ri, v_caS_riii, sh_239, sh_240, sh_241, sh_242, sh_243, sh_244, sh_245, sh_246, sh_247, sh_248, sh_249, sh_250, sh_251, sh_252, sh_253, rf_239_4, rf_239_5, rf_239_6, rf_239_7, rf_239_20, rf_239_21, rf_239_22, rf_239_23, rf_239_27, rf_239_28, rf_239_32, rf_239_33, rf_239_34, rf_239_35, Int.reduceLE, Int.reduceLT, Int.reduceToNat, Int.reduceAdd, Int.reduceSub, Int.reduceMul, Int.reduceNeg, Int.reduceEq, Int.reduceNe, Nat.reduceAdd, Nat.reduceMul, Nat.reduceLT, Nat.reduceEqDiff, or_true, true_or, or_false, false_or, and_false, false_and, not_true_eq_false, not_false_eq_true, ne_eq, cN4, cN5, cN6, cN7, cN13, cN30, cN60, cN64, cN100, cN136, cN240, cN384, cN900, cN2040, cN3, v_sw_eq, v_swM_0, v_swM_1, v_swM_r, v_swM_n, swM_ite, app_ite, ex_some, bI_0, bI_1, nn_iff, Int.toNat_natCast, Int.toNat_of_nonneg, Int.natCast_add, cN1, wI_id2, wL_id2, if_pos, if_neg]
        refine ⟨f2, ?_⟩
        rw [← Nat.add_assoc, ep, Nat.add_assoc, s1, et, upA_ups]
        rfl
      · rw [if_neg gp] at et
        rw [et, pv] at ep
        try simp (disch := omega) only [C_X12_goesHour_1, D_X12_goesHour_1, U_X12_goesHour_1, q, pq, gp, ptS_o hw.1, pv, Wd_some, Wd_bn, Wd_sqM, Wd_outV, Wd_blkM, Wd_swM, Wd_ite, Wd_map, v_kS_0, v_kS_b, v_kS_r, v_kO_r, v_kW_0, v_kW_1, v_kW_2, v_kW_r, v_kL_0, v_kL_1, v_kL_2, v_kL_r, v_kU_0, ups_11, upsN, upsA, upA_same, upA_neA, fl_at, fl_neA, v_sq_eq, v_sqM_0, v_sqM_r, v_sqM_b, v_sqM_n, sqM_ite, v_asI, v_asR, v_inc, v_pfI, v_pfZ, v_pfO, v_paI, v_paO, v_exI, v_iff, v_rtI, v_rtZ, v_rtV, v_sk, v_brk, v_cnt, v_blk_eq, v_blkM_some, blkM_ite, v_lI, v_lR, v_cI, v_gI, v_gR, v_op1, v_op2, v_arI, v_arR, v_alen, v_tern, v_cmp1, v_cmp2, v_cAnd, v_cOr, v_cNot, v_cTern, v_bn_some, bn_ite, v_bn_none, v_outV_r, v_outV_0, v_outV_n, outV_ite, List.getD_cons_zero, List.getD_cons_succ, List.set_cons_zero, List.set_cons_succ, List.take_succ_cons, List.take_zero, List.drop_succ_cons, List.drop_zero, List.nil_append, List.cons_append, Option.map_some, Option.map_none, if_true, if_false, reduceIte, reduceCtorEq, decide_eq_true_eq, Bool.not_eq_true', decide_eq_false_iff_not, decide_eq_true, decide_eq_false, decide_true, decide_false, and_self, and_true, true_and, or_self, stO, v_caV_, v_caV_i, v_caV_ii, v_caV_iii, v_caV_iiii, v_caV_iiiii, v_caV_il, v_caV_iil, v_caV_l, v_caV_ll, v_caV_r, v_caV_ri, v_caV_rii, v_caV_riii, v_caV_riiii, v_caV_ir, v_caV_iri, v_caV_iiri, v_caS_i, v_caS_ii, v_caS_iii, v_caS_iiii, v_caS_iiiiii, v_caS_il, v_caS_li, v_caS_ll, v_caS_lll, v_caS_ri, v_caS_riii, sh_239, sh_240, sh_241, sh_242, sh_243, sh_244, sh_245, sh_246, sh_247, sh_248, sh_249, sh_250, sh_251, sh_252, sh_253, rf_239_4, rf_239_5, rf_239_6, rf_239_7, rf_239_20, rf_239_21, rf_239_22, rf_239_23, rf_239_27, rf_239_28, rf_239_32, rf_239_33, rf_239_34, rf_239_35, Int.reduceLE, Int.reduceLT, Int.reduceToNat, Int.reduceAdd, Int.reduceSub, Int.reduceMul, Int.reduceNeg, Int.reduceEq, Int.reduceNe, Nat.reduceAdd, Nat.reduceMul, Nat.reduceLT, Nat.reduceEqDiff, or_true, true_or, or_false, false_or, and_false, false_and, not_true_eq_false, not_false_eq_true, ne_eq, cN4, cN5, cN6, cN7, cN13, cN30, cN60, cN64, cN100, cN136, cN240, cN384, cN900, cN2040, cN3, v_sw_eq, v_swM_0, v_swM_1, v_swM_r, v_swM_n, swM_ite, app_ite, ex_some, bI_0, bI_1, nn_iff, Int.toNat_natCast, Int.toNat_of_nonneg, Int.natCast_add, cN1, wI_id2, wL_id2, if_pos, if_neg]
        refine ⟨f2, ?_⟩
        rw [← Nat.add_assoc, ep, Nat.add_assoc, s1, et, upA_ups]
        rfl
  · intro z hz
    obtain ⟨f, hz⟩ := hz
    subst hz
    try simp (disch := omega) only [C_X12_goesHour_1, D_X12_goesHour_1, U_X12_goesHour_1, ptS_o hw.1, Wd_some, Wd_bn, Wd_sqM, Wd_outV, Wd_blkM, Wd_swM, Wd_ite, Wd_map, v_kS_0, v_kS_b, v_kS_r, v_kO_r, v_kW_0, v_kW_1, v_kW_2, v_kW_r, v_kL_0, v_kL_1, v_kL_2, v_kL_r, v_kU_0, ups_11, upsN, upsA, upA_same, upA_neA, fl_at, fl_neA, v_sq_eq, v_sqM_0, v_sqM_r, v_sqM_b, v_sqM_n, sqM_ite, v_asI, v_asR, v_inc, v_pfI, v_pfZ, v_pfO, v_paI, v_paO, v_exI, v_iff, v_rtI, v_rtZ, v_rtV, v_sk, v_brk, v_cnt, v_blk_eq, v_blkM_some, blkM_ite, v_lI, v_lR, v_cI, v_gI, v_gR, v_op1, v_op2, v_arI, v_arR, v_alen, v_tern, v_cmp1, v_cmp2, v_cAnd, v_cOr, v_cNot, v_cTern, v_bn_some, bn_ite, v_bn_none, v_outV_r, v_outV_0, v_outV_n, outV_ite, List.getD_cons_zero, List.getD_cons_succ, List.set_cons_zero, List.set_cons_succ, List.take_succ_cons, List.take_zero, List.drop_succ_cons, List.drop_zero, List.nil_append, List.cons_append, Option.map_some, Option.map_none, if_true, if_false, reduceIte, reduceCtorEq, decide_eq_true_eq, Bool.not_eq_true', decide_eq_false_iff_not, decide_eq_true, decide_eq_false, decide_true, decide_false, and_self, and_true, true_and, or_self, stO, v_caV_, v_caV_i, v_caV_ii, v_caV_iii, v_caV_iiii, v_caV_iiiii, v_caV_il, v_caV_iil, v_caV_l, v_caV_ll, v_caV_r, v_caV_ri, v_caV_rii, v_caV_riii, v_caV_riiii, v_caV_ir, v_caV_iri, v_caV_iiri, v_caS_i, v_caS_ii, v_caS_iii, v_caS_iiii, v_caS_iiiiii, v_caS_il, v_caS_li, v_caS_ll, v_caS_lll, v_caS_ri, v_caS_riii, sh_239, sh_240, sh_241, sh_242, sh_243, sh_244, sh_245, sh_246, sh_247, sh_248, sh_249, sh_250, sh_251, sh_252, sh_253, rf_239_4, rf_239_5, rf_239_6, rf_239_7, rf_239_20, rf_239_21, rf_239_22, rf_239_23, rf_239_27, rf_239_28, rf_239_32, rf_239_33, rf_239_34, rf_239_35, Int.reduceLE, Int.reduceLT, Int.reduceToNat, Int.reduceAdd, Int.reduceSub, Int.reduceMul, Int.reduceNeg, Int.reduceEq, Int.reduceNe, Nat.reduceAdd, Nat.reduceMul, Nat.reduceLT, Nat.reduceEqDiff, or_true, true_or, or_false, false_or, and_false, false_and, not_true_eq_false, not_false_eq_true, ne_eq, cN4, cN5, cN6, cN7, cN13, cN30, cN60, cN64, cN100, cN136, cN240, cN384, cN900, cN2040, cN3, v_sw_eq, v_swM_0, v_swM_1, v_swM_r, v_swM_n, swM_ite, app_ite, ex_some, bI_0, bI_1, nn_iff, Int.toNat_natCast, Int.toNat_of_nonneg, Int.natCast_add, cN1, wI_id2, wL_id2, if_pos, if_neg]
    exact ⟨f, by rw [Int.toNat_of_nonneg (by omega)]⟩
def GIo (σ : SS) (c : Nat → Int) (y : Nat) (z : ZZ) : Prop := ∃ f, z = ([0, sumC c (totF c) (y * (c 0).toNat), (y : Int), 0, 0, 0], [239, 0, 0, 0, 0, 0], upA (upA σ 249 f) 244 (ptS c (y * (c 0).toNat)))
theorem ml_goes0 {c : Nat → Int} (hw : WB c) (hq : WQ c) (hp : ∀ k : Nat, k < bn3 c → σ 248 k = playP c k) {z0 : ZZ} (hz0 : GIo σ c 0 z0) : Wd (L_X12_goesHour_0 z0) (fun o z => o = .inl 0 ∧ GIo σ c (c 1).toNat z) := by
  have hH := hw.1
  unfold L_X12_goesHour_0
  refine Wd_it (GIo σ c) (c 1).toNat hz0 ?_ ?_
  · intro i z hi hz
    obtain ⟨f1, hz⟩ := hz
    subst hz
    have q := ml_goes1 hw hq hp (y := i) (by omega) (z0 := ([0, sumC c (totF c) (i * (c 0).toNat), (i : Int), 0, 0, 0], [239, 0, 0, 0, 0, 0], upA (upA σ 249 f1) 244 (ptS c (i * (c 0).toNat)))) ⟨f1, by rw [Nat.add_zero]; rfl⟩
    try simp (disch := omega) only [C_X12_goesHour_0, D_X12_goesHour_0, U_X12_goesHour_0, ptS_o hw.1, Wd_some, Wd_bn, Wd_sqM, Wd_outV, Wd_blkM, Wd_swM, Wd_ite, Wd_map, v_kS_0, v_kS_b, v_kS_r, v_kO_r, v_kW_0, v_kW_1, v_kW_2, v_kW_r, v_kL_0, v_kL_1, v_kL_2, v_kL_r, v_kU_0, ups_11, upsN, upsA, upA_same, upA_neA, fl_at, fl_neA, v_sq_eq, v_sqM_0, v_sqM_r, v_sqM_b, v_sqM_n, sqM_ite, v_asI, v_asR, v_inc, v_pfI, v_pfZ, v_pfO, v_paI, v_paO, v_exI, v_iff, v_rtI, v_rtZ, v_rtV, v_sk, v_brk, v_cnt, v_blk_eq, v_blkM_some, blkM_ite, v_lI, v_lR, v_cI, v_gI, v_gR, v_op1, v_op2, v_arI, v_arR, v_alen, v_tern, v_cmp1, v_cmp2, v_cAnd, v_cOr, v_cNot, v_cTern, v_bn_some, bn_ite, v_bn_none, v_outV_r, v_outV_0, v_outV_n, outV_ite, List.getD_cons_zero, List.getD_cons_succ, List.set_cons_zero, List.set_cons_succ, List.take_succ_cons, List.take_zero, List.drop_succ_cons, List.drop_zero, List.nil_append, List.cons_append, Option.map_some, Option.map_none, if_true, if_false, reduceIte, reduceCtorEq, decide_eq_true_eq, Bool.not_eq_true', decide_eq_false_iff_not, decide_eq_true, decide_eq_false, decide_true, decide_false, and_self, and_true, true_and, or_self, stO, v_caV_, v_caV_i, v_caV_ii, v_caV_iii, v_caV_iiii, v_caV_iiiii, v_caV_il, v_caV_iil, v_caV_l, v_caV_ll, v_caV_r, v_caV_ri, v_caV_rii, v_caV_riii, v_caV_riiii, v_caV_ir, v_caV_iri, v_caV_iiri, v_caS_i, v_caS_ii, v_caS_iii, v_caS_iiii, v_caS_iiiiii, v_caS_il, v_caS_li, v_caS_ll, v_caS_lll, v_caS_ri, v_caS_riii, sh_239, sh_240, sh_241, sh_242, sh_243, sh_244, sh_245, sh_246, sh_247, sh_248, sh_249, sh_250, sh_251, sh_252, sh_253, rf_239_4, rf_239_5, rf_239_6, rf_239_7, rf_239_20, rf_239_21, rf_239_22, rf_239_23, rf_239_27, rf_239_28, rf_239_32, rf_239_33, rf_239_34, rf_239_35, Int.reduceLE, Int.reduceLT, Int.reduceToNat, Int.reduceAdd, Int.reduceSub, Int.reduceMul, Int.reduceNeg, Int.reduceEq, Int.reduceNe, Nat.reduceAdd, Nat.reduceMul, Nat.reduceLT, Nat.reduceEqDiff, or_true, true_or, or_false, false_or, and_false, false_and, not_true_eq_false, not_false_eq_true, ne_eq, cN4, cN5, cN6, cN7, cN13, cN30, cN60, cN64, cN100, cN136, cN240, cN384, cN900, cN2040, cN3, v_sw_eq, v_swM_0, v_swM_1, v_swM_r, v_swM_n, swM_ite, app_ite, ex_some, bI_0, bI_1, nn_iff, Int.toNat_natCast, Int.toNat_of_nonneg, Int.natCast_add, cN1, wI_id2, wL_id2, if_pos, if_neg]
    refine Wd_mono q (fun o z hz => ?_)
    obtain ⟨ho, f2, hz⟩ := hz
    subst ho; subst hz
    try simp (disch := omega) only [U_X12_goesHour_0, Wd_some, Wd_bn, Wd_sqM, Wd_outV, Wd_blkM, Wd_swM, Wd_ite, Wd_map, v_kS_0, v_kS_b, v_kS_r, v_kO_r, v_kW_0, v_kW_1, v_kW_2, v_kW_r, v_kL_0, v_kL_1, v_kL_2, v_kL_r, v_kU_0, ups_11, upsN, upsA, upA_same, upA_neA, fl_at, fl_neA, v_sq_eq, v_sqM_0, v_sqM_r, v_sqM_b, v_sqM_n, sqM_ite, v_asI, v_asR, v_inc, v_pfI, v_pfZ, v_pfO, v_paI, v_paO, v_exI, v_iff, v_rtI, v_rtZ, v_rtV, v_sk, v_brk, v_cnt, v_blk_eq, v_blkM_some, blkM_ite, v_lI, v_lR, v_cI, v_gI, v_gR, v_op1, v_op2, v_arI, v_arR, v_alen, v_tern, v_cmp1, v_cmp2, v_cAnd, v_cOr, v_cNot, v_cTern, v_bn_some, bn_ite, v_bn_none, v_outV_r, v_outV_0, v_outV_n, outV_ite, List.getD_cons_zero, List.getD_cons_succ, List.set_cons_zero, List.set_cons_succ, List.take_succ_cons, List.take_zero, List.drop_succ_cons, List.drop_zero, List.nil_append, List.cons_append, Option.map_some, Option.map_none, if_true, if_false, reduceIte, reduceCtorEq, decide_eq_true_eq, Bool.not_eq_true', decide_eq_false_iff_not, decide_eq_true, decide_eq_false, decide_true, decide_false, and_self, and_true, true_and, or_self, stO, v_caV_, v_caV_i, v_caV_ii, v_caV_iii, v_caV_iiii, v_caV_iiiii, v_caV_il, v_caV_iil, v_caV_l, v_caV_ll, v_caV_r, v_caV_ri, v_caV_rii, v_caV_riii, v_caV_riiii, v_caV_ir, v_caV_iri, v_caV_iiri, v_caS_i, v_caS_ii, v_caS_iii, v_caS_iiii, v_caS_iiiiii, v_caS_il, v_caS_li, v_caS_ll, v_caS_lll, v_caS_ri, v_caS_riii, sh_239, sh_240, sh_241, sh_242, sh_243, sh_244, sh_245, sh_246, sh_247, sh_248, sh_249, sh_250, sh_251, sh_252, sh_253, rf_239_4, rf_239_5, rf_239_6, rf_239_7, rf_239_20, rf_239_21, rf_239_22, rf_239_23, rf_239_27, rf_239_28, rf_239_32, rf_239_33, rf_239_34, rf_239_35, Int.reduceLE, Int.reduceLT, Int.reduceToNat, Int.reduceAdd, Int.reduceSub, Int.reduceMul, Int.reduceNeg, Int.reduceEq, Int.reduceNe, Nat.reduceAdd, Nat.reduceMul, Nat.reduceLT, Nat.reduceEqDiff, or_true, true_or, or_false, false_or, and_false, false_and, not_true_eq_false, not_false_eq_true, ne_eq, cN4, cN5, cN6, cN7, cN13, cN30, cN60, cN64, cN100, cN136, cN240, cN384, cN900, cN2040, cN3, v_sw_eq, v_swM_0, v_swM_1, v_swM_r, v_swM_n, swM_ite, app_ite, ex_some, bI_0, bI_1, nn_iff, Int.toNat_natCast, Int.toNat_of_nonneg, Int.natCast_add, cN1, wI_id2, wL_id2, if_pos, if_neg]
    exact ⟨f2, by rw [Nat.succ_mul]; rfl⟩
  · intro z hz
    obtain ⟨f1, hz⟩ := hz
    subst hz
    try simp (disch := omega) only [C_X12_goesHour_0, D_X12_goesHour_0, U_X12_goesHour_0, ptS_o hw.1, Wd_some, Wd_bn, Wd_sqM, Wd_outV, Wd_blkM, Wd_swM, Wd_ite, Wd_map, v_kS_0, v_kS_b, v_kS_r, v_kO_r, v_kW_0, v_kW_1, v_kW_2, v_kW_r, v_kL_0, v_kL_1, v_kL_2, v_kL_r, v_kU_0, ups_11, upsN, upsA, upA_same, upA_neA, fl_at, fl_neA, v_sq_eq, v_sqM_0, v_sqM_r, v_sqM_b, v_sqM_n, sqM_ite, v_asI, v_asR, v_inc, v_pfI, v_pfZ, v_pfO, v_paI, v_paO, v_exI, v_iff, v_rtI, v_rtZ, v_rtV, v_sk, v_brk, v_cnt, v_blk_eq, v_blkM_some, blkM_ite, v_lI, v_lR, v_cI, v_gI, v_gR, v_op1, v_op2, v_arI, v_arR, v_alen, v_tern, v_cmp1, v_cmp2, v_cAnd, v_cOr, v_cNot, v_cTern, v_bn_some, bn_ite, v_bn_none, v_outV_r, v_outV_0, v_outV_n, outV_ite, List.getD_cons_zero, List.getD_cons_succ, List.set_cons_zero, List.set_cons_succ, List.take_succ_cons, List.take_zero, List.drop_succ_cons, List.drop_zero, List.nil_append, List.cons_append, Option.map_some, Option.map_none, if_true, if_false, reduceIte, reduceCtorEq, decide_eq_true_eq, Bool.not_eq_true', decide_eq_false_iff_not, decide_eq_true, decide_eq_false, decide_true, decide_false, and_self, and_true, true_and, or_self, stO, v_caV_, v_caV_i, v_caV_ii, v_caV_iii, v_caV_iiii, v_caV_iiiii, v_caV_il, v_caV_iil, v_caV_l, v_caV_ll, v_caV_r, v_caV_ri, v_caV_rii, v_caV_riii, v_caV_riiii, v_caV_ir, v_caV_iri, v_caV_iiri, v_caS_i, v_caS_ii, v_caS_iii, v_caS_iiii, v_caS_iiiiii, v_caS_il, v_caS_li, v_caS_ll, v_caS_lll, v_caS_ri, v_caS_riii, sh_239, sh_240, sh_241, sh_242, sh_243, sh_244, sh_245, sh_246, sh_247, sh_248, sh_249, sh_250, sh_251, sh_252, sh_253, rf_239_4, rf_239_5, rf_239_6, rf_239_7, rf_239_20, rf_239_21, rf_239_22, rf_239_23, rf_239_27, rf_239_28, rf_239_32, rf_239_33, rf_239_34, rf_239_35, Int.reduceLE, Int.reduceLT, Int.reduceToNat, Int.reduceAdd, Int.reduceSub, Int.reduceMul, Int.reduceNeg, Int.reduceEq, Int.reduceNe, Nat.reduceAdd, Nat.reduceMul, Nat.reduceLT, Nat.reduceEqDiff, or_true, true_or, or_false, false_or, and_false, false_and, not_true_eq_false, not_false_eq_true, ne_eq, cN4, cN5, cN6, cN7, cN13, cN30, cN60, cN64, cN100, cN136, cN240, cN384, cN900, cN2040, cN3, v_sw_eq, v_swM_0, v_swM_1, v_swM_r, v_swM_n, swM_ite, app_ite, ex_some, bI_0, bI_1, nn_iff, Int.toNat_natCast, Int.toNat_of_nonneg, Int.natCast_add, cN1, wI_id2, wL_id2, if_pos, if_neg]
    exact ⟨f1, by rw [Int.toNat_of_nonneg (by omega)]⟩
/-- the lips of the first i bands, all points being counted -/
def lpS (c : Nat → Int) (i : Nat) : Nat → Int := fun k => if 46 ≤ k ∧ k < 46 + i then lipsB c (playP c) ((k : Int) - 46) else ptS c (nC c) k
theorem ml_goes2 {c : Nat → Int} (hw : WB c) (hp : ∀ k : Nat, k < bn3 c → σ 248 k = playP c k) (pt : Int) : L_X12_goesHour_2 ([0, pt, 0, 0, 0, 0], [239, 0, 0, 0, 0, 0], upA σ 244 (ptS c (nC c))) = some (.inl 0, ([0, pt, c 3, 0, 0, 0], [239, 0, 0, 0, 0, 0], upA σ 244 (lpS c (bn3 c)))) := by
  refine Wd_out ?_
  have hH := hw.1
  have hn := bn3_c hw.1
  unfold L_X12_goesHour_2
  refine Wd_it (fun i z => z = ([0, pt, (i : Int), 0, 0, 0], [239, 0, 0, 0, 0, 0], upA σ 244 (lpS c i))) (bn3 c) ?_ ?_ ?_
  · have e0 : lpS c 0 = ptS c (nC c) := by funext k; unfold lpS; rw [if_neg (by omega)]
    rw [e0]
    rfl
  · intro i z hi hz
    subst hz
    have lo : ∀ k, ¬ (46 ≤ k ∧ k < 46 + i) → ¬ (58 ≤ k ∧ k < 64) → lpS c i k = c k := fun k h1 h2 => by
      unfold lpS
      rw [if_neg h1, ptS_o hw.1 h2]
    have d1 := (hw.2.2.1 i (by omega) (by omega)).1
    have en := plO_P hw.2.2.1 i (by omega)
    have e8 := hp i hi
    have es : lpS c (i + 1) = upc (lpS c i) (46 + (i : Int)).toNat (lipsB c (playP c) i) := by
      funext k
      by_cases e : k = (46 + (i : Int)).toNat
      · subst e
        rw [upc_same]
        unfold lpS
        rw [if_pos (by omega)]
        congr 1
        omega
      · rw [upc_ne e]
        unfold lpS
        by_cases e2 : 46 ≤ k ∧ k < 46 + i
        · rw [if_pos e2, if_pos (by omega)]
        · rw [if_neg e2, if_neg (by omega)]
    have el : lipsB c (playP c) i = if playP c i < 6 then c (46 + (i : Int)).toNat - c (16 + playP c i).toNat else if c (46 + (i : Int)).toNat + c 5 < c (52 + (i : Int)).toNat then c (46 + (i : Int)).toNat + c 5 else c (52 + (i : Int)).toNat := by
      unfold lipsB
      rw [Int.toNat_natCast]
    by_cases g6 : playP c i = 6
    · rw [if_neg (by omega)] at el
      try simp (disch := omega) only [C_X12_goesHour_2, D_X12_goesHour_2, U_X12_goesHour_2, e8, g6, lo, Wd_some, Wd_bn, Wd_sqM, Wd_outV, Wd_blkM, Wd_swM, Wd_ite, Wd_map, v_kS_0, v_kS_b, v_kS_r, v_kO_r, v_kW_0, v_kW_1, v_kW_2, v_kW_r, v_kL_0, v_kL_1, v_kL_2, v_kL_r, v_kU_0, ups_11, upsN, upsA, upA_same, upA_neA, fl_at, fl_neA, v_sq_eq, v_sqM_0, v_sqM_r, v_sqM_b, v_sqM_n, sqM_ite, v_asI, v_asR, v_inc, v_pfI, v_pfZ, v_pfO, v_paI, v_paO, v_exI, v_iff, v_rtI, v_rtZ, v_rtV, v_sk, v_brk, v_cnt, v_blk_eq, v_blkM_some, blkM_ite, v_lI, v_lR, v_cI, v_gI, v_gR, v_op1, v_op2, v_arI, v_arR, v_alen, v_tern, v_cmp1, v_cmp2, v_cAnd, v_cOr, v_cNot, v_cTern, v_bn_some, bn_ite, v_bn_none, v_outV_r, v_outV_0, v_outV_n, outV_ite, List.getD_cons_zero, List.getD_cons_succ, List.set_cons_zero, List.set_cons_succ, List.take_succ_cons, List.take_zero, List.drop_succ_cons, List.drop_zero, List.nil_append, List.cons_append, Option.map_some, Option.map_none, if_true, if_false, reduceIte, reduceCtorEq, decide_eq_true_eq, Bool.not_eq_true', decide_eq_false_iff_not, decide_eq_true, decide_eq_false, decide_true, decide_false, and_self, and_true, true_and, or_self, stO, v_caV_, v_caV_i, v_caV_ii, v_caV_iii, v_caV_iiii, v_caV_iiiii, v_caV_il, v_caV_iil, v_caV_l, v_caV_ll, v_caV_r, v_caV_ri, v_caV_rii, v_caV_riii, v_caV_riiii, v_caV_ir, v_caV_iri, v_caV_iiri, v_caS_i, v_caS_ii, v_caS_iii, v_caS_iiii, v_caS_iiiiii, v_caS_il, v_caS_li, v_caS_ll, v_caS_lll, v_caS_ri, v_caS_riii, sh_239, sh_240, sh_241, sh_242, sh_243, sh_244, sh_245, sh_246, sh_247, sh_248, sh_249, sh_250, sh_251, sh_252, sh_253, rf_239_4, rf_239_5, rf_239_6, rf_239_7, rf_239_20, rf_239_21, rf_239_22, rf_239_23, rf_239_27, rf_239_28, rf_239_32, rf_239_33, rf_239_34, rf_239_35, Int.reduceLE, Int.reduceLT, Int.reduceToNat, Int.reduceAdd, Int.reduceSub, Int.reduceMul, Int.reduceNeg, Int.reduceEq, Int.reduceNe, Nat.reduceAdd, Nat.reduceMul, Nat.reduceLT, Nat.reduceEqDiff, or_true, true_or, or_false, false_or, and_false, false_and, not_true_eq_false, not_false_eq_true, ne_eq, cN4, cN5, cN6, cN7, cN13, cN30, cN60, cN64, cN100, cN136, cN240, cN384, cN900, cN2040, cN3, v_sw_eq, v_swM_0, v_swM_1, v_swM_r, v_swM_n, swM_ite, app_ite, ex_some, bI_0, bI_1, nn_iff, Int.toNat_natCast, Int.toNat_of_nonneg, Int.natCast_add, cN1, wI_id2, wL_id2, if_pos, if_neg]
      rw [es, el, upA_ups]
    · have t1 := hw.2.1 (playP c i) (by omega) (by omega)
      rw [if_pos (by omega)] at el
      try simp (disch := omega) only [C_X12_goesHour_2, D_X12_goesHour_2, U_X12_goesHour_2, e8, g6, lo, Wd_some, Wd_bn, Wd_sqM, Wd_outV, Wd_blkM, Wd_swM, Wd_ite, Wd_map, v_kS_0, v_kS_b, v_kS_r, v_kO_r, v_kW_0, v_kW_1, v_kW_2, v_kW_r, v_kL_0, v_kL_1, v_kL_2, v_kL_r, v_kU_0, ups_11, upsN, upsA, upA_same, upA_neA, fl_at, fl_neA, v_sq_eq, v_sqM_0, v_sqM_r, v_sqM_b, v_sqM_n, sqM_ite, v_asI, v_asR, v_inc, v_pfI, v_pfZ, v_pfO, v_paI, v_paO, v_exI, v_iff, v_rtI, v_rtZ, v_rtV, v_sk, v_brk, v_cnt, v_blk_eq, v_blkM_some, blkM_ite, v_lI, v_lR, v_cI, v_gI, v_gR, v_op1, v_op2, v_arI, v_arR, v_alen, v_tern, v_cmp1, v_cmp2, v_cAnd, v_cOr, v_cNot, v_cTern, v_bn_some, bn_ite, v_bn_none, v_outV_r, v_outV_0, v_outV_n, outV_ite, List.getD_cons_zero, List.getD_cons_succ, List.set_cons_zero, List.set_cons_succ, List.take_succ_cons, List.take_zero, List.drop_succ_cons, List.drop_zero, List.nil_append, List.cons_append, Option.map_some, Option.map_none, if_true, if_false, reduceIte, reduceCtorEq, decide_eq_true_eq, Bool.not_eq_true', decide_eq_false_iff_not, decide_eq_true, decide_eq_false, decide_true, decide_false, and_self, and_true, true_and, or_self, stO, v_caV_, v_caV_i, v_caV_ii, v_caV_iii, v_caV_iiii, v_caV_iiiii, v_caV_il, v_caV_iil, v_caV_l, v_caV_ll, v_caV_r, v_caV_ri, v_caV_rii, v_caV_riii, v_caV_riiii, v_caV_ir, v_caV_iri, v_caV_iiri, v_caS_i, v_caS_ii, v_caS_iii, v_caS_iiii, v_caS_iiiiii, v_caS_il, v_caS_li, v_caS_ll, v_caS_lll, v_caS_ri, v_caS_riii, sh_239, sh_240, sh_241, sh_242, sh_243, sh_244, sh_245, sh_246, sh_247, sh_248, sh_249, sh_250, sh_251, sh_252, sh_253, rf_239_4, rf_239_5, rf_239_6, rf_239_7, rf_239_20, rf_239_21, rf_239_22, rf_239_23, rf_239_27, rf_239_28, rf_239_32, rf_239_33, rf_239_34, rf_239_35, Int.reduceLE, Int.reduceLT, Int.reduceToNat, Int.reduceAdd, Int.reduceSub, Int.reduceMul, Int.reduceNeg, Int.reduceEq, Int.reduceNe, Nat.reduceAdd, Nat.reduceMul, Nat.reduceLT, Nat.reduceEqDiff, or_true, true_or, or_false, false_or, and_false, false_and, not_true_eq_false, not_false_eq_true, ne_eq, cN4, cN5, cN6, cN7, cN13, cN30, cN60, cN64, cN100, cN136, cN240, cN384, cN900, cN2040, cN3, v_sw_eq, v_swM_0, v_swM_1, v_swM_r, v_swM_n, swM_ite, app_ite, ex_some, bI_0, bI_1, nn_iff, Int.toNat_natCast, Int.toNat_of_nonneg, Int.natCast_add, cN1, wI_id2, wL_id2, if_pos, if_neg]
      rw [es, el, upA_ups]
  · intro z hz
    subst hz
    have lo : lpS c (bn3 c) 3 = c 3 := by
      unfold lpS
      rw [if_neg (by omega), ptS_o hw.1 (by omega)]
    try simp (disch := omega) only [C_X12_goesHour_2, D_X12_goesHour_2, U_X12_goesHour_2, lo, hn, Wd_some, Wd_bn, Wd_sqM, Wd_outV, Wd_blkM, Wd_swM, Wd_ite, Wd_map, v_kS_0, v_kS_b, v_kS_r, v_kO_r, v_kW_0, v_kW_1, v_kW_2, v_kW_r, v_kL_0, v_kL_1, v_kL_2, v_kL_r, v_kU_0, ups_11, upsN, upsA, upA_same, upA_neA, fl_at, fl_neA, v_sq_eq, v_sqM_0, v_sqM_r, v_sqM_b, v_sqM_n, sqM_ite, v_asI, v_asR, v_inc, v_pfI, v_pfZ, v_pfO, v_paI, v_paO, v_exI, v_iff, v_rtI, v_rtZ, v_rtV, v_sk, v_brk, v_cnt, v_blk_eq, v_blkM_some, blkM_ite, v_lI, v_lR, v_cI, v_gI, v_gR, v_op1, v_op2, v_arI, v_arR, v_alen, v_tern, v_cmp1, v_cmp2, v_cAnd, v_cOr, v_cNot, v_cTern, v_bn_some, bn_ite, v_bn_none, v_outV_r, v_outV_0, v_outV_n, outV_ite, List.getD_cons_zero, List.getD_cons_succ, List.set_cons_zero, List.set_cons_succ, List.take_succ_cons, List.take_zero, List.drop_succ_cons, List.drop_zero, List.nil_append, List.cons_append, Option.map_some, Option.map_none, if_true, if_false, reduceIte, reduceCtorEq, decide_eq_true_eq, Bool.not_eq_true', decide_eq_false_iff_not, decide_eq_true, decide_eq_false, decide_true, decide_false, and_self, and_true, true_and, or_self, stO, v_caV_, v_caV_i, v_caV_ii, v_caV_iii, v_caV_iiii, v_caV_iiiii, v_caV_il, v_caV_iil, v_caV_l, v_caV_ll, v_caV_r, v_caV_ri, v_caV_rii, v_caV_riii, v_caV_riiii, v_caV_ir, v_caV_iri, v_caV_iiri, v_caS_i, v_caS_ii, v_caS_iii, v_caS_iiii, v_caS_iiiiii, v_caS_il, v_caS_li, v_caS_ll, v_caS_lll, v_caS_ri, v_caS_riii, sh_239, sh_240, sh_241, sh_242, sh_243, sh_244, sh_245, sh_246, sh_247, sh_248, sh_249, sh_250, sh_251, sh_252, sh_253, rf_239_4, rf_239_5, rf_239_6, rf_239_7, rf_239_20, rf_239_21, rf_239_22, rf_239_23, rf_239_27, rf_239_28, rf_239_32, rf_239_33, rf_239_34, rf_239_35, Int.reduceLE, Int.reduceLT, Int.reduceToNat, Int.reduceAdd, Int.reduceSub, Int.reduceMul, Int.reduceNeg, Int.reduceEq, Int.reduceNe, Nat.reduceAdd, Nat.reduceMul, Nat.reduceLT, Nat.reduceEqDiff, or_true, true_or, or_false, false_or, and_false, false_and, not_true_eq_false, not_false_eq_true, ne_eq, cN4, cN5, cN6, cN7, cN13, cN30, cN60, cN64, cN100, cN136, cN240, cN384, cN900, cN2040, cN3, v_sw_eq, v_swM_0, v_swM_1, v_swM_r, v_swM_n, swM_ite, app_ite, ex_some, bI_0, bI_1, nn_iff, Int.toNat_natCast, Int.toNat_of_nonneg, Int.natCast_add, cN1, wI_id2, wL_id2, if_pos, if_neg]
/-- the sum over the bands is the sum over the cells that are held -/
theorem sumN_one {v : Int} {wh : Int} : ∀ n : Nat, sumN (fun b => if wh = (b : Int) then v else 0) n = if 0 ≤ wh ∧ wh < n then v else 0
  | 0 => by
    rw [if_neg (by omega)]
    rfl
  | n + 1 => by
    show sumN (fun b => if wh = (b : Int) then v else 0) n + (if wh = (n : Int) then v else 0) = _
    rw [sumN_one n]
    by_cases h : wh = (n : Int)
    · rw [if_neg (by omega), if_pos h, if_pos (by omega)]
      omega
    · rw [if_neg h]
      by_cases h2 : 0 ≤ wh ∧ wh < (n : Int)
      · rw [if_pos h2, if_pos (by omega)]
        omega
      · rw [if_neg h2, if_neg (by omega)]
        rfl
theorem sumN_plus {f g : Nat → Int} : ∀ n : Nat, sumN (fun k => f k + g k) n = sumN f n + sumN g n
  | 0 => rfl
  | n + 1 => by
    show sumN (fun k => f k + g k) n + (f n + g n) = (sumN f n + f n) + (sumN g n + g n)
    rw [sumN_plus n]
    omega
theorem pts_eq {c : Nat → Int} (hw : WH c) : ∀ n : Nat, sumN (fun b => gainB c (playP c) b n) (bn3 c) = sumC c (totF c) n
  | 0 => sumN_zero _ (fun _ _ => rfl)
  | n + 1 => by
    have hn := bn3_c hw
    have r := holdB_rng hw (playP c) ((n : Int) % c 0) ((n : Int) / c 0)
    have e : (fun b : Nat => gainB c (playP c) b (n + 1)) = fun b : Nat => gainB c (playP c) b n + (if holdB c (playP c) ((n : Int) % c 0) ((n : Int) / c 0) = (b : Int) then (if pondB c ((n : Int) % c 0) ((n : Int) / c 0) = 1 then 3 else 1) else 0) := rfl
    rw [e, sumN_plus, pts_eq hw n, sumN_one, sumC_1]
    unfold totF
    congr 1
    by_cases g : 0 ≤ holdB c (playP c) ((n : Int) % c 0) ((n : Int) / c 0)
    · rw [if_pos g, if_pos (by omega)]
    · rw [if_neg g, if_neg (by omega)]
theorem m_goesHour (hw : WB (σ 244)) (hq : WQ (σ 244)) (h7 : σ 244 7 < 12000) : Wd (F_X12_goesHour 239 σ) (fun r σ' => r = ptsB (σ 244) ∧ σ' 244 = hourB (σ 244) ∧ (∀ a, a ≠ 239 → a ≠ 244 → a ≠ 248 → a ≠ 249 → σ' a = σ a) ∧ (∀ k, k ≠ 29 → σ' 239 k = σ 239 k) ∧ σ' 239 29 = tirB (σ 244) (bn3 (σ 244))) := by
  have hH := hw.1
  have hn := bn3_c hw.1
  have e44 : nowM σ (bn3 (σ 244)) 244 = σ 244 := nowM_a (by omega) (by omega)
  have hp : ∀ k : Nat, k < bn3 (σ 244) → nowM σ (bn3 (σ 244)) 248 k = playP (σ 244) k := fun k hk => nowM_p hk
  have q0 := ml_goes0 (σ := nowM σ (bn3 (σ 244))) hw hq hp (z0 := ([0, 0, 0, 0, 0, 0], [239, 0, 0, 0, 0, 0], nowM σ (bn3 (σ 244)))) ⟨nowM σ (bn3 (σ 244)) 249, by
    rw [Nat.zero_mul, ptS_0, upA_id, upA_eq e44]
    rfl⟩
  try simp (disch := omega) only [F_X12_goesHour, E_X12_goesHour, m_laysNow hw.1 hw.2.2.1, Wd_some, Wd_bn, Wd_sqM, Wd_outV, Wd_blkM, Wd_swM, Wd_ite, Wd_map, v_kS_0, v_kS_b, v_kS_r, v_kO_r, v_kW_0, v_kW_1, v_kW_2, v_kW_r, v_kL_0, v_kL_1, v_kL_2, v_kL_r, v_kU_0, ups_11, upsN, upsA, upA_same, upA_neA, fl_at, fl_neA, v_sq_eq, v_sqM_0, v_sqM_r, v_sqM_b, v_sqM_n, sqM_ite, v_asI, v_asR, v_inc, v_pfI, v_pfZ, v_pfO, v_paI, v_paO, v_exI, v_iff, v_rtI, v_rtZ, v_rtV, v_sk, v_brk, v_cnt, v_blk_eq, v_blkM_some, blkM_ite, v_lI, v_lR, v_cI, v_gI, v_gR, v_op1, v_op2, v_arI, v_arR, v_alen, v_tern, v_cmp1, v_cmp2, v_cAnd, v_cOr, v_cNot, v_cTern, v_bn_some, bn_ite, v_bn_none, v_outV_r, v_outV_0, v_outV_n, outV_ite, List.getD_cons_zero, List.getD_cons_succ, List.set_cons_zero, List.set_cons_succ, List.take_succ_cons, List.take_zero, List.drop_succ_cons, List.drop_zero, List.nil_append, List.cons_append, Option.map_some, Option.map_none, if_true, if_false, reduceIte, reduceCtorEq, decide_eq_true_eq, Bool.not_eq_true', decide_eq_false_iff_not, decide_eq_true, decide_eq_false, decide_true, decide_false, and_self, and_true, true_and, or_self, stO, v_caV_, v_caV_i, v_caV_ii, v_caV_iii, v_caV_iiii, v_caV_iiiii, v_caV_il, v_caV_iil, v_caV_l, v_caV_ll, v_caV_r, v_caV_ri, v_caV_rii, v_caV_riii, v_caV_riiii, v_caV_ir, v_caV_iri, v_caV_iiri, v_caS_i, v_caS_ii, v_caS_iii, v_caS_iiii, v_caS_iiiiii, v_caS_il, v_caS_li, v_caS_ll, v_caS_lll, v_caS_ri, v_caS_riii, sh_239, sh_240, sh_241, sh_242, sh_243, sh_244, sh_245, sh_246, sh_247, sh_248, sh_249, sh_250, sh_251, sh_252, sh_253, rf_239_4, rf_239_5, rf_239_6, rf_239_7, rf_239_20, rf_239_21, rf_239_22, rf_239_23, rf_239_27, rf_239_28, rf_239_32, rf_239_33, rf_239_34, rf_239_35, Int.reduceLE, Int.reduceLT, Int.reduceToNat, Int.reduceAdd, Int.reduceSub, Int.reduceMul, Int.reduceNeg, Int.reduceEq, Int.reduceNe, Nat.reduceAdd, Nat.reduceMul, Nat.reduceLT, Nat.reduceEqDiff, or_true, true_or, or_false, false_or, and_false, false_and, not_true_eq_false, not_false_eq_true, ne_eq, cN4, cN5, cN6, cN7, cN13, cN30, cN60, cN64, cN100, cN136, cN240, cN384, cN900, cN2040, cN3, v_sw_eq, v_swM_0, v_swM_1, v_swM_r, v_swM_n, swM_ite, app_ite, ex_some, bI_0, bI_1, nn_iff, Int.toNat_natCast, Int.toNat_of_nonneg, Int.natCast_add, cN1, wI_id2, wL_id2, if_pos, if_neg]
  refine Wd_mono q0 (fun o z hz => ?_)
  obtain ⟨ho, f, hz⟩ := hz
  subst ho; subst hz
  rw [nC_mul hw.1, ← pts_eq hw.1]
  have q2 := ml_goes2 (σ := upA (nowM σ (bn3 (σ 244))) 249 f) hw (by try simp (disch := omega) only [ups_11, upsN, upsA, upA_same, upA_neA, fl_at, fl_neA]; exact hp) (sumN (fun b => gainB (σ 244) (playP (σ 244)) b (nC (σ 244))) (bn3 (σ 244)))
  have l7 : lpS (σ 244) (bn3 (σ 244)) 7 = σ 244 7 := by
    unfold lpS
    rw [if_neg (by omega), ptS_o hw.1 (by omega)]
  try simp (disch := omega) only [q2, l7, Wd_some, Wd_bn, Wd_sqM, Wd_outV, Wd_blkM, Wd_swM, Wd_ite, Wd_map, v_kS_0, v_kS_b, v_kS_r, v_kO_r, v_kW_0, v_kW_1, v_kW_2, v_kW_r, v_kL_0, v_kL_1, v_kL_2, v_kL_r, v_kU_0, ups_11, upsN, upsA, upA_same, upA_neA, fl_at, fl_neA, v_sq_eq, v_sqM_0, v_sqM_r, v_sqM_b, v_sqM_n, sqM_ite, v_asI, v_asR, v_inc, v_pfI, v_pfZ, v_pfO, v_paI, v_paO, v_exI, v_iff, v_rtI, v_rtZ, v_rtV, v_sk, v_brk, v_cnt, v_blk_eq, v_blkM_some, blkM_ite, v_lI, v_lR, v_cI, v_gI, v_gR, v_op1, v_op2, v_arI, v_arR, v_alen, v_tern, v_cmp1, v_cmp2, v_cAnd, v_cOr, v_cNot, v_cTern, v_bn_some, bn_ite, v_bn_none, v_outV_r, v_outV_0, v_outV_n, outV_ite, List.getD_cons_zero, List.getD_cons_succ, List.set_cons_zero, List.set_cons_succ, List.take_succ_cons, List.take_zero, List.drop_succ_cons, List.drop_zero, List.nil_append, List.cons_append, Option.map_some, Option.map_none, if_true, if_false, reduceIte, reduceCtorEq, decide_eq_true_eq, Bool.not_eq_true', decide_eq_false_iff_not, decide_eq_true, decide_eq_false, decide_true, decide_false, and_self, and_true, true_and, or_self, stO, v_caV_, v_caV_i, v_caV_ii, v_caV_iii, v_caV_iiii, v_caV_iiiii, v_caV_il, v_caV_iil, v_caV_l, v_caV_ll, v_caV_r, v_caV_ri, v_caV_rii, v_caV_riii, v_caV_riiii, v_caV_ir, v_caV_iri, v_caV_iiri, v_caS_i, v_caS_ii, v_caS_iii, v_caS_iiii, v_caS_iiiiii, v_caS_il, v_caS_li, v_caS_ll, v_caS_lll, v_caS_ri, v_caS_riii, sh_239, sh_240, sh_241, sh_242, sh_243, sh_244, sh_245, sh_246, sh_247, sh_248, sh_249, sh_250, sh_251, sh_252, sh_253, rf_239_4, rf_239_5, rf_239_6, rf_239_7, rf_239_20, rf_239_21, rf_239_22, rf_239_23, rf_239_27, rf_239_28, rf_239_32, rf_239_33, rf_239_34, rf_239_35, Int.reduceLE, Int.reduceLT, Int.reduceToNat, Int.reduceAdd, Int.reduceSub, Int.reduceMul, Int.reduceNeg, Int.reduceEq, Int.reduceNe, Nat.reduceAdd, Nat.reduceMul, Nat.reduceLT, Nat.reduceEqDiff, or_true, true_or, or_false, false_or, and_false, false_and, not_true_eq_false, not_false_eq_true, ne_eq, cN4, cN5, cN6, cN7, cN13, cN30, cN60, cN64, cN100, cN136, cN240, cN384, cN900, cN2040, cN3, v_sw_eq, v_swM_0, v_swM_1, v_swM_r, v_swM_n, swM_ite, app_ite, ex_some, bI_0, bI_1, nn_iff, Int.toNat_natCast, Int.toNat_of_nonneg, Int.natCast_add, cN1, wI_id2, wL_id2, if_pos, if_neg]
  refine ⟨by first | rfl | trivial, ?_, fun a h1 h2 h3 h4 => ?_, fun k hk => ?_, ?_⟩
  · rw [upA_ups, upA_same]
    rfl
  · try simp (disch := omega) only [ups_11, upsN, upsA, upA_same, upA_neA, fl_at, fl_neA]
    exact nowM_a h1 h3
  · try simp (disch := omega) only [ups_11, upsN, upsA, upA_same, upA_neA, fl_at, fl_neA]
    exact nowM_f hk
  · try simp (disch := omega) only [ups_11, upsN, upsA, upA_same, upA_neA, fl_at, fl_neA]
    exact nowM_29
end MH
