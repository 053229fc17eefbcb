/-! a PARK, part by part: the class -/
theorem P48 : isP 48 := Or.inr (Or.inl rfl)
section PN
variable {B : Nat → Int} {n : Nat} {σ : SS}
def CsF (σ σ' : SS) : Prop := (∀ x, x ≠ 2 → x ≠ 47 → ¬ (48 ≤ x ∧ x ≤ 76) → σ' x = σ x) ∧ (∀ k, k ≤ 1 ∨ k = 4 ∨ k = 5 ∨ 12 ≤ k → σ' 2 k = σ 2 k) ∧ σ' 48 14 = σ 48 14
theorem CsF_r (σ : SS) : CsF σ σ := ⟨fun _ _ _ _ => rfl, fun _ _ => rfl, rfl⟩
theorem CsF_t {σ1 σ2 : SS} (h : CsF σ σ1) (h2 : CsF σ1 σ2) : CsF σ σ2 := ⟨fun x a b d => by rw [h2.1 x a b d, h.1 x a b d], fun k hk => by rw [h2.2.1 k hk, h.2.1 k hk], by rw [h2.2.2, h.2.2]⟩
theorem CsF_p {σ1 : SS} (h : TpF σ σ1) : CsF σ σ1 := ⟨fun x a _ _ => h.1 x a, h.2, by rw [h.1 48 (by omega)]⟩
def DrS (f : Int) (c w : Nat → Int) (σ : SS) : Prop := σ 47 2 = tcF f ∧ PkS σ 48 c w ∧ (f < 8 → ∀ k, k < 30 → σ 49 k = 0) ∧ σ 52 0 = 0 ∧ σ 52 1 = 0
def CsP (B : Nat → Int) (n : Nat) (X : PX) (σ σ' : SS) : Prop := TpS B n X.1 σ' ∧ CsF σ σ' ∧ (X.1.2.1 = 0 → DrS X.2.1 X.2.2.1 X.2.2.2 σ')
variable {s : TS3} {f : Int} {c w : Nat → Int}
theorem cs_size (T : TpS B n s σ) (D : DrS f c w σ) (C : DrC f c) : Wd (F_X4_readSize 47 σ) (fun _ σ' => CsP B n (stZ B n s f c w) σ σ') := by
  have sz := c_size P48 rfl rf_47_0 T D.1
  have dz := dr_size (B := B) (n := n) (s := s) (w := w) C
  obtain ⟨h16, hw, c7, cp, ce, c8⟩ := C
  obtain ⟨f1, _, _, _, f5, f6⟩ := flg h16
  obtain ⟨fa, fo, f3, f4⟩ := flP_1 f1
  have te := tOnce_o (B := B) (n := n) fa s
  have tz : tSize B n (andI (tcF f) (shlI 1 0)) s = tSize B n (hsO f 3) s := by unfold tSize; rw [te]
  rw [tz, te, fo] at sz
  refine Wd_mono sz (fun r σ1 h => ?_)
  obtain ⟨T1, x1, x2, x3, x4, x5⟩ := h
  refine ⟨T1, ⟨fun x a b d => x1 x a b (by omega), x2, x4 14 (by omega)⟩, fun g => ?_⟩
  have W2 := (dz g).2.1
  obtain ⟨y0, y1⟩ := x5 g
  have h : (tSize B n (hsO f 3) s).2.1 = 0 := g
  unfold tSize at h
  have h4 : (tNdN B n 1 6 (tOnce B n (hsO f 3) s)).2.1 = 0 := tNdW_m (i := 1) (by decide) (tNdN_m (tNdE_m h))
  have h3 := tOnce_m (tNdN_m h4)
  have lt := f6.mp h3.2
  obtain ⟨z0, z1⟩ := c8 lt
  obtain ⟨D1, P, D3, D4, D5⟩ := D
  have W2 : WB (szC c (tNm B n (tOnce B n (hsO f 3) s).1) (tNm B n (tNdW B n 1 (tNdN B n 1 6 (tOnce B n (hsO f 3) s))).1)) := W2
  show DrS (orI f (shlI 1 3)) (szC c (tNm B n (tOnce B n (hsO f 3) s).1) (tNm B n (tNdW B n 1 (tNdN B n 1 6 (tOnce B n (hsO f 3) s))).1)) w σ1
  generalize tNm B n (tNdW B n 1 (tNdN B n 1 6 (tOnce B n (hsO f 3) s))).1 = vd at *
  generalize tNm B n (tOnce B n (hsO f 3) s).1 = vw at *
  refine ⟨x3, ⟨?_, fun t ht => ?_, fun b hb => ?_, fun k hk => ?_⟩, fun q => ?_, ?_, ?_⟩
  · unfold kH
    rw [szC_0, szC_1, szC_ne (j := 4) (by omega), szC_ne (j := 5) (by omega), szC_ne (j := 6) (by omega), szC_ne (j := 7) (by omega), szC_ne (j := 8) (by omega), szC_ne (j := 9) (by omega), szC_ne (j := 2) (by omega), szC_ne (j := 3) (by omega), x4 2 (by omega), x4 3 (by omega), x4 4 (by omega), x4 5 (by omega), x4 6 (by omega), x4 7 (by omega), x4 9 (by omega), x4 11 (by omega)]
    exact ⟨y0, y1, P.1.2.2⟩
  · rw [szC_ne (by omega)] at ht
    rw [x1 (48 + 11 + t) (by omega) (by omega) (by omega), szC_ne (j := (10 + (t : Int)).toNat) (by omega), szC_ne (j := (16 + (t : Int)).toNat) (by omega), szC_ne (j := (22 + (t : Int)).toNat) (by omega)]
    exact P.2.1 t ht
  · exfalso
    rw [szC_ne (by omega)] at hb
    have d := (hw.2.2.1 b (by omega) hb).1.1
    omega
  · obtain ⟨v1, v2, v3, v4⟩ := cell_rng W2.1 hk
    unfold pondB
    rw [szC_0] at v1 v2 v3 ⊢
    rw [szC_1] at v3
    rw [x1 (48 + 1) (by omega) (by omega) (by omega), D3 lt k v4]
    have q := (hw.2.2.2 (6 * ((k : Int) / vw) + (k : Int) % vw) (by omega) (by have := W2.1.1; have := W2.1.2.1; rw [szC_0] at *; rw [szC_1] at *; omega)).2 (by omega)
    rw [szC_ne (by omega), show (106 + 6 * ((k : Int) / vw) + (k : Int) % vw).toNat = (106 + (6 * ((k : Int) / vw) + (k : Int) % vw)).toNat by omega, q]
  · have := f4.mp q
    omega
  · rw [x1 52 (by omega) (by omega) (by omega)]; exact D4
  · rw [x1 52 (by omega) (by omega) (by omega)]; exact D5
theorem cs_rule {i : Nat} (i3 : i < 3) {iw : Int} (hiw : iw = 2 + (i : Int)) (hi : Int) (T : TpS B n s σ) (D : DrS f c w σ) (C : DrC f c) : Wd (F_X4_readRule 47 iw hi σ) (fun r σ1 => CsP B n (stRu B n i hi s f c w) σ (ups σ1 48 (2 + i) r)) := by
  have ru := c_rule T D.1 iw hi
  obtain ⟨h16, hw, c7, cp, ce, c8⟩ := C
  obtain ⟨_, f1, f2, f3, f5, f6⟩ := flg h16
  have ff : (andI (tcF f) (shlI 1 iw) = 0 ↔ hsO f i = 0) ∧ orI (tcF f) (shlI 1 iw) = tcF (orI f (shlI 1 i)) ∧ (orI f (shlI 1 i) < 8 → f < 8) := by
    have : i = 0 ∨ i = 1 ∨ i = 2 := by omega
    rcases this with e | e | e <;> subst e <;> subst hiw
    · obtain ⟨a1, a2, a3, a4⟩ := flP_1 f1; exact ⟨a1, a2, fun q => (a4.mp q).1⟩
    · obtain ⟨a1, a2, a3, a4⟩ := flP_1 f2; exact ⟨a1, a2, fun q => (a4.mp q).1⟩
    · obtain ⟨a1, a2, a3, a4⟩ := flP_1 f3; exact ⟨a1, a2, fun q => (a4.mp q).1⟩
  have te := tOnce_o (B := B) (n := n) ff.1 s
  have tz : tRule B n (andI (tcF f) (shlI 1 iw)) hi s = tRule B n (hsO f i) hi s := by unfold tRule; rw [te]
  rw [tz, te, ff.2.1] at ru
  refine Wd_mono ru (fun r σ1 h => ?_)
  obtain ⟨⟨T1, x1, x2, x3⟩, x4⟩ := h
  obtain ⟨D1, P, D3, D4, D5⟩ := D
  refine ⟨TpS_u T1 (by omega) _ _, ⟨fun x a b d => ?_, fun k hk => ?_, ?_⟩, fun g => ?_⟩
  · rw [upsA (by omega)]; exact x1 x a b
  · rw [upsA (by omega)]; exact x2 k hk
  · rw [upsN (by omega)]; rw [x1 48 (by omega) (by omega)]
  · have er := x4 g
    show DrS (orI f (shlI 1 i)) (upc c (4 + i) (tNm B n (tOnce B n (hsO f i) s).1)) w (ups σ1 48 (2 + i) r)
    rw [← er]
    have u : ∀ j, j < 4 ∨ 7 ≤ j → upc c (4 + i) r j = c j := fun j hj => upc_ne (by omega)
    have hH := hw.1
    have o : ∀ x, x ≠ 2 → x ≠ 47 → x ≠ 48 → ups σ1 48 (2 + i) r x = σ x := fun x a b d => by rw [upsA d]; exact x1 x a b
    have o8 : ∀ k, k ≠ 2 + i → ups σ1 48 (2 + i) r 48 k = σ 48 k := fun k hk => by rw [upsN hk, x1 48 (by omega) (by omega)]
    refine ⟨?_, ⟨?_, fun t ht => ?_, fun b hb => ?_, fun k hk => ?_⟩, fun q k hk => ?_, ?_, ?_⟩
    · rw [upsA (by omega)]; exact x3
    · have : i = 0 ∨ i = 1 ∨ i = 2 := by omega
      unfold kH
      rw [u 0 (by omega), u 1 (by omega), u 2 (by omega), u 3 (by omega), u 7 (by omega), u 8 (by omega), u 9 (by omega), o8 0 (by omega), o8 1 (by omega), o8 5 (by omega), o8 6 (by omega), o8 7 (by omega), o8 9 (by omega), o8 11 (by omega)]
      have pp := P.1
      rcases this with e | e | e <;> subst e
      · rw [o8 3 (by omega), o8 4 (by omega), show upc c (4 + 0) r 4 = r from upc_same _ _ _, upc_ne (j := 5) (by omega), upc_ne (j := 6) (by omega), show ups σ1 48 (2 + 0) r 48 2 = r from ups_11 _ _ _ _]
        exact ⟨pp.1, pp.2.1, rfl, pp.2.2.2⟩
      · rw [o8 2 (by omega), o8 4 (by omega), show upc c (4 + 1) r 5 = r from upc_same _ _ _, upc_ne (j := 4) (by omega), upc_ne (j := 6) (by omega), show ups σ1 48 (2 + 1) r 48 3 = r from ups_11 _ _ _ _]
        exact ⟨pp.1, pp.2.1, pp.2.2.1, rfl, pp.2.2.2.2⟩
      · rw [o8 2 (by omega), o8 3 (by omega), show upc c (4 + 2) r 6 = r from upc_same _ _ _, upc_ne (j := 4) (by omega), upc_ne (j := 5) (by omega), show ups σ1 48 (2 + 2) r 48 4 = r from ups_11 _ _ _ _]
        exact ⟨pp.1, pp.2.1, pp.2.2.1, pp.2.2.2.1, rfl, pp.2.2.2.2.2⟩
    · rw [u 2 (by omega)] at ht
      rw [o (48 + 11 + t) (by omega) (by omega) (by omega), u (10 + (t : Int)).toNat (by omega), u (16 + (t : Int)).toNat (by omega), u (22 + (t : Int)).toNat (by omega)]
      exact P.2.1 t ht
    · rw [u 3 (by omega)] at hb
      rw [o (48 + 17 + 2 * b) (by omega) (by omega) (by omega), o (48 + 18 + 2 * b) (by omega) (by omega) (by omega), u (28 + (b : Int)).toNat (by omega), u (34 + (b : Int)).toNat (by omega), u (40 + (b : Int)).toNat (by omega), u (46 + (b : Int)).toNat (by omega), u (52 + (b : Int)).toNat (by omega), u (58 + (b : Int)).toNat (by omega), u (64 + (b : Int)).toNat (by omega)]
      refine ⟨(P.2.2.1 b hb).1, fun k hk => ?_⟩
      rw [u _ (by omega)]
      exact (P.2.2.1 b hb).2 k hk
    · rw [u 0 (by omega), u 1 (by omega)] at hk
      obtain ⟨v1, v2, v3, v4⟩ := cell_rng hH hk
      unfold pondB
      rw [u 0 (by omega), o (48 + 1) (by omega) (by omega) (by omega), u _ (by omega)]
      exact P.2.2.2 k hk
    · rw [o 49 (by omega) (by omega) (by omega)]
      exact D3 (ff.2.2 q) k hk
    · rw [o 52 (by omega) (by omega) (by omega)]; exact D4
    · rw [o 52 (by omega) (by omega) (by omega)]; exact D5
theorem fl_beh (h : 0 ≤ f ∧ f < 16) : andI (tcF f) 1 = 0 ↔ hsO f 3 = 0 := by
  obtain ⟨_, _, _, _, f5, f6⟩ := flg h
  rw [f5, f6]
theorem cs_pond (T : TpS B n s σ) (D : DrS f c w σ) (C : DrC f c) : Wd (F_X4_readPond 47 σ) (fun _ σ' => CsP B n (stPo B n s f c w) σ σ') := by
  obtain ⟨h16, hw, c7, cp, ce, c8⟩ := C
  have pd := c_pond P48 rfl rf_47_0 D.2.1 hw.1 T D.1
  have te := tBeh_o (B := B) (n := n) (fl_beh h16) s
  have tz : tPond B n (andI (tcF f) 1) (c 0) (c 1) s = tPond B n (hsO f 3) (c 0) (c 1) s := by unfold tPond; rw [te]
  rw [tz, te] at pd
  refine Wd_mono pd (fun r σ1 h => ?_)
  obtain ⟨T1, x1, x2, x3⟩ := h
  refine ⟨T1, ⟨fun x a b d => x1 x a (by omega), x2, by rw [x1 48 (by omega) (by omega)]⟩, fun g => ?_⟩
  have y := x3 g
  have h : (tPond B n (hsO f 3) (c 0) (c 1) s).2.1 = 0 := g
  unfold tPond at h
  have h5 := tNdE_m h
  have v5 := (tNdN_v h5).2
  have h4 := tNdN_m h5
  have v4 := (tNdN_v h4).2
  have h3 := tBeh_m (tAdv_m (tNdN_m h4))
  have nlt : ¬ f < 8 := fun q => h3.2 ((flg h16).2.2.2.2.2.mpr q)
  obtain ⟨D1, P, D3, D4, D5⟩ := D
  show DrS f (upc c (106 + 6 * tNm B n (tNdN B n 0 (c 0 - 1) (tAdv B n (tBeh B n (hsO f 3) s))).1 + tNm B n (tAdv B n (tBeh B n (hsO f 3) s)).1).toNat 1) w σ1
  generalize tNm B n (tNdN B n 0 (c 0 - 1) (tAdv B n (tBeh B n (hsO f 3) s))).1 = yy at *
  generalize tNm B n (tAdv B n (tBeh B n (hsO f 3) s)).1 = xx at *
  obtain ⟨k, k1, k2, k3, k4⟩ := field_cell hw.1 (x := xx) (y := yy) (by omega)
  rw [k1] at y
  have y : σ1 (48 + 1) = ups σ (48 + 1) k 1 (48 + 1) := y
  have PP := PkS_upP hw.1 hw.2.2.1 P k2 k3 k4 1
  have WW : WH (upc c (106 + 6 * yy + xx).toNat 1) := WH_cc (fun j hj => upc_ne (by omega)) hw.1
  refine ⟨by rw [x1 47 (by omega) (by omega)]; exact D1, PkS_c WW (fun j _ => ?_) (fun x h1 h2 => ?_) PP, fun q => absurd q nlt, by rw [x1 52 (by omega) (by omega)]; exact D4, by rw [x1 52 (by omega) (by omega)]; exact D5⟩
  · rw [x1 48 (by omega) (by omega)]; try simp (disch := omega) only [ups_11, upsN, upsA, upA_same, upA_neA, fl_at, fl_neA]
  · by_cases e : x = 48 + 1
    · subst e; exact y
    · rw [x1 x (by omega) e]
      try simp (disch := omega) only [ups_11, upsN, upsA, upA_same, upA_neA, fl_at, fl_neA]
theorem cs_tune (T : TpS B n s σ) (D : DrS f c w σ) (C : DrC f c) : Wd (F_X4_readTune 47 σ) (fun _ σ' => CsP B n (stT B n s f c w) σ σ') := by
  obtain ⟨h16, hw, c7, cp, ce, c8⟩ := C
  have hH := hw.1
  obtain ⟨D1, P, D3, D4, D5⟩ := D
  unfold stT
  by_cases g6 : c 2 = 6
  · rw [if_pos g6]
    have e9 : σ 48 9 = 6 := by rw [← g6]; exact P.1.2.2.2.2.2.2.2.2.1
    refine Wd_mono (c_tune6 P48 rfl rf_47_0 e9 T) (fun r σ1 h => ?_)
    exact ⟨h.1, CsF_p h.2.1, fun g => absurd g (tBlm_1 (by omega))⟩
  · rw [if_neg g6]
    obtain ⟨m, hm⟩ : ∃ m : Nat, c 2 = (m : Int) := ⟨(c 2).toNat, by omega⟩
    have hm2 : (c 2).toNat = m := by omega
    have m6 : m < 6 := by omega
    have tu := c_tune P48 rfl rf_47_0 P hH hm m6 T
    rw [hm2]
    refine Wd_mono tu (fun r σ1 h => ?_)
    obtain ⟨T1, x1, x2, x3, x4, x5⟩ := h
    refine ⟨T1, ⟨fun x a b d => x1 x a (by omega) (by omega), x2, x3 14 (by omega)⟩, fun g => ?_⟩
    obtain ⟨y0, y1, y2, y3⟩ := x5 g
    show DrS f (tuC c m (vLoud B n (nwG c w) s) (vToll B n (nwG c w) s) (vBeat B n (nwG c w) s)) (upc w m (tWd B n (tAdv B n s).1)) σ1
    generalize vLoud B n (nwG c w) s = lo at *
    generalize vToll B n (nwG c w) s = tl at *
    generalize vBeat B n (nwG c w) s = be at *
    generalize tWd B n (tAdv B n s).1 = v0 at *
    have u : ∀ j, j < 10 ∨ 28 ≤ j → j ≠ 2 → tuC c m lo tl be j = c j := fun j hj h2 => tuC_ne (by omega) (by omega) (by omega) h2
    refine ⟨by rw [x1 47 (by omega) (by omega) (by omega)]; exact D1, ⟨?_, fun t ht => ?_, fun b hb => ?_, fun k hk => ?_⟩, fun q k hk => by rw [x1 49 (by omega) (by omega) (by omega)]; exact D3 q k hk, by rw [x1 52 (by omega) (by omega) (by omega)]; exact D4, by rw [x1 52 (by omega) (by omega) (by omega)]; exact D5⟩
    · unfold kH
      rw [u 0 (by omega) (by omega), u 1 (by omega) (by omega), tuC_m, u 3 (by omega) (by omega), u 4 (by omega) (by omega), u 5 (by omega) (by omega), u 6 (by omega) (by omega), u 7 (by omega) (by omega), u 8 (by omega) (by omega), u 9 (by omega) (by omega), x3 0 (by omega), x3 1 (by omega), x3 2 (by omega), x3 3 (by omega), x3 4 (by omega), x3 5 (by omega), x3 6 (by omega), x3 7 (by omega), x3 11 (by omega), x4]
      have pp := P.1
      exact ⟨pp.1, pp.2.1, pp.2.2.1, pp.2.2.2.1, pp.2.2.2.2.1, pp.2.2.2.2.2.1, pp.2.2.2.2.2.2.1, pp.2.2.2.2.2.2.2.1, rfl, pp.2.2.2.2.2.2.2.2.2⟩
    · rw [tuC_m] at ht
      by_cases e : t = m
      · subst e
        rw [show (10 + (t : Int)).toNat = 10 + t by omega, show (16 + (t : Int)).toNat = 16 + t by omega, show (22 + (t : Int)).toNat = 22 + t by omega, tuC_1, tuC_2, tuC_3, upc_same]
        exact ⟨y0, y1, y2, y3⟩
      · rw [x1 (48 + 11 + t) (by omega) (by omega) (by omega), tuC_ne (j := (10 + (t : Int)).toNat) (by omega) (by omega) (by omega) (by omega), tuC_ne (j := (16 + (t : Int)).toNat) (by omega) (by omega) (by omega) (by omega), tuC_ne (j := (22 + (t : Int)).toNat) (by omega) (by omega) (by omega) (by omega), upc_ne e]
        exact P.2.1 t (by omega)
    · rw [u 3 (by omega) (by omega)] at hb
      rw [x1 (48 + 17 + 2 * b) (by omega) (by omega) (by omega), x1 (48 + 18 + 2 * b) (by omega) (by omega) (by omega), u (28 + (b : Int)).toNat (by omega) (by omega), u (34 + (b : Int)).toNat (by omega) (by omega), u (40 + (b : Int)).toNat (by omega) (by omega), u (46 + (b : Int)).toNat (by omega) (by omega), u (52 + (b : Int)).toNat (by omega) (by omega), u (58 + (b : Int)).toNat (by omega) (by omega), u (64 + (b : Int)).toNat (by omega) (by omega), upc_ne (j := 6 + b) (by omega)]
      refine ⟨(P.2.2.1 b hb).1, fun k hk => ?_⟩
      rw [u _ (by omega) (by omega)]
      exact (P.2.2.1 b hb).2 k hk
    · rw [u 0 (by omega) (by omega), u 1 (by omega) (by omega)] at hk
      obtain ⟨v1, v2, v3, v4⟩ := cell_rng hH hk
      unfold pondB
      rw [u 0 (by omega) (by omega), x1 (48 + 1) (by omega) (by omega) (by omega), u _ (by omega) (by omega)]
      exact P.2.2.2 k hk
theorem c_band6 {t : Int} (e11 : σ 48 11 = 6) (T : TpS B n s σ) (et : σ 47 2 = t) : Wd (F_X4_readBand 47 σ) (TpQ B n (tBlm B n 6 (tBeh B n (andI t 1) s)) 0 σ) := by
  have be := c_beh T et
  have pa := P_a P48
  clear T
  try simp (disch := omega) only [w_iff, iffM_t, iffM_f, iffM_d, iffM_nd, iffM_0, iffM_ite, Wd_iffM, iffM_v, w_tern, ternM_t, ternM_f, ternM_d, ternM_nd, ternM_0, ternM_ite, Wd_ternM, ternM_v, w_sw, swX_1, Wd_swX, Bool.not_true, Bool.not_false, F_X4_readBand, B_X4_readBand, sh_47, rf_47_1, sh_2, Wd_some, Wd_bn, Wd_sqM, Wd_outV, Wd_blkM, Wd_swM, Wd_ite, Wd_map, v_kS_0, v_kS_b, v_kS_r, v_kO_r, v_kW_0, v_kW_1, v_kW_2, v_kW_r, v_kL_0, v_kL_1, v_kL_2, v_kL_r, v_kU_0, ups_11, upsN, upsA, upA_same, upA_neA, fl_at, fl_neA, v_sq_eq, v_sqM_0, v_sqM_r, v_sqM_b, v_sqM_n, sqM_ite, v_asI, v_asR, v_inc, v_pfI, v_pfZ, v_pfO, v_paI, v_paO, v_exI,  v_rtI, v_rtZ, v_rtV, v_sk, v_brk, v_cnt, v_blk_eq, v_blkM_some, blkM_ite, v_lI, v_lR, v_cI, v_gI, v_gR, v_op1, v_op2, v_arI, v_arR, v_alen,  v_cmp1, v_cmp2, v_cAnd, v_cOr, v_cNot, v_cTern, v_bn_some, bn_ite, v_bn_none, v_outV_r, v_outV_0, v_outV_n, outV_ite, List.getD_cons_zero, List.getD_cons_succ, List.set_cons_zero, List.set_cons_succ, List.take_succ_cons, List.take_zero, List.drop_succ_cons, List.drop_zero, List.nil_append, List.cons_append, Option.map_some, Option.map_none, if_true, if_false, ↓reduceIte, reduceCtorEq, decide_eq_true_eq, Bool.not_eq_true', decide_eq_false_iff_not, decide_eq_true, decide_eq_false, decide_true, decide_false, and_self, and_true, true_and, or_self, stO, v_caV_, v_caV_i, v_caV_ii, v_caV_iii, v_caV_iiii, v_caV_iiiii, v_caV_il, v_caV_iil, v_caV_l, v_caV_ll, v_caV_r, v_caV_ri, v_caV_rii, v_caV_riii, v_caV_riiii, v_caV_ir, v_caV_iri, v_caV_iiri, v_caS_i, v_caS_ii, v_caS_iii, v_caS_iiii, v_caS_iiiiii, v_caS_il, v_caS_li, v_caS_ll, v_caS_lll, v_caS_ri, v_caS_riii, sh_239, sh_240, sh_241, sh_242, sh_243, sh_244, sh_245, sh_246, sh_247, sh_248, sh_249, sh_250, sh_251, sh_252, sh_253, rf_239_4, rf_239_5, rf_239_6, rf_239_7, rf_239_20, rf_239_21, rf_239_22, rf_239_23, rf_239_27, rf_239_28, rf_239_32, rf_239_33, rf_239_34, rf_239_35, Int.reduceLE, Int.reduceLT, Int.reduceToNat, Int.reduceAdd, Int.reduceSub, Int.reduceMul, Int.reduceNeg, Int.reduceEq, Int.reduceNe, Nat.reduceAdd, Nat.reduceMul, Nat.reduceLT, Nat.reduceEqDiff, or_true, true_or, or_false, false_or, and_false, false_and, not_true_eq_false, not_false_eq_true, ne_eq, cN4, cN5, cN6, cN7, cN13, cN30, cN60, cN64, cN100, cN136, cN240, cN384, cN900, cN2040, cN3,  v_swM_0, v_swM_1, v_swM_r, v_swM_n, swM_ite, app_ite, ex_some, bI_0, bI_1, nn_iff, Int.toNat_natCast, Int.toNat_of_nonneg, Int.natCast_add, cN1, wI_id2, wL_id2, ↓if_pos, ↓if_neg, if_pos, if_neg]
  refine Wd_mono be (fun r1 σ1 h1 => ?_)
  obtain ⟨T1, F1, _⟩ := h1
  have e111 : σ1 48 11 = 6 := by rw [F1.1 48 (by omega)]; exact e11
  have bl := c_blm T1 (k := 6) (by omega)
  clear T1
  try simp (disch := omega) only [w_iff, iffM_t, iffM_f, iffM_d, iffM_nd, iffM_0, iffM_ite, Wd_iffM, iffM_v, w_tern, ternM_t, ternM_f, ternM_d, ternM_nd, ternM_0, ternM_ite, Wd_ternM, ternM_v, w_sw, swX_1, Wd_swX, Bool.not_true, Bool.not_false, sh_47, rf_47_0, rf_47_1, sh_2, pa, e111, Wd_some, Wd_bn, Wd_sqM, Wd_outV, Wd_blkM, Wd_swM, Wd_ite, Wd_map, v_kS_0, v_kS_b, v_kS_r, v_kO_r, v_kW_0, v_kW_1, v_kW_2, v_kW_r, v_kL_0, v_kL_1, v_kL_2, v_kL_r, v_kU_0, ups_11, upsN, upsA, upA_same, upA_neA, fl_at, fl_neA, v_sq_eq, v_sqM_0, v_sqM_r, v_sqM_b, v_sqM_n, sqM_ite, v_asI, v_asR, v_inc, v_pfI, v_pfZ, v_pfO, v_paI, v_paO, v_exI,  v_rtI, v_rtZ, v_rtV, v_sk, v_brk, v_cnt, v_blk_eq, v_blkM_some, blkM_ite, v_lI, v_lR, v_cI, v_gI, v_gR, v_op1, v_op2, v_arI, v_arR, v_alen,  v_cmp1, v_cmp2, v_cAnd, v_cOr, v_cNot, v_cTern, v_bn_some, bn_ite, v_bn_none, v_outV_r, v_outV_0, v_outV_n, outV_ite, List.getD_cons_zero, List.getD_cons_succ, List.set_cons_zero, List.set_cons_succ, List.take_succ_cons, List.take_zero, List.drop_succ_cons, List.drop_zero, List.nil_append, List.cons_append, Option.map_some, Option.map_none, if_true, if_false, ↓reduceIte, reduceCtorEq, decide_eq_true_eq, Bool.not_eq_true', decide_eq_false_iff_not, decide_eq_true, decide_eq_false, decide_true, decide_false, and_self, and_true, true_and, or_self, stO, v_caV_, v_caV_i, v_caV_ii, v_caV_iii, v_caV_iiii, v_caV_iiiii, v_caV_il, v_caV_iil, v_caV_l, v_caV_ll, v_caV_r, v_caV_ri, v_caV_rii, v_caV_riii, v_caV_riiii, v_caV_ir, v_caV_iri, v_caV_iiri, v_caS_i, v_caS_ii, v_caS_iii, v_caS_iiii, v_caS_iiiiii, v_caS_il, v_caS_li, v_caS_ll, v_caS_lll, v_caS_ri, v_caS_riii, sh_239, sh_240, sh_241, sh_242, sh_243, sh_244, sh_245, sh_246, sh_247, sh_248, sh_249, sh_250, sh_251, sh_252, sh_253, rf_239_4, rf_239_5, rf_239_6, rf_239_7, rf_239_20, rf_239_21, rf_239_22, rf_239_23, rf_239_27, rf_239_28, rf_239_32, rf_239_33, rf_239_34, rf_239_35, Int.reduceLE, Int.reduceLT, Int.reduceToNat, Int.reduceAdd, Int.reduceSub, Int.reduceMul, Int.reduceNeg, Int.reduceEq, Int.reduceNe, Nat.reduceAdd, Nat.reduceMul, Nat.reduceLT, Nat.reduceEqDiff, or_true, true_or, or_false, false_or, and_false, false_and, not_true_eq_false, not_false_eq_true, ne_eq, cN4, cN5, cN6, cN7, cN13, cN30, cN60, cN64, cN100, cN136, cN240, cN384, cN900, cN2040, cN3,  v_swM_0, v_swM_1, v_swM_r, v_swM_n, swM_ite, app_ite, ex_some, bI_0, bI_1, nn_iff, Int.toNat_natCast, Int.toNat_of_nonneg, Int.natCast_add, cN1, wI_id2, wL_id2, ↓if_pos, ↓if_neg, if_pos, if_neg]
  refine Wd_mono bl (fun r2 σ2 h2 => ?_)
  have po : TpQ B n (tBlm B n 6 (tBeh B n (andI t 1) s)) 0 σ 0 σ2 := ⟨h2.1, TpF_t F1 h2.2.1, fun _ => rfl⟩
  try simp (disch := omega) only [w_iff, iffM_t, iffM_f, iffM_d, iffM_nd, iffM_0, iffM_ite, Wd_iffM, iffM_v, w_tern, ternM_t, ternM_f, ternM_d, ternM_nd, ternM_0, ternM_ite, Wd_ternM, ternM_v, w_sw, swX_1, Wd_swX, Bool.not_true, Bool.not_false, Wd_some, Wd_bn, Wd_sqM, Wd_outV, Wd_blkM, Wd_swM, Wd_ite, Wd_map, v_kS_0, v_kS_b, v_kS_r, v_kO_r, v_kW_0, v_kW_1, v_kW_2, v_kW_r, v_kL_0, v_kL_1, v_kL_2, v_kL_r, v_kU_0, ups_11, upsN, upsA, upA_same, upA_neA, fl_at, fl_neA, v_sq_eq, v_sqM_0, v_sqM_r, v_sqM_b, v_sqM_n, sqM_ite, v_asI, v_asR, v_inc, v_pfI, v_pfZ, v_pfO, v_paI, v_paO, v_exI,  v_rtI, v_rtZ, v_rtV, v_sk, v_brk, v_cnt, v_blk_eq, v_blkM_some, blkM_ite, v_lI, v_lR, v_cI, v_gI, v_gR, v_op1, v_op2, v_arI, v_arR, v_alen,  v_cmp1, v_cmp2, v_cAnd, v_cOr, v_cNot, v_cTern, v_bn_some, bn_ite, v_bn_none, v_outV_r, v_outV_0, v_outV_n, outV_ite, List.getD_cons_zero, List.getD_cons_succ, List.set_cons_zero, List.set_cons_succ, List.take_succ_cons, List.take_zero, List.drop_succ_cons, List.drop_zero, List.nil_append, List.cons_append, Option.map_some, Option.map_none, if_true, if_false, ↓reduceIte, reduceCtorEq, decide_eq_true_eq, Bool.not_eq_true', decide_eq_false_iff_not, decide_eq_true, decide_eq_false, decide_true, decide_false, and_self, and_true, true_and, or_self, stO, v_caV_, v_caV_i, v_caV_ii, v_caV_iii, v_caV_iiii, v_caV_iiiii, v_caV_il, v_caV_iil, v_caV_l, v_caV_ll, v_caV_r, v_caV_ri, v_caV_rii, v_caV_riii, v_caV_riiii, v_caV_ir, v_caV_iri, v_caV_iiri, v_caS_i, v_caS_ii, v_caS_iii, v_caS_iiii, v_caS_iiiiii, v_caS_il, v_caS_li, v_caS_ll, v_caS_lll, v_caS_ri, v_caS_riii, sh_239, sh_240, sh_241, sh_242, sh_243, sh_244, sh_245, sh_246, sh_247, sh_248, sh_249, sh_250, sh_251, sh_252, sh_253, rf_239_4, rf_239_5, rf_239_6, rf_239_7, rf_239_20, rf_239_21, rf_239_22, rf_239_23, rf_239_27, rf_239_28, rf_239_32, rf_239_33, rf_239_34, rf_239_35, Int.reduceLE, Int.reduceLT, Int.reduceToNat, Int.reduceAdd, Int.reduceSub, Int.reduceMul, Int.reduceNeg, Int.reduceEq, Int.reduceNe, Nat.reduceAdd, Nat.reduceMul, Nat.reduceLT, Nat.reduceEqDiff, or_true, true_or, or_false, false_or, and_false, false_and, not_true_eq_false, not_false_eq_true, ne_eq, cN4, cN5, cN6, cN7, cN13, cN30, cN60, cN64, cN100, cN136, cN240, cN384, cN900, cN2040, cN3,  v_swM_0, v_swM_1, v_swM_r, v_swM_n, swM_ite, app_ite, ex_some, bI_0, bI_1, nn_iff, Int.toNat_natCast, Int.toNat_of_nonneg, Int.natCast_add, cN1, wI_id2, wL_id2, ↓if_pos, ↓if_neg, if_pos, if_neg]
  exact po
theorem cs_band (T : TpS B n s σ) (D : DrS f c w σ) (C : DrC f c) : Wd (F_X4_readBand 47 σ) (fun _ σ' => CsP B n (stB B n s f c w) σ σ') := by
  obtain ⟨h16, hw, c7, cp, ce, c8⟩ := C
  have hH := hw.1
  obtain ⟨D1, P, D3, D4, D5⟩ := D
  have te := tBeh_o (B := B) (n := n) (fl_beh h16) s
  unfold stB
  by_cases g6 : c 3 = 6
  · rw [if_pos g6]
    have e11 : σ 48 11 = 6 := by rw [← g6]; exact P.1.2.2.2.2.2.2.2.2.2
    have b6 := c_band6 e11 T D1
    rw [te] at b6
    refine Wd_mono b6 (fun r σ1 h => ?_)
    exact ⟨h.1, CsF_p h.2.1, fun g => absurd g (tBlm_1 (by omega))⟩
  · rw [if_neg g6]
    obtain ⟨b, hb⟩ : ∃ b : Nat, c 3 = (b : Int) := ⟨(c 3).toNat, by omega⟩
    have hb2 : (c 3).toNat = b := by omega
    have b6 : b < 6 := by omega
    have ba := c_band P48 rfl rf_47_0 P hH hb b6 (q := 65 + 2 * b) (by omega) T D1
    refine Wd_mono ba (fun r σ1 h => ?_)
    obtain ⟨x1, x2, x3, x4, x5⟩ := h
    have e0 : tBd0 B n c w (andI (tcF f) 1) s = tBd0 B n c w (hsO f 3) s := by unfold tBd0; rw [te]
    have e3 : tBd3 B n c w (andI (tcF f) 1) s = tB3 B n c (tBd0 B n c w (hsO f 3) s) := by rw [← e0]; rfl
    have eV : BaV B n c w (andI (tcF f) 1) s (65 + 2 * b) σ1 → σ1 (65 + 2 * b) 0 = tWd B n (tAdv B n (tBeh B n (hsO f 3) s)).1 ∧ σ1 (65 + 2 * b) 1 = tNm B n (tNdW B n 11 (tBd0 B n c w (hsO f 3) s)).1 ∧ σ1 (65 + 2 * b) 2 = tNm B n (tNdN B n 0 (c 0 - 1) (tNdW B n 11 (tBd0 B n c w (hsO f 3) s))).1 ∧ σ1 (65 + 2 * b) 3 = tNm B n (tNdW B n 12 (tStd B n c (tBd0 B n c w (hsO f 3) s))).1 ∧ σ1 (65 + 2 * b) 4 = tNm B n (tNdW B n 13 (tNdN B n 0 20 (tNdW B n 12 (tStd B n c (tBd0 B n c w (hsO f 3) s))))).1 ∧ σ1 (65 + 2 * b) 5 = tNm B n (tNdW B n 13 (tNdN B n 0 20 (tNdW B n 12 (tStd B n c (tBd0 B n c w (hsO f 3) s))))).1 ∧ σ1 (65 + 2 * b) 6 = 0 := by
      intro v
      unfold BaV tBd2 tBd1 at v
      rw [e0, te] at v
      exact v
    rw [e3] at x5
    /- state, length, entries -/
    have key : TpS B n (bdS B n c w (hsO f 3) s) σ1 ∧ ((bdS B n c w (hsO f 3) s).2.1 = 0 → BaV B n c w (andI (tcF f) 1) s (65 + 2 * b) σ1 ∧ σ1 (65 + 2 * b) 7 = (bdN B n c w (hsO f 3) s : Int) ∧ ∀ k, k < bdN B n c w (hsO f 3) s → σ1 (65 + 2 * b + 1) k = vEnt B n (nmF w 0 (c 2).toNat) (pS B n (nmF w 0 (c 2).toNat) k (tAdv B n (tB3 B n c (tBd0 B n c w (hsO f 3) s))))) := by
      have bv := bd_v (B := B) (n := n) (c := c) (w := w) (o := hsO f 3) (s := s)
      unfold bdS bdN at bv ⊢
      rcases x5 with ⟨q, T1, y⟩ | ⟨q, j, j1, nc, cc, T1, y⟩
      · rw [if_neg q] at bv ⊢
        rw [if_neg q] at bv ⊢
        exact ⟨T1, fun g => ⟨(y g).1, (y g).2, fun k hk => by omega⟩⟩
      · rw [if_pos q] at bv ⊢
        rw [if_pos q] at bv ⊢
        obtain ⟨p1, p2, p3⟩ := pJ_p (B := B) (n := n) (nmF w 0 (c 2).toNat) (tAdv B n (tB3 B n c (tBd0 B n c w (hsO f 3) s)))
        obtain ⟨pe1, pe2⟩ := pS_end j1.1 p1.1 nc p2 cc p3
        rw [pe1] at T1 y
        refine ⟨T1, fun g => ?_⟩
        obtain ⟨y1, y2, y3⟩ := y g
        have ej := pe2 g
        obtain ⟨_, _, _, _, _, _, _, l6, l7⟩ := bv g
        rw [← ej] at l6 l7 ⊢
        exact ⟨y1, y2 l6, fun k hk => y3 k hk (by omega) (l7 k hk)⟩
    obtain ⟨T1, key⟩ := key
    refine ⟨T1, ⟨fun x a b' d => x1 x a (by omega) (by omega) (by omega), x2, x3 14 (by omega)⟩, fun g => ?_⟩
    have g : (bdS B n c w (hsO f 3) s).2.1 = 0 := g
    obtain ⟨y1, y7, ye⟩ := key g
    obtain ⟨v0, v1, v2, v3, v4, v5, v6⟩ := eV y1
    have hs3 := (bd_v g).2.2.1.2
    have nlt : ¬ f < 8 := fun q => hs3 ((flg h16).2.2.2.2.2.mpr q)
    have l6 := (bd_v g).2.2.2.2.2.2.2.1
    show DrS f (bdC B n c w (hsO f 3) s) (upc w (6 + (c 3).toNat) (tWd B n (tAdv B n (tBeh B n (hsO f 3) s)).1)) σ1
    unfold bdC
    rw [hb2]
    obtain ⟨ent, he⟩ : ∃ ent : Nat → Int, ent = fun k => vEnt B n (nmF w 0 (c 2).toNat) (pS B n (nmF w 0 (c 2).toNat) k (tAdv B n (tB3 B n c (tBd0 B n c w (hsO f 3) s)))) := ⟨_, rfl⟩
    have ye : ∀ k, k < bdN B n c w (hsO f 3) s → σ1 (65 + 2 * b + 1) k = ent k := fun k hk => by rw [he]; exact ye k hk
    rw [← he]
    clear he key eV x5 y1 e3 e0 te ba T g
    generalize bdN B n c w (hsO f 3) s = len at *
    generalize tNm B n (tNdW B n 13 (tNdN B n 0 20 (tNdW B n 12 (tStd B n c (tBd0 B n c w (hsO f 3) s))))).1 = li at *
    generalize tNm B n (tNdW B n 12 (tStd B n c (tBd0 B n c w (hsO f 3) s))).1 = st at *
    generalize tNm B n (tNdN B n 0 (c 0 - 1) (tNdW B n 11 (tBd0 B n c w (hsO f 3) s))).1 = y at *
    generalize tNm B n (tNdW B n 11 (tBd0 B n c w (hsO f 3) s)).1 = x at *
    generalize tWd B n (tAdv B n (tBeh B n (hsO f 3) s)).1 = nm at *
    have u : ∀ j, (j ≠ 3 ∧ j < 28) ∨ (58 ≤ j ∧ j < 64) ∨ 106 ≤ j → baC c b x y st li len ent j = c j := fun j hj => baC_ne (by omega) (by omega) (by omega) (by omega) (by omega) (by omega) (by omega) (by omega)
    refine ⟨by rw [x1 47 (by omega) (by omega) (by omega) (by omega)]; exact D1, ⟨?_, fun t ht => ?_, fun d hd => ?_, fun k hk => ?_⟩, fun q => absurd q nlt, by rw [x1 52 (by omega) (by omega) (by omega) (by omega)]; exact D4, by rw [x1 52 (by omega) (by omega) (by omega) (by omega)]; exact D5⟩
    · unfold kH
      rw [u 0 (by omega), u 1 (by omega), u 2 (by omega), baC_3, u 4 (by omega), u 5 (by omega), u 6 (by omega), u 7 (by omega), u 8 (by omega), u 9 (by omega), x3 0 (by omega), x3 1 (by omega), x3 2 (by omega), x3 3 (by omega), x3 4 (by omega), x3 5 (by omega), x3 6 (by omega), x3 7 (by omega), x3 9 (by omega), x4]
      have pp := P.1
      exact ⟨pp.1, pp.2.1, pp.2.2.1, pp.2.2.2.1, pp.2.2.2.2.1, pp.2.2.2.2.2.1, pp.2.2.2.2.2.2.1, pp.2.2.2.2.2.2.2.1, pp.2.2.2.2.2.2.2.2.1, rfl⟩
    · rw [u 2 (by omega)] at ht
      rw [x1 (48 + 11 + t) (by omega) (by omega) (by omega) (by omega), u (10 + (t : Int)).toNat (by omega), u (16 + (t : Int)).toNat (by omega), u (22 + (t : Int)).toNat (by omega), upc_ne (by omega)]
      exact P.2.1 t ht
    · rw [baC_3] at hd
      by_cases e : d = b
      · subst e
        have p0 := cp d b6
        rw [show (28 + (d : Int)).toNat = 28 + d by omega, show (34 + (d : Int)).toNat = 34 + d by omega, show (40 + (d : Int)).toNat = 40 + d by omega, show (46 + (d : Int)).toNat = 46 + d by omega, show (52 + (d : Int)).toNat = 52 + d by omega, show (58 + (d : Int)).toNat = 58 + d by omega, show (64 + (d : Int)).toNat = 64 + d by omega, baC_x b6, baC_y b6, baC_s b6, baC_l b6, baC_m b6, baC_n b6, u (58 + d) (by omega), p0, upc_same, show 48 + 17 + 2 * d = 65 + 2 * d by omega, show 48 + 18 + 2 * d = 65 + 2 * d + 1 by omega]
        refine ⟨⟨v0, v1, v2, v3, v4, v5, v6, y7⟩, fun k hk => ?_⟩
        rw [show (70 + 6 * (d : Int) + (k : Int)).toNat = 70 + 6 * d + k by omega, baC_e b6 (by omega)]
        exact ye k (by omega)
      · have hd' : (d : Int) < c 3 := by omega
        have dd := (hw.2.2.1 d (by omega) hd').1
        have v : ∀ j, (28 ≤ j ∧ j < 70) → j ≠ 28 + b → j ≠ 34 + b → j ≠ 40 + b → j ≠ 46 + b → j ≠ 52 + b → j ≠ 64 + b → baC c b x y st li len ent j = c j := fun j h0 h1 h2 h3 h4 h5 h6 => baC_ne (by omega) h1 h2 h3 h4 h5 h6 (by omega)
        rw [x1 (48 + 17 + 2 * d) (by omega) (by omega) (by omega) (by omega), x1 (48 + 18 + 2 * d) (by omega) (by omega) (by omega) (by omega), v (28 + (d : Int)).toNat (by omega) (by omega) (by omega) (by omega) (by omega) (by omega) (by omega), v (34 + (d : Int)).toNat (by omega) (by omega) (by omega) (by omega) (by omega) (by omega) (by omega), v (40 + (d : Int)).toNat (by omega) (by omega) (by omega) (by omega) (by omega) (by omega) (by omega), v (46 + (d : Int)).toNat (by omega) (by omega) (by omega) (by omega) (by omega) (by omega) (by omega), v (52 + (d : Int)).toNat (by omega) (by omega) (by omega) (by omega) (by omega) (by omega) (by omega), u (58 + (d : Int)).toNat (by omega), v (64 + (d : Int)).toNat (by omega) (by omega) (by omega) (by omega) (by omega) (by omega) (by omega), upc_ne (j := 6 + d) (by omega)]
        refine ⟨(P.2.2.1 d hd').1, fun k hk => ?_⟩
        rw [baC_ne (k := (70 + 6 * (d : Int) + (k : Int)).toNat) (by omega) (by omega) (by omega) (by omega) (by omega) (by omega) (by omega) (by omega)]
        exact (P.2.2.1 d hd').2 k hk
    · rw [u 0 (by omega), u 1 (by omega)] at hk
      obtain ⟨z1, z2, z3, z4⟩ := cell_rng hH hk
      unfold pondB
      rw [u 0 (by omega), x1 (48 + 1) (by omega) (by omega) (by omega) (by omega), u _ (by omega)]
      exact P.2.2.2 k hk
end PN
