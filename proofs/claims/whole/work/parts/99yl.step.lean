/-! a PARK, part by part, purely -/
abbrev PX : Type := TS3 × Int × (Nat → Int) × (Nat → Int)
def szC (c : Nat → Int) (vw vd : Int) : Nat → Int := upc (upc c 0 vw) 1 vd
def tuC (c : Nat → Int) (m : Nat) (v1 v2 v3 : Int) : Nat → Int := upc (upc (upc (upc c (10 + m) v1) (16 + m) v2) (22 + m) v3) 2 ((m : Int) + 1)
def baC (c : Nat → Int) (b : Nat) (x y st li : Int) (len : Nat) (ent : Nat → Int) : Nat → Int := fun k => if k = 3 then (b : Int) + 1 else if k = 28 + b then x else if k = 34 + b then y else if k = 40 + b then st else if k = 46 + b then li else if k = 52 + b then li else if k = 64 + b then (len : Int) else if 70 + 6 * b ≤ k ∧ k < 70 + 6 * b + len then ent (k - (70 + 6 * b)) else c k
theorem szC_ne {c : Nat → Int} {vw vd : Int} {j : Nat} (h : 2 ≤ j) : szC c vw vd j = c j := by
  unfold szC
  rw [upc_ne (by omega), upc_ne (by omega)]
theorem szC_0 {c : Nat → Int} {vw vd : Int} : szC c vw vd 0 = vw := by
  unfold szC
  rw [upc_ne (by omega), upc_same]
theorem szC_1 {c : Nat → Int} {vw vd : Int} : szC c vw vd 1 = vd := upc_same _ _ _
theorem tuC_ne {c : Nat → Int} {m : Nat} {v1 v2 v3 : Int} {j : Nat} (h1 : j ≠ 10 + m) (h2 : j ≠ 16 + m) (h3 : j ≠ 22 + m) (h4 : j ≠ 2) : tuC c m v1 v2 v3 j = c j := by
  unfold tuC
  rw [upc_ne h4, upc_ne h3, upc_ne h2, upc_ne h1]
theorem tuC_1 {c : Nat → Int} {m : Nat} {v1 v2 v3 : Int} : tuC c m v1 v2 v3 (10 + m) = v1 := by
  unfold tuC
  rw [upc_ne (by omega), upc_ne (by omega), upc_ne (by omega), upc_same]
theorem tuC_2 {c : Nat → Int} {m : Nat} {v1 v2 v3 : Int} : tuC c m v1 v2 v3 (16 + m) = v2 := by
  unfold tuC
  rw [upc_ne (by omega), upc_ne (by omega), upc_same]
theorem tuC_3 {c : Nat → Int} {m : Nat} {v1 v2 v3 : Int} : tuC c m v1 v2 v3 (22 + m) = v3 := by
  unfold tuC
  rw [upc_ne (by omega), upc_same]
theorem tuC_m {c : Nat → Int} {m : Nat} {v1 v2 v3 : Int} : tuC c m v1 v2 v3 2 = (m : Int) + 1 := upc_same _ _ _
section BC
variable {c : Nat → Int} {b : Nat} {x y st li : Int} {len : Nat} {ent : Nat → Int}
theorem baC_ne {k : Nat} (h0 : k ≠ 3) (h1 : k ≠ 28 + b) (h2 : k ≠ 34 + b) (h3 : k ≠ 40 + b) (h4 : k ≠ 46 + b) (h5 : k ≠ 52 + b) (h6 : k ≠ 64 + b) (h7 : ¬ (70 + 6 * b ≤ k ∧ k < 70 + 6 * b + len)) : baC c b x y st li len ent k = c k := by
  unfold baC
  rw [if_neg h0, if_neg h1, if_neg h2, if_neg h3, if_neg h4, if_neg h5, if_neg h6, if_neg h7]
theorem baC_3 : baC c b x y st li len ent 3 = (b : Int) + 1 := if_pos rfl
theorem baC_x (hb : b < 6) : baC c b x y st li len ent (28 + b) = x := by
  unfold baC
  rw [if_neg (by omega), if_pos rfl]
theorem baC_y (hb : b < 6) : baC c b x y st li len ent (34 + b) = y := by
  unfold baC
  rw [if_neg (by omega), if_neg (by omega), if_pos rfl]
theorem baC_s (hb : b < 6) : baC c b x y st li len ent (40 + b) = st := by
  unfold baC
  rw [if_neg (by omega), if_neg (by omega), if_neg (by omega), if_pos rfl]
theorem baC_l (hb : b < 6) : baC c b x y st li len ent (46 + b) = li := by
  unfold baC
  rw [if_neg (by omega), if_neg (by omega), if_neg (by omega), if_neg (by omega), if_pos rfl]
theorem baC_m (hb : b < 6) : baC c b x y st li len ent (52 + b) = li := by
  unfold baC
  rw [if_neg (by omega), if_neg (by omega), if_neg (by omega), if_neg (by omega), if_neg (by omega), if_pos rfl]
theorem baC_n (hb : b < 6) : baC c b x y st li len ent (64 + b) = (len : Int) := by
  unfold baC
  rw [if_neg (by omega), if_neg (by omega), if_neg (by omega), if_neg (by omega), if_neg (by omega), if_neg (by omega), if_pos rfl]
theorem baC_e (hb : b < 6) {k : Nat} (hk : k < len) : baC c b x y st li len ent (70 + 6 * b + k) = ent k := by
  unfold baC
  rw [if_neg (by omega), if_neg (by omega), if_neg (by omega), if_neg (by omega), if_neg (by omega), if_neg (by omega), if_neg (by omega), if_pos (by omega), show 70 + 6 * b + k - (70 + 6 * b) = k by omega]
end BC
section PM
variable {B : Nat → Int} {n : Nat}
theorem pJ_s (F : Int → Int) (s : TS3) : ∀ m : Nat, (∀ i, 1 ≤ i → i ≤ m → cM B n (pS B n F i s)) ∨ ∃ j, (1 ≤ j ∧ j ≤ m) ∧ ¬ cM B n (pS B n F j s) ∧ ∀ i, 1 ≤ i → i < j → cM B n (pS B n F i s)
  | 0 => Or.inl (fun i h1 h2 => by omega)
  | m + 1 => by
    rcases pJ_s F s m with h | ⟨j, h1, h2, h3⟩
    · by_cases g : cM B n (pS B n F (m + 1) s)
      · refine Or.inl (fun i h1 h2 => ?_)
        by_cases e : i = m + 1
        · subst e; exact g
        · exact h i h1 (by omega)
      · exact Or.inr ⟨m + 1, by omega, g, fun i h1 h2 => h i h1 (by omega)⟩
    · exact Or.inr ⟨j, by omega, h2, h3⟩
theorem pJ_ex (F : Int → Int) (s : TS3) : ∃ j, (1 ≤ j ∧ j ≤ 7) ∧ ¬ cM B n (pS B n F j s) ∧ ∀ i, 1 ≤ i → i < j → cM B n (pS B n F i s) := by
  rcases pJ_s (B := B) (n := n) F s 7 with h | h
  · exact absurd (h 7 (by omega) (by omega)).1 pS_7
  · exact h
noncomputable def pJ (B : Nat → Int) (n : Nat) (F : Int → Int) (s : TS3) : Nat := Classical.choose (pJ_ex (B := B) (n := n) F s)
theorem pJ_p (F : Int → Int) (s : TS3) : (1 ≤ pJ B n F s ∧ pJ B n F s ≤ 7) ∧ ¬ cM B n (pS B n F (pJ B n F s) s) ∧ ∀ i, 1 ≤ i → i < pJ B n F s → cM B n (pS B n F i s) := Classical.choose_spec (pJ_ex (B := B) (n := n) F s)
theorem pJ_u {F : Int → Int} {s : TS3} {j : Nat} (h1 : 1 ≤ j) (h2 : ¬ cM B n (pS B n F j s)) (h3 : ∀ i, 1 ≤ i → i < j → cM B n (pS B n F i s)) : j = pJ B n F s := by
  obtain ⟨p1, p2, p3⟩ := pJ_p (B := B) (n := n) F s
  by_cases g : j < pJ B n F s
  · exact absurd (p3 j h1 g) h2
  · by_cases g2 : pJ B n F s < j
    · exact absurd (h3 _ p1.1 g2) p2
    · omega
theorem pS_le {F : Int → Int} {s : TS3} {i : Nat} : ∀ {j : Nat}, i ≤ j → (pS B n F j s).2.1 = 0 → (pS B n F i s).2.1 = 0
  | 0, h, g => by
    have : i = 0 := by omega
    subst this; exact g
  | j + 1, h, g => by
    by_cases e : i = j + 1
    · subst e; exact g
    · exact pS_le (j := j) (by omega) (pSt_m g).1
/-- one part -/
noncomputable def bdS (B : Nat → Int) (n : Nat) (c w : Nat → Int) (o : Int) (s : TS3) : TS3 := if tKw B n (tB3 B n c (tBd0 B n c w o s)) = 14 then tNdE B n (pS B n (nmF w 0 (c 2).toNat) (pJ B n (nmF w 0 (c 2).toNat) (tAdv B n (tB3 B n c (tBd0 B n c w o s)))) (tAdv B n (tB3 B n c (tBd0 B n c w o s)))) else tNdE B n (tB3 B n c (tBd0 B n c w o s))
noncomputable def bdN (B : Nat → Int) (n : Nat) (c w : Nat → Int) (o : Int) (s : TS3) : Nat := if tKw B n (tB3 B n c (tBd0 B n c w o s)) = 14 then pJ B n (nmF w 0 (c 2).toNat) (tAdv B n (tB3 B n c (tBd0 B n c w o s))) else 0
noncomputable def bdC (B : Nat → Int) (n : Nat) (c w : Nat → Int) (o : Int) (s : TS3) : Nat → Int := baC c (c 3).toNat (tNm B n (tNdW B n 11 (tBd0 B n c w o s)).1) (tNm B n (tNdN B n 0 (c 0 - 1) (tNdW B n 11 (tBd0 B n c w o s))).1) (tNm B n (tNdW B n 12 (tStd B n c (tBd0 B n c w o s))).1) (tNm B n (tNdW B n 13 (tNdN B n 0 20 (tNdW B n 12 (tStd B n c (tBd0 B n c w o s))))).1) (bdN B n c w o s) (fun k => vEnt B n (nmF w 0 (c 2).toNat) (pS B n (nmF w 0 (c 2).toNat) k (tAdv B n (tB3 B n c (tBd0 B n c w o s)))))
noncomputable def stZ (B : Nat → Int) (n : Nat) (s : TS3) (f : Int) (c w : Nat → Int) : PX := (tSize B n (hsO f 3) s, orI f (shlI 1 3), szC c (tNm B n (tOnce B n (hsO f 3) s).1) (tNm B n (tNdW B n 1 (tNdN B n 1 6 (tOnce B n (hsO f 3) s))).1), w)
noncomputable def stRu (B : Nat → Int) (n : Nat) (i : Nat) (hi : Int) (s : TS3) (f : Int) (c w : Nat → Int) : PX := (tRule B n (hsO f i) hi s, orI f (shlI 1 i), upc c (4 + i) (tNm B n (tOnce B n (hsO f i) s).1), w)
noncomputable def stPo (B : Nat → Int) (n : Nat) (s : TS3) (f : Int) (c w : Nat → Int) : PX := (tPond B n (hsO f 3) (c 0) (c 1) s, f, upc c (106 + 6 * tNm B n (tNdN B n 0 (c 0 - 1) (tAdv B n (tBeh B n (hsO f 3) s))).1 + tNm B n (tAdv B n (tBeh B n (hsO f 3) s)).1).toNat 1, w)
noncomputable def stT (B : Nat → Int) (n : Nat) (s : TS3) (f : Int) (c w : Nat → Int) : PX := if c 2 = 6 then (tBlm B n 6 s, f, c, w) else (tTune B n (nwG c w) s, f, tuC c (c 2).toNat (vLoud B n (nwG c w) s) (vToll B n (nwG c w) s) (vBeat B n (nwG c w) s), upc w (c 2).toNat (tWd B n (tAdv B n s).1))
noncomputable def stB (B : Nat → Int) (n : Nat) (s : TS3) (f : Int) (c w : Nat → Int) : PX := if c 3 = 6 then (tBlm B n 6 (tBeh B n (hsO f 3) s), f, c, w) else (bdS B n c w (hsO f 3) s, f, bdC B n c w (hsO f 3) s, upc w (6 + (c 3).toNat) (tWd B n (tAdv B n (tBeh B n (hsO f 3) s)).1))
noncomputable def stp (B : Nat → Int) (n : Nat) (X : PX) : PX := if tKw B n X.1 = 0 then stZ B n X.1 X.2.1 X.2.2.1 X.2.2.2 else if tKw B n X.1 = 2 then stRu B n 0 9 X.1 X.2.1 X.2.2.1 X.2.2.2 else if tKw B n X.1 = 3 then stRu B n 1 9 X.1 X.2.1 X.2.2.1 X.2.2.2 else if tKw B n X.1 = 4 then stRu B n 2 16 X.1 X.2.1 X.2.2.1 X.2.2.2 else if tKw B n X.1 = 5 then stPo B n X.1 X.2.1 X.2.2.1 X.2.2.2 else if tKw B n X.1 = 6 then stT B n X.1 X.2.1 X.2.2.1 X.2.2.2 else if tKw B n X.1 = 10 then stB B n X.1 X.2.1 X.2.2.1 X.2.2.2 else (tBlm B n 2 X.1, X.2)
def DrC (f : Int) (c : Nat → Int) : Prop := (0 ≤ f ∧ f < 16) ∧ WB c ∧ (c 7 = 0 ∧ c 8 = 4 ∧ c 9 = 0) ∧ (∀ b : Nat, b < 6 → c (58 + b) = 0) ∧ (c 136 = 0 ∧ c 137 = 0) ∧ (f < 8 → c 0 = 0 ∧ c 1 = 0)
def DrX (X : PX) : Prop := DrC X.2.1 X.2.2.1
theorem dr_size {s : TS3} {f : Int} {c w : Nat → Int} (C : DrC f c) (h : (stZ B n s f c w).1.2.1 = 0) : DrX (stZ B n s f c w) := by
  obtain ⟨h16, hw, c7, cp, ce, c8⟩ := C
  have h : (tSize B n (hsO f 3) s).2.1 = 0 := h
  unfold tSize at h
  have h5 := tNdE_m h
  have v5 := (tNdN_v h5).2
  have h4 : (tNdN B n 1 6 (tOnce B n (hsO f 3) s)).2.1 = 0 := tNdW_m (i := 1) (by decide) (tNdN_m h5)
  have v4 := (tNdN_v h4).2
  have h3 := tOnce_m (tNdN_m h4)
  obtain ⟨f1, _, _, _, f5, f6⟩ := flg h16
  obtain ⟨_, _, f3, f4⟩ := flP_1 f1
  have lt := f6.mp h3.2
  obtain ⟨z0, z1⟩ := c8 lt
  have hH := hw.1
  show DrC (orI f (shlI 1 3)) (szC c (tNm B n (tOnce B n (hsO f 3) s).1) (tNm B n (tNdW B n 1 (tNdN B n 1 6 (tOnce B n (hsO f 3) s))).1))
  generalize tNm B n (tOnce B n (hsO f 3) s).1 = vw at *
  generalize tNm B n (tNdW B n 1 (tNdN B n 1 6 (tOnce B n (hsO f 3) s))).1 = vd at *
  refine ⟨f3, ⟨?_, fun t t0 t1 => ?_, fun b b0 b1 => ?_, fun k k0 k1 => ?_⟩, ⟨by rw [szC_ne (by omega)]; exact c7.1, by rw [szC_ne (by omega)]; exact c7.2.1, by rw [szC_ne (by omega)]; exact c7.2.2⟩, fun b hb => by rw [szC_ne (by omega)]; exact cp b hb, ⟨by rw [szC_ne (by omega)]; exact ce.1, by rw [szC_ne (by omega)]; exact ce.2⟩, fun q => ?_⟩
  · unfold WH
    rw [szC_0, szC_1, szC_ne (j := 2) (by omega), szC_ne (j := 3) (by omega), szC_ne (j := 4) (by omega), szC_ne (j := 5) (by omega), szC_ne (j := 6) (by omega), szC_ne (j := 7) (by omega), szC_ne (j := 8) (by omega), szC_ne (j := 9) (by omega)]
    exact ⟨by omega, by omega, hH.2.2⟩
  · rw [szC_ne (by omega)] at t1
    unfold WTi
    rw [szC_ne (j := (10 + t).toNat) (by omega), szC_ne (j := (16 + t).toNat) (by omega), szC_ne (j := (22 + t).toNat) (by omega)]
    exact hw.2.1 t t0 t1
  · rw [szC_ne (by omega)] at b1
    have d := (hw.2.2.1 b b0 b1).1.1
    omega
  · have q := (hw.2.2.2 k k0 k1).2 (by omega)
    rw [szC_ne (j := (106 + k).toNat) (by omega), q]
    exact ⟨by omega, fun _ => rfl⟩
  · have := f4.mp q
    omega
theorem dr_rule {i : Nat} (i3 : i < 3) {hi : Int} (hh : hi ≤ if i = 2 then 16 else 9) {s : TS3} {f : Int} {c w : Nat → Int} (C : DrC f c) (h : (stRu B n i hi s f c w).1.2.1 = 0) : DrX (stRu B n i hi s f c w) := by
  obtain ⟨h16, hw, c7, cp, ce, c8⟩ := C
  have h : (tRule B n (hsO f i) hi s).2.1 = 0 := h
  unfold tRule at h
  have h5 := tNdE_m h
  have v5 := (tNdN_v h5).2
  obtain ⟨_, f1, f2, f3, f5, f6⟩ := flg h16
  have ff : (0 ≤ orI f (shlI 1 i) ∧ orI f (shlI 1 i) < 16) ∧ (orI f (shlI 1 i) < 8 → f < 8) := by
    have : i = 0 ∨ i = 1 ∨ i = 2 := by omega
    rcases this with e | e | e <;> subst e
    · obtain ⟨_, _, a3, a4⟩ := flP_1 f1; exact ⟨a3, fun q => (a4.mp q).1⟩
    · obtain ⟨_, _, a3, a4⟩ := flP_1 f2; exact ⟨a3, fun q => (a4.mp q).1⟩
    · obtain ⟨_, _, a3, a4⟩ := flP_1 f3; exact ⟨a3, fun q => (a4.mp q).1⟩
  have hH := hw.1
  show DrC (orI f (shlI 1 i)) (upc c (4 + i) (tNm B n (tOnce B n (hsO f i) s).1))
  generalize tNm B n (tOnce B n (hsO f i) s).1 = v at *
  have u : ∀ j, j < 4 ∨ 7 ≤ j → upc c (4 + i) v j = c j := fun j hj => upc_ne (by omega)
  refine ⟨ff.1, ⟨?_, fun t t0 t1 => ?_, fun b b0 b1 => ?_, fun k k0 k1 => ?_⟩, ⟨by rw [u 7 (by omega)]; exact c7.1, by rw [u 8 (by omega)]; exact c7.2.1, by rw [u 9 (by omega)]; exact c7.2.2⟩, fun b hb => by rw [u _ (by omega)]; exact cp b hb, ⟨by rw [u 136 (by omega)]; exact ce.1, by rw [u 137 (by omega)]; exact ce.2⟩, fun q => ?_⟩
  · have : i = 0 ∨ i = 1 ∨ i = 2 := by omega
    unfold WH
    rw [u 0 (by omega), u 1 (by omega), u 2 (by omega), u 3 (by omega), u 7 (by omega), u 8 (by omega), u 9 (by omega)]
    rcases this with e | e | e <;> subst e
    · rw [if_neg (by omega)] at hh
      rw [show upc c (4 + 0) v 4 = v from upc_same _ _ _, upc_ne (j := 5) (by omega), upc_ne (j := 6) (by omega)]
      exact ⟨hH.1, hH.2.1, hH.2.2.1, hH.2.2.2.1, by omega, hH.2.2.2.2.2⟩
    · rw [if_neg (by omega)] at hh
      rw [show upc c (4 + 1) v 5 = v from upc_same _ _ _, upc_ne (j := 4) (by omega), upc_ne (j := 6) (by omega)]
      exact ⟨hH.1, hH.2.1, hH.2.2.1, hH.2.2.2.1, hH.2.2.2.2.1, by omega, hH.2.2.2.2.2.2⟩
    · rw [if_pos rfl] at hh
      rw [show upc c (4 + 2) v 6 = v from upc_same _ _ _, upc_ne (j := 4) (by omega), upc_ne (j := 5) (by omega)]
      exact ⟨hH.1, hH.2.1, hH.2.2.1, hH.2.2.2.1, hH.2.2.2.2.1, hH.2.2.2.2.2.1, by omega, hH.2.2.2.2.2.2.2⟩
  · rw [u 2 (by omega)] at t1
    unfold WTi
    rw [u (10 + t).toNat (by omega), u (16 + t).toNat (by omega), u (22 + t).toNat (by omega)]
    exact hw.2.1 t t0 t1
  · rw [u 3 (by omega)] at b1
    have d := hw.2.2.1 b b0 b1
    refine ⟨?_, fun k k0 k1 => ?_⟩
    · unfold WDi
      rw [u (28 + b).toNat (by omega), u (34 + b).toNat (by omega), u (40 + b).toNat (by omega), u (46 + b).toNat (by omega), u (52 + b).toNat (by omega), u (58 + b).toNat (by omega), u (64 + b).toNat (by omega), u 0 (by omega), u 1 (by omega)]
      exact d.1
    · rw [u (64 + b).toNat (by omega)] at k1
      unfold enB
      rw [u (70 + 6 * b + k).toNat (by omega), u 2 (by omega)]
      exact d.2 k k0 k1
  · rw [u (106 + k).toNat (by omega), u 0 (by omega), u 1 (by omega)]
    exact hw.2.2.2 k k0 k1
  · rw [u 0 (by omega), u 1 (by omega)]
    exact c8 (ff.2 q)
theorem dr_pond {s : TS3} {f : Int} {c w : Nat → Int} (C : DrC f c) (h : (stPo B n s f c w).1.2.1 = 0) : DrX (stPo B n s f c w) := by
  obtain ⟨h16, hw, c7, cp, ce, c8⟩ := C
  have h : (tPond B n (hsO f 3) (c 0) (c 1) s).2.1 = 0 := h
  unfold tPond at h
  have h5 := tNdE_m h
  have v5 := (tNdN_v h5).2
  have h4 := tNdN_m h5
  have v4 := (tNdN_v h4).2
  have h3 := tBeh_m (tAdv_m (tNdN_m h4))
  obtain ⟨_, _, _, _, f5, f6⟩ := flg h16
  have nlt : ¬ f < 8 := fun q => h3.2 (f6.mpr q)
  have hH := hw.1
  show DrC f (upc c (106 + 6 * tNm B n (tNdN B n 0 (c 0 - 1) (tAdv B n (tBeh B n (hsO f 3) s))).1 + tNm B n (tAdv B n (tBeh B n (hsO f 3) s)).1).toNat 1)
  generalize tNm B n (tNdN B n 0 (c 0 - 1) (tAdv B n (tBeh B n (hsO f 3) s))).1 = y at *
  generalize tNm B n (tAdv B n (tBeh B n (hsO f 3) s)).1 = x at *
  have u : ∀ j, j < 106 ∨ 136 ≤ j → upc c (106 + 6 * y + x).toNat 1 j = c j := fun j hj => upc_ne (by omega)
  refine ⟨h16, ⟨?_, fun t t0 t1 => ?_, fun b b0 b1 => ?_, fun k k0 k1 => ?_⟩, ⟨by rw [u 7 (by omega)]; exact c7.1, by rw [u 8 (by omega)]; exact c7.2.1, by rw [u 9 (by omega)]; exact c7.2.2⟩, fun b hb => by rw [u _ (by omega)]; exact cp b hb, ⟨by rw [u 136 (by omega)]; exact ce.1, by rw [u 137 (by omega)]; exact ce.2⟩, fun q => absurd q nlt⟩
  · exact WH_cc (fun k hk => u k (by omega)) hH
  · rw [u 2 (by omega)] at t1
    unfold WTi
    rw [u (10 + t).toNat (by omega), u (16 + t).toNat (by omega), u (22 + t).toNat (by omega)]
    exact hw.2.1 t t0 t1
  · rw [u 3 (by omega)] at b1
    have d := hw.2.2.1 b b0 b1
    refine ⟨?_, fun k k0 k1 => ?_⟩
    · unfold WDi
      rw [u (28 + b).toNat (by omega), u (34 + b).toNat (by omega), u (40 + b).toNat (by omega), u (46 + b).toNat (by omega), u (52 + b).toNat (by omega), u (58 + b).toNat (by omega), u (64 + b).toNat (by omega), u 0 (by omega), u 1 (by omega)]
      exact d.1
    · rw [u (64 + b).toNat (by omega)] at k1
      unfold enB
      rw [u (70 + 6 * b + k).toNat (by omega), u 2 (by omega)]
      exact d.2 k k0 k1
  · rw [u 0 (by omega), u 1 (by omega)]
    have q := hw.2.2.2 k k0 k1
    by_cases e : (106 + k).toNat = (106 + 6 * y + x).toNat
    · rw [e, upc_same]
      have e1 : k = 6 * y + x := by omega
      have a1 : (6 * y + x) % 6 = x := by omega
      have a2 : (6 * y + x) / 6 = y := by omega
      refine ⟨by omega, fun nn => ?_⟩
      exfalso
      apply nn
      rw [e1, a1, a2]
      omega
    · rw [upc_ne e]
      exact q
theorem vEnt_en {F : Int → Int} {s : TS3} (h : (tEnt B n F s).2.1 = 0) : vEnt B n F s = 6 ∨ (vEnt B n F s = F (tWd B n s.1) ∧ F (tWd B n s.1) ≠ -1) := by
  unfold tEnt at h
  unfold vEnt
  by_cases g : tKw B n s = 15
  · rw [if_pos g]; exact Or.inl rfl
  · rw [if_neg g] at h
    rw [if_neg g]
    exact Or.inr ⟨rfl, (tTold_v h).2.2⟩
theorem tBts_v {s : TS3} (h : (tBts B n s).2.1 = 0) : s.2.1 = 0 ∧ 1 ≤ vBts B n s ∧ vBts B n s ≤ 99 := by
  refine ⟨tBts_m h, ?_⟩
  unfold tBts at h
  unfold vBts
  by_cases g : tKw B n s = 9
  · rw [if_pos g] at h
    rw [if_pos g]
    exact (tNdN_v h).2
  · rw [if_neg g]
    omega
theorem dr_tune {s : TS3} {f : Int} {c w : Nat → Int} (C : DrC f c) (h : (stT B n s f c w).1.2.1 = 0) : DrX (stT B n s f c w) := by
  obtain ⟨h16, hw, c7, cp, ce, c8⟩ := C
  have hH := hw.1
  unfold stT at h ⊢
  by_cases g6 : c 2 = 6
  · rw [if_pos g6] at h
    exact absurd h (tBlm_1 (by omega))
  · rw [if_neg g6] at h ⊢
    have h : (tTune B n (nwG c w) s).2.1 = 0 := h
    unfold tTune at h
    have b1 := tBts_v (tNdE_m h)
    have b2 := tNdN_v b1.1
    have b3 := tNdN_v (tNdW_m (i := 8) (by decide) b2.1)
    have v1 : 1 ≤ vBeat B n (nwG c w) s ∧ vBeat B n (nwG c w) s ≤ 99 := b1.2
    have v2 : 0 ≤ vToll B n (nwG c w) s ∧ vToll B n (nwG c w) s ≤ 9 := b2.2
    have v3 : 0 ≤ vLoud B n (nwG c w) s ∧ vLoud B n (nwG c w) s ≤ 20 := b3.2
    show DrC f (tuC c (c 2).toNat (vLoud B n (nwG c w) s) (vToll B n (nwG c w) s) (vBeat B n (nwG c w) s))
    generalize vLoud B n (nwG c w) s = lo at *
    generalize vToll B n (nwG c w) s = tl at *
    generalize vBeat B n (nwG c w) s = be at *
    obtain ⟨m, hm⟩ : ∃ m : Nat, c 2 = (m : Int) := ⟨(c 2).toNat, by omega⟩
    have hm2 : (c 2).toNat = m := by omega
    rw [hm2]
    have m6 : m < 6 := by omega
    have u : ∀ j, j < 10 ∨ 28 ≤ j → j ≠ 2 → tuC c m lo tl be j = c j := fun j hj h2 => tuC_ne (by omega) (by omega) (by omega) h2
    refine ⟨h16, ⟨?_, fun t t0 t1 => ?_, fun b b0 b1 => ?_, fun k k0 k1 => ?_⟩, ⟨by rw [u 7 (by omega) (by omega)]; exact c7.1, by rw [u 8 (by omega) (by omega)]; exact c7.2.1, by rw [u 9 (by omega) (by omega)]; exact c7.2.2⟩, fun b hb => by rw [u _ (by omega) (by omega)]; exact cp b hb, ⟨by rw [u 136 (by omega) (by omega)]; exact ce.1, by rw [u 137 (by omega) (by omega)]; exact ce.2⟩, fun q => by rw [u 0 (by omega) (by omega), u 1 (by omega) (by omega)]; exact c8 q⟩
    · unfold WH
      rw [u 0 (by omega) (by omega), u 1 (by omega) (by omega), tuC_m, u 3 (by omega) (by omega), u 4 (by omega) (by omega), u 5 (by omega) (by omega), u 6 (by omega) (by omega), u 7 (by omega) (by omega), u 8 (by omega) (by omega), u 9 (by omega) (by omega)]
      exact ⟨hH.1, hH.2.1, by omega, hH.2.2.2⟩
    · rw [tuC_m] at t1
      unfold WTi
      by_cases e : t = (m : Int)
      · subst e
        rw [show (10 + (m : Int)).toNat = 10 + m by omega, show (16 + (m : Int)).toNat = 16 + m by omega, show (22 + (m : Int)).toNat = 22 + m by omega, tuC_1, tuC_2, tuC_3]
        exact ⟨v3, v2, v1⟩
      · rw [tuC_ne (j := (10 + t).toNat) (by omega) (by omega) (by omega) (by omega), tuC_ne (j := (16 + t).toNat) (by omega) (by omega) (by omega) (by omega), tuC_ne (j := (22 + t).toNat) (by omega) (by omega) (by omega) (by omega)]
        exact hw.2.1 t t0 (by omega)
    · rw [u 3 (by omega) (by omega)] at b1
      have d := hw.2.2.1 b b0 b1
      refine ⟨?_, fun k k0 k1 => ?_⟩
      · unfold WDi
        rw [u (28 + b).toNat (by omega) (by omega), u (34 + b).toNat (by omega) (by omega), u (40 + b).toNat (by omega) (by omega), u (46 + b).toNat (by omega) (by omega), u (52 + b).toNat (by omega) (by omega), u (58 + b).toNat (by omega) (by omega), u (64 + b).toNat (by omega) (by omega), u 0 (by omega) (by omega), u 1 (by omega) (by omega)]
        exact d.1
      · rw [u (64 + b).toNat (by omega) (by omega)] at k1
        have d2 := d.2 k k0 k1
        unfold enB at d2 ⊢
        rw [u (70 + 6 * b + k).toNat (by omega) (by omega), tuC_m]
        omega
    · rw [u (106 + k).toNat (by omega) (by omega), u 0 (by omega) (by omega), u 1 (by omega) (by omega)]
      exact hw.2.2.2 k k0 k1
/-- what a band that is read well tells -/
theorem bd_v {c w : Nat → Int} {o : Int} {s : TS3} (h : (bdS B n c w o s).2.1 = 0) : (tB3 B n c (tBd0 B n c w o s)).2.1 = 0 ∧ (tBd0 B n c w o s).2.1 = 0 ∧ (s.2.1 = 0 ∧ ¬ o = 0) ∧ (0 ≤ tNm B n (tNdW B n 11 (tBd0 B n c w o s)).1 ∧ tNm B n (tNdW B n 11 (tBd0 B n c w o s)).1 ≤ c 0 - 1) ∧ (0 ≤ tNm B n (tNdN B n 0 (c 0 - 1) (tNdW B n 11 (tBd0 B n c w o s))).1 ∧ tNm B n (tNdN B n 0 (c 0 - 1) (tNdW B n 11 (tBd0 B n c w o s))).1 ≤ c 1 - 1) ∧ (0 ≤ tNm B n (tNdW B n 12 (tStd B n c (tBd0 B n c w o s))).1 ∧ tNm B n (tNdW B n 12 (tStd B n c (tBd0 B n c w o s))).1 ≤ 20) ∧ (0 ≤ tNm B n (tNdW B n 13 (tNdN B n 0 20 (tNdW B n 12 (tStd B n c (tBd0 B n c w o s))))).1 ∧ tNm B n (tNdW B n 13 (tNdN B n 0 20 (tNdW B n 12 (tStd B n c (tBd0 B n c w o s))))).1 ≤ 99) ∧ bdN B n c w o s ≤ 6 ∧ ∀ k, k < bdN B n c w o s → (pS B n (nmF w 0 (c 2).toNat) (k + 1) (tAdv B n (tB3 B n c (tBd0 B n c w o s)))).2.1 = 0 := by
  have h3 : (tB3 B n c (tBd0 B n c w o s)).2.1 = 0 ∧ bdN B n c w o s ≤ 6 ∧ ∀ k, k < bdN B n c w o s → (pS B n (nmF w 0 (c 2).toNat) (k + 1) (tAdv B n (tB3 B n c (tBd0 B n c w o s)))).2.1 = 0 := by
    unfold bdS at h
    unfold bdN
    by_cases g : tKw B n (tB3 B n c (tBd0 B n c w o s)) = 14
    · rw [if_pos g] at h
      rw [if_pos g]
      have h1 := tNdE_m h
      have pp := pJ_p (B := B) (n := n) (nmF w 0 (c 2).toNat) (tAdv B n (tB3 B n c (tBd0 B n c w o s)))
      refine ⟨tAdv_m (pS_m h1), ?_, fun k hk => pS_le (by omega) h1⟩
      by_cases e : pJ B n (nmF w 0 (c 2).toNat) (tAdv B n (tB3 B n c (tBd0 B n c w o s))) = 7
      · rw [e] at h1
        exact absurd h1 pS_7
      · omega
    · rw [if_neg g] at h
      rw [if_neg g]
      exact ⟨tNdE_m h, by omega, fun k hk => by omega⟩
  obtain ⟨h3, h6, h7⟩ := h3
  have a1 : (tNdN B n 0 99 (tNdW B n 13 (tNdN B n 0 20 (tNdW B n 12 (tStd B n c (tBd0 B n c w o s)))))).2.1 = 0 := h3
  have a2 := tNdN_v a1
  have a3 := tNdN_v (tNdW_m (i := 13) (by decide) a2.1)
  have a4 : (tStd B n c (tBd0 B n c w o s)).2.1 = 0 := tNdW_m (i := 12) (by decide) a3.1
  have a5 := tStd_m a4
  have a6 : (tNmH B n 0 (c 1 - 1) (tNdN B n 0 (c 0 - 1) (tNdW B n 11 (tBd0 B n c w o s)))).2.1 = 0 := by
    unfold tStd at a4
    have a4 := tAdv_m a4
    split at a4
    · exact absurd a4 (tBlm_1 (by omega))
    · exact a4
  have a7 := tNmH_v a6
  have a8 := tNdN_v a7.2.1
  have a9 : (tBeh B n o s).2.1 = 0 := by
    unfold tBd0 at a5
    exact tAdv_m (tNew_m a5)
  exact ⟨h3, a5, tBeh_m a9, a8.2, a7.2.2, a3.2, a2.2, h6, h7⟩
theorem dr_band {s : TS3} {f : Int} {c w : Nat → Int} (C : DrC f c) (h : (stB B n s f c w).1.2.1 = 0) : DrX (stB B n s f c w) := by
  obtain ⟨h16, hw, c7, cp, ce, c8⟩ := C
  have hH := hw.1
  unfold stB at h ⊢
  by_cases g6 : c 3 = 6
  · rw [if_pos g6] at h
    exact absurd h (tBlm_1 (by omega))
  · rw [if_neg g6] at h ⊢
    have h : (bdS B n c w (hsO f 3) s).2.1 = 0 := h
    obtain ⟨_, _, h2, vx, vy, vs, vl, v6, ve⟩ := bd_v h
    obtain ⟨_, _, _, _, f5, f6⟩ := flg h16
    have nlt : ¬ f < 8 := fun q => h2.2 (f6.mpr q)
    show DrC f (bdC B n c w (hsO f 3) s)
    unfold bdC
    have en : ∀ k, k < bdN B n c w (hsO f 3) s → vEnt B n (nmF w 0 (c 2).toNat) (pS B n (nmF w 0 (c 2).toNat) k (tAdv B n (tB3 B n c (tBd0 B n c w (hsO f 3) s)))) = 6 ∨ (0 ≤ vEnt B n (nmF w 0 (c 2).toNat) (pS B n (nmF w 0 (c 2).toNat) k (tAdv B n (tB3 B n c (tBd0 B n c w (hsO f 3) s)))) ∧ vEnt B n (nmF w 0 (c 2).toNat) (pS B n (nmF w 0 (c 2).toNat) k (tAdv B n (tB3 B n c (tBd0 B n c w (hsO f 3) s)))) < c 2) := fun k hk => by
      have h1 : (pSt B n (nmF w 0 (c 2).toNat) k (pS B n (nmF w 0 (c 2).toNat) k (tAdv B n (tB3 B n c (tBd0 B n c w (hsO f 3) s))))).2.1 = 0 := ve k hk
      have h3 : (tEnt B n (nmF w 0 (c 2).toNat) (pS B n (nmF w 0 (c 2).toNat) k (tAdv B n (tB3 B n c (tBd0 B n c w (hsO f 3) s))))).2.1 = 0 := by
        have q := (pSt_m h1).2
        unfold pSt at h1
        rw [if_neg q] at h1
        exact tAdv_m h1
      rcases vEnt_en h3 with q | ⟨q, q2⟩
      · exact Or.inl q
      · have rg := nmF_rng w 0 (c 2).toNat (tWd B n (pS B n (nmF w 0 (c 2).toNat) k (tAdv B n (tB3 B n c (tBd0 B n c w (hsO f 3) s)))).1)
        rw [← q] at rg q2
        refine Or.inr ⟨by omega, ?_⟩
        have := hH.2.2.1
        omega
    generalize bdN B n c w (hsO f 3) s = len at *
    generalize tNm B n (tNdW B n 13 (tNdN B n 0 20 (tNdW B n 12 (tStd B n c (tBd0 B n c w (hsO f 3) s))))).1 = li at *
    generalize tNm B n (tNdW B n 12 (tStd B n c (tBd0 B n c w (hsO f 3) s))).1 = st at *
    generalize tNm B n (tNdN B n 0 (c 0 - 1) (tNdW B n 11 (tBd0 B n c w (hsO f 3) s))).1 = y at *
    generalize tNm B n (tNdW B n 11 (tBd0 B n c w (hsO f 3) s)).1 = x at *
    obtain ⟨ent, he⟩ : ∃ ent : Nat → Int, ent = fun k => vEnt B n (nmF w 0 (c 2).toNat) (pS B n (nmF w 0 (c 2).toNat) k (tAdv B n (tB3 B n c (tBd0 B n c w (hsO f 3) s)))) := ⟨_, rfl⟩
    have en : ∀ k, k < len → ent k = 6 ∨ (0 ≤ ent k ∧ ent k < c 2) := fun k hk => by rw [he]; exact en k hk
    rw [← he]
    obtain ⟨b, hb⟩ : ∃ b : Nat, c 3 = (b : Int) := ⟨(c 3).toNat, by omega⟩
    have hb2 : (c 3).toNat = b := by omega
    rw [hb2]
    have b6 : b < 6 := by omega
    clear ve h he
    have u : ∀ j, (j ≠ 3 ∧ j < 28) ∨ (58 ≤ j ∧ j < 64) ∨ 106 ≤ j → baC c b x y st li len ent j = c j := fun j hj => baC_ne (by omega) (by omega) (by omega) (by omega) (by omega) (by omega) (by omega) (by omega)
    refine ⟨h16, ⟨?_, fun t t0 t1 => ?_, fun d d0 d1 => ?_, fun k k0 k1 => ?_⟩, ⟨by rw [u 7 (by omega)]; exact c7.1, by rw [u 8 (by omega)]; exact c7.2.1, by rw [u 9 (by omega)]; exact c7.2.2⟩, fun d hd => by rw [u _ (by omega)]; exact cp d hd, ⟨by rw [u 136 (by omega)]; exact ce.1, by rw [u 137 (by omega)]; exact ce.2⟩, fun q => absurd q nlt⟩
    · unfold WH
      rw [u 0 (by omega), u 1 (by omega), u 2 (by omega), baC_3, u 4 (by omega), u 5 (by omega), u 6 (by omega), u 7 (by omega), u 8 (by omega), u 9 (by omega)]
      exact ⟨hH.1, hH.2.1, hH.2.2.1, by omega, hH.2.2.2.2⟩
    · rw [u 2 (by omega)] at t1
      unfold WTi
      rw [u (10 + t).toNat (by omega), u (16 + t).toNat (by omega), u (22 + t).toNat (by omega)]
      exact hw.2.1 t t0 t1
    · rw [baC_3] at d1
      by_cases e : d = (b : Int)
      · subst e
        have p0 := cp b b6
        refine ⟨?_, fun k k0 k1 => ?_⟩
        · unfold WDi
          rw [show (28 + (b : Int)).toNat = 28 + b by omega, show (34 + (b : Int)).toNat = 34 + b by omega, show (40 + (b : Int)).toNat = 40 + b by omega, show (46 + (b : Int)).toNat = 46 + b by omega, show (52 + (b : Int)).toNat = 52 + b by omega, show (58 + (b : Int)).toNat = 58 + b by omega, show (64 + (b : Int)).toNat = 64 + b by omega, baC_x b6, baC_y b6, baC_s b6, baC_l b6, baC_m b6, baC_n b6, u (58 + b) (by omega), u 0 (by omega), u 1 (by omega), p0]
          omega
        · rw [show (64 + (b : Int)).toNat = 64 + b by omega, baC_n b6] at k1
          obtain ⟨i, hi⟩ : ∃ i : Nat, k = (i : Int) := ⟨k.toNat, by omega⟩
          subst hi
          have q := en i (by omega)
          unfold enB
          rw [show (70 + 6 * (b : Int) + (i : Int)).toNat = 70 + 6 * b + i by omega, baC_e b6 (by omega), u 2 (by omega)]
          omega
      · have dd := hw.2.2.1 d d0 (by omega)
        have d1' := dd.1
        have v : ∀ j, (28 ≤ j ∧ j < 70) → j ≠ 28 + b → j ≠ 34 + b → j ≠ 40 + b → j ≠ 46 + b → j ≠ 52 + b → j ≠ 64 + b → baC c b x y st li len ent j = c j := fun j h0 h1 h2 h3 h4 h5 h6 => baC_ne (by omega) h1 h2 h3 h4 h5 h6 (by omega)
        refine ⟨?_, fun k k0 k1 => ?_⟩
        · unfold WDi
          rw [v (28 + d).toNat (by omega) (by omega) (by omega) (by omega) (by omega) (by omega) (by omega), v (34 + d).toNat (by omega) (by omega) (by omega) (by omega) (by omega) (by omega) (by omega), v (40 + d).toNat (by omega) (by omega) (by omega) (by omega) (by omega) (by omega) (by omega), v (46 + d).toNat (by omega) (by omega) (by omega) (by omega) (by omega) (by omega) (by omega), v (52 + d).toNat (by omega) (by omega) (by omega) (by omega) (by omega) (by omega) (by omega), u (58 + d).toNat (by omega), v (64 + d).toNat (by omega) (by omega) (by omega) (by omega) (by omega) (by omega) (by omega), u 0 (by omega), u 1 (by omega)]
          exact dd.1
        · rw [v (64 + d).toNat (by omega) (by omega) (by omega) (by omega) (by omega) (by omega) (by omega)] at k1
          unfold enB
          rw [baC_ne (k := (70 + 6 * d + k).toNat) (by omega) (by omega) (by omega) (by omega) (by omega) (by omega) (by omega) (by omega), u 2 (by omega)]
          exact dd.2 k k0 k1
    · rw [u (106 + k).toNat (by omega), u 0 (by omega), u 1 (by omega)]
      exact hw.2.2.2 k k0 k1
theorem dr_stp {X : PX} (C : DrX X) (h : (stp B n X).1.2.1 = 0) : DrX (stp B n X) := by
  unfold stp at h ⊢
  by_cases g0 : tKw B n X.1 = 0
  · rw [if_pos g0] at h ⊢; exact dr_size C h
  · rw [if_neg g0] at h ⊢
    by_cases g2 : tKw B n X.1 = 2
    · rw [if_pos g2] at h ⊢; exact dr_rule (i := 0) (by omega) (by decide) C h
    · rw [if_neg g2] at h ⊢
      by_cases g3 : tKw B n X.1 = 3
      · rw [if_pos g3] at h ⊢; exact dr_rule (i := 1) (by omega) (by decide) C h
      · rw [if_neg g3] at h ⊢
        by_cases g4 : tKw B n X.1 = 4
        · rw [if_pos g4] at h ⊢; exact dr_rule (i := 2) (by omega) (by decide) C h
        · rw [if_neg g4] at h ⊢
          by_cases g5 : tKw B n X.1 = 5
          · rw [if_pos g5] at h ⊢; exact dr_pond C h
          · rw [if_neg g5] at h ⊢
            by_cases g6 : tKw B n X.1 = 6
            · rw [if_pos g6] at h ⊢; exact dr_tune C h
            · rw [if_neg g6] at h ⊢
              by_cases g10 : tKw B n X.1 = 10
              · rw [if_pos g10] at h ⊢; exact dr_band C h
              · rw [if_neg g10] at h ⊢
                exact absurd h (tBlm_1 (by omega))
/-! the place rises -/
theorem pl_adv (s : TS3) : s.1 ≤ (tAdv B n s).1 := by
  unfold tAdv
  by_cases g : s.2.1 = 0
  · rw [if_pos g]
    show s.1 ≤ tEn B n s.1
    by_cases k : tKd B n s.1 = 0
    · have a := tAt_le (B := B) (n := n) s.1
      unfold tKd at k
      unfold tEn
      by_cases q : n ≤ tAt B n s.1
      · rw [if_pos q]; exact a
      · rw [if_neg q] at k
        exfalso
        split at k
        · exact absurd k (by decide)
        · split at k
          · split at k <;> exact absurd k (by decide)
          · split at k <;> exact absurd k (by decide)
    · exact Nat.le_of_lt (tEn_lt k)
  · rw [if_neg g]
    exact Nat.le_refl _
theorem pl_blm (k : Int) (s : TS3) : (tBlm B n k s).1 = s.1 := by
  unfold tBlm
  split <;> rfl
theorem pl_ndW (i : Int) (s : TS3) : s.1 ≤ (tNdW B n i s).1 := by
  unfold tNdW
  split
  · exact pl_adv s
  · rw [pl_blm]; exact Nat.le_refl _
theorem pl_nmH (lo hi : Int) (s : TS3) : (tNmH B n lo hi s).1 = s.1 := by
  unfold tNmH
  split
  · exact pl_blm _ _
  · split
    · exact pl_blm _ _
    · rfl
theorem pl_ndN (lo hi : Int) (s : TS3) : s.1 ≤ (tNdN B n lo hi s).1 := by
  have := pl_adv (B := B) (n := n) (tNmH B n lo hi s)
  rw [pl_nmH] at this
  exact this
theorem pl_naH (s : TS3) : (tNaH B n s).1 = s.1 := by
  unfold tNaH
  split
  · rfl
  · exact pl_blm _ _
theorem pl_ent (F : Int → Int) (s : TS3) : (tEnt B n F s).1 = s.1 := by
  unfold tEnt tTold
  split
  · rfl
  · split
    · rw [pl_blm, pl_naH]
    · rw [pl_naH]
theorem pl_once (o : Int) (s : TS3) : s.1 ≤ (tOnce B n o s).1 := by
  unfold tOnce
  split
  · exact pl_adv s
  · have := pl_adv (B := B) (n := n) (tBlm B n 5 s)
    rw [pl_blm] at this
    exact this
theorem pl_beh (o : Int) (s : TS3) : (tBeh B n o s).1 = s.1 := by
  unfold tBeh
  split
  · exact pl_blm _ _
  · rfl
theorem pl_new (G : Int → Int) (s : TS3) : s.1 ≤ (tNew B n G s).1 := by
  unfold tNew
  split
  · have := pl_adv (B := B) (n := n) (tNaH B n s)
    rw [pl_naH] at this
    exact this
  · have := pl_adv (B := B) (n := n) (tBlm B n 3 (tNaH B n s))
    rw [pl_blm, pl_naH] at this
    exact this
theorem pl_bts (s : TS3) : s.1 ≤ (tBts B n s).1 := by
  unfold tBts
  split
  · exact Nat.le_trans (pl_adv s) (pl_ndN _ _ _)
  · exact Nat.le_refl _
theorem pl_std (c : Nat → Int) (s : TS3) : s.1 ≤ (tStd B n c s).1 := by
  have a1 := pl_ndW (B := B) (n := n) 11 s
  have a2 := pl_ndN (B := B) (n := n) 0 (c 0 - 1) (tNdW B n 11 s)
  unfold tStd
  split
  · have := pl_adv (B := B) (n := n) (tBlm B n 5 (tNmH B n 0 (c 1 - 1) (tNdN B n 0 (c 0 - 1) (tNdW B n 11 s))))
    rw [pl_blm, pl_nmH] at this
    omega
  · have := pl_adv (B := B) (n := n) (tNmH B n 0 (c 1 - 1) (tNdN B n 0 (c 0 - 1) (tNdW B n 11 s)))
    rw [pl_nmH] at this
    omega
theorem pl_pS (F : Int → Int) (s : TS3) : ∀ j, s.1 ≤ (pS B n F j s).1
  | 0 => Nat.le_refl _
  | j + 1 => by
    have ih := pl_pS F s j
    show s.1 ≤ (pSt B n F j (pS B n F j s)).1
    unfold pSt
    split
    · have := pl_adv (B := B) (n := n) (tBlm B n 6 (tEnt B n F (pS B n F j s)))
      rw [pl_blm, pl_ent] at this
      omega
    · have := pl_adv (B := B) (n := n) (tEnt B n F (pS B n F j s))
      rw [pl_ent] at this
      omega
theorem pl_end {s : TS3} (h : (tNdE B n s).2.1 = 0) : s.1 < (tNdE B n s).1 := by
  unfold tNdE at h ⊢
  by_cases g : tSg B n 59 s = 1
  · rw [if_pos g]
    unfold tSg at g
    by_cases q : (s.2.1 = 0 ∧ tKd B n s.1 = 3) ∧ B (tAt B n s.1) = 59
    · unfold tAdv
      rw [if_pos q.1.1]
      exact tEn_lt (by rw [q.1.2]; decide)
    · rw [if_neg q] at g
      exact absurd g (by decide)
  · rw [if_neg g] at h
    exact absurd h (tBlm_1 (by omega))
theorem pl_stp {X : PX} (h : (stp B n X).1.2.1 = 0) : X.1.1 < (stp B n X).1.1 := by
  obtain ⟨s, f, c, w⟩ := X
  unfold stp at h ⊢
  dsimp only at h ⊢
  have rr : ∀ (i : Nat) (hi : Int), (stRu B n i hi s f c w).1.2.1 = 0 → s.1 < (stRu B n i hi s f c w).1.1 := fun i hi h => by
    have h : (tRule B n (hsO f i) hi s).2.1 = 0 := h
    show s.1 < (tRule B n (hsO f i) hi s).1
    unfold tRule at h ⊢
    have a1 := pl_end h
    have a2 := pl_ndN (B := B) (n := n) 0 hi (tOnce B n (hsO f i) s)
    have a3 := pl_once (B := B) (n := n) (hsO f i) s
    omega
  by_cases g0 : tKw B n s = 0
  · rw [if_pos g0] at h ⊢
    have h : (tSize B n (hsO f 3) s).2.1 = 0 := h
    show s.1 < (tSize B n (hsO f 3) s).1
    unfold tSize at h ⊢
    have a1 := pl_end h
    have a2 := pl_ndN (B := B) (n := n) 1 5 (tNdW B n 1 (tNdN B n 1 6 (tOnce B n (hsO f 3) s)))
    have a3 := pl_ndW (B := B) (n := n) 1 (tNdN B n 1 6 (tOnce B n (hsO f 3) s))
    have a4 := pl_ndN (B := B) (n := n) 1 6 (tOnce B n (hsO f 3) s)
    have a5 := pl_once (B := B) (n := n) (hsO f 3) s
    omega
  · rw [if_neg g0] at h ⊢
    by_cases g2 : tKw B n s = 2
    · rw [if_pos g2] at h ⊢; exact rr _ _ h
    · rw [if_neg g2] at h ⊢
      by_cases g3 : tKw B n s = 3
      · rw [if_pos g3] at h ⊢; exact rr _ _ h
      · rw [if_neg g3] at h ⊢
        by_cases g4 : tKw B n s = 4
        · rw [if_pos g4] at h ⊢; exact rr _ _ h
        · rw [if_neg g4] at h ⊢
          by_cases g5 : tKw B n s = 5
          · rw [if_pos g5] at h ⊢
            have h : (tPond B n (hsO f 3) (c 0) (c 1) s).2.1 = 0 := h
            show s.1 < (tPond B n (hsO f 3) (c 0) (c 1) s).1
            unfold tPond at h ⊢
            have a1 := pl_end h
            have a2 := pl_ndN (B := B) (n := n) 0 (c 1 - 1) (tNdN B n 0 (c 0 - 1) (tAdv B n (tBeh B n (hsO f 3) s)))
            have a3 := pl_ndN (B := B) (n := n) 0 (c 0 - 1) (tAdv B n (tBeh B n (hsO f 3) s))
            have a4 := pl_adv (B := B) (n := n) (tBeh B n (hsO f 3) s)
            rw [pl_beh] at a4
            omega
          · rw [if_neg g5] at h ⊢
            by_cases g6 : tKw B n s = 6
            · rw [if_pos g6] at h ⊢
              unfold stT at h ⊢
              by_cases e : c 2 = 6
              · rw [if_pos e] at h
                exact absurd h (tBlm_1 (by omega))
              · rw [if_neg e] at h ⊢
                have h : (tTune B n (nwG c w) s).2.1 = 0 := h
                show s.1 < (tTune B n (nwG c w) s).1
                unfold tTune at h ⊢
                have a1 := pl_end h
                generalize hs6 : tNdN B n 0 9 (tNdW B n 8 (tNdN B n 0 20 (tNdW B n 7 (tNew B n (nwG c w) (tAdv B n s))))) = s6 at *
                have a2 := pl_bts (B := B) (n := n) s6
                have a3 := pl_ndN (B := B) (n := n) 0 9 (tNdW B n 8 (tNdN B n 0 20 (tNdW B n 7 (tNew B n (nwG c w) (tAdv B n s)))))
                have a4 := pl_ndW (B := B) (n := n) 8 (tNdN B n 0 20 (tNdW B n 7 (tNew B n (nwG c w) (tAdv B n s))))
                have a5 := pl_ndN (B := B) (n := n) 0 20 (tNdW B n 7 (tNew B n (nwG c w) (tAdv B n s)))
                have a6 := pl_ndW (B := B) (n := n) 7 (tNew B n (nwG c w) (tAdv B n s))
                have a7 := pl_new (B := B) (n := n) (nwG c w) (tAdv B n s)
                have a8 := pl_adv (B := B) (n := n) s
                rw [hs6] at a3
                omega
            · rw [if_neg g6] at h ⊢
              by_cases g10 : tKw B n s = 10
              · rw [if_pos g10] at h ⊢
                unfold stB at h ⊢
                by_cases e : c 3 = 6
                · rw [if_pos e] at h
                  exact absurd h (tBlm_1 (by omega))
                · rw [if_neg e] at h ⊢
                  have h : (bdS B n c w (hsO f 3) s).2.1 = 0 := h
                  show s.1 < (bdS B n c w (hsO f 3) s).1
                  have a0 : s.1 ≤ (tBd0 B n c w (hsO f 3) s).1 := by
                    unfold tBd0
                    have b1 := pl_new (B := B) (n := n) (nwG c w) (tAdv B n (tBeh B n (hsO f 3) s))
                    have b2 := pl_adv (B := B) (n := n) (tBeh B n (hsO f 3) s)
                    rw [pl_beh] at b2
                    omega
                  have a3 : (tBd0 B n c w (hsO f 3) s).1 ≤ (tB3 B n c (tBd0 B n c w (hsO f 3) s)).1 := by
                    generalize tBd0 B n c w (hsO f 3) s = t
                    unfold tB3
                    have b1 := pl_std (B := B) (n := n) c t
                    have b2 := pl_ndW (B := B) (n := n) 12 (tStd B n c t)
                    have b3 := pl_ndN (B := B) (n := n) 0 20 (tNdW B n 12 (tStd B n c t))
                    have b4 := pl_ndW (B := B) (n := n) 13 (tNdN B n 0 20 (tNdW B n 12 (tStd B n c t)))
                    have b5 := pl_ndN (B := B) (n := n) 0 99 (tNdW B n 13 (tNdN B n 0 20 (tNdW B n 12 (tStd B n c t))))
                    omega
                  unfold bdS at h ⊢
                  split at h
                  · rename_i q
                    rw [if_pos q]
                    have b1 := pl_end h
                    have b2 := pl_pS (B := B) (n := n) (nmF w 0 (c 2).toNat) (tAdv B n (tB3 B n c (tBd0 B n c w (hsO f 3) s))) (pJ B n (nmF w 0 (c 2).toNat) (tAdv B n (tB3 B n c (tBd0 B n c w (hsO f 3) s))))
                    have b3 := pl_adv (B := B) (n := n) (tB3 B n c (tBd0 B n c w (hsO f 3) s))
                    omega
                  · rename_i q
                    rw [if_neg q]
                    have b1 := pl_end h
                    omega
              · rw [if_neg g10] at h ⊢
                exact absurd h (tBlm_1 (by omega))
end PM
