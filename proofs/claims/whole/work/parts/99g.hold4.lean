/-! holding: the reference -/
section HR
variable {σ : SS} {c : Nat → Int}
theorem ups_at (σ : SS) (a k : Nat) (v : Int) : ups σ a k v a = upc (σ a) k v := by
  funext j
  rw [ups_eq, upc_eq]
  by_cases h : j = k
  · rw [if_pos ⟨rfl, h⟩, if_pos h]
  · rw [if_neg (fun q => h q.2), if_neg h]
theorem butN_nn (v : Nat → Int) (ex : Int) : ∀ n, 0 ≤ butN v ex n
  | 0 => Int.le_refl _
  | n + 1 => by
    have ih := butN_nn v ex n
    show 0 ≤ (if ¬ (n : Int) = ex then (if butN v ex n < v n then v n else butN v ex n) else butN v ex n)
    split
    · split <;> omega
    · exact ih
def HdM (c : Nat → Int) (b h : Nat) (l : Int) (d : Nat → Int) : Prop := (∀ k, ¬ (46 ≤ k ∧ k < 52) → ¬ (58 ≤ k ∧ k < 64) → k ≠ 64 + b → k ≠ 70 + 6 * b → d k = hrN c h k) ∧ (∀ j : Int, 0 ≤ j → j < c 3 → ¬ j = (b : Int) → d (46 + j).toNat = hrN c h (46 + j).toNat) ∧ (d (46 + (b : Int)).toNat = l ∧ d (64 + (b : Int)).toNat = 1) ∧ (∀ j : Int, 0 ≤ j → j < c 3 → 0 ≤ d (58 + j).toNat ∧ d (58 + j).toNat ≤ 90 * (c 7 + (h : Int))) ∧ (0 ≤ l ∧ l ≤ c (52 + (b : Int)).toNat)
/-- all that is needed of a block in which band b is told to play e -/
def HdD (c : Nat → Int) (b h : Nat) (l e : Int) (D : Nat → Int) : Prop := (∀ k, ¬ (46 ≤ k ∧ k < 52) → ¬ (58 ≤ k ∧ k < 64) → k ≠ 64 + b → k ≠ 70 + 6 * b → D k = hrN c h k) ∧ (∀ j : Int, 0 ≤ j → j < c 3 → ¬ j = (b : Int) → D (46 + j).toNat = hrN c h (46 + j).toNat) ∧ (D (46 + (b : Int)).toNat = l ∧ D (64 + (b : Int)).toNat = 1 ∧ D (70 + 6 * (b : Int)).toNat = e) ∧ (∀ j : Int, 0 ≤ j → j < c 3 → 0 ≤ D (58 + j).toNat ∧ D (58 + j).toNat ≤ 90 * (c 7 + (h : Int))) ∧ (0 ≤ l ∧ l ≤ c (52 + (b : Int)).toNat)
theorem HdM_set {b h : Nat} {l e : Int} {d : Nat → Int} (hw : WB c) (hb : (b : Int) < c 3) (H : HdM c b h l d) : HdD c b h l e (upc d (70 + 6 * b) e) := by
  have hH := hw.1
  obtain ⟨h1, h2, h3, h4, h5⟩ := H
  refine ⟨fun k q1 q2 q3 q4 => ?_, fun j j0 j1 jb => ?_, ⟨?_, ?_, ?_⟩, fun j j0 j1 => ?_, h5⟩
  · rw [upc_ne q4]; exact h1 k q1 q2 q3 q4
  · rw [upc_ne (by omega)]; exact h2 j j0 j1 jb
  · rw [upc_ne (by omega)]; exact h3.1
  · rw [upc_ne (by omega)]; exact h3.2
  · rw [show (70 + 6 * (b : Int)).toNat = 70 + 6 * b by omega]; exact upc_same _ _ _
  · rw [upc_ne (by omega)]; exact h4 j j0 j1
theorem HdD_WB {b h : Nat} {l e : Int} {D : Nat → Int} (hw : WB c) (hq : WQ c) (h9 : c 7 ≤ 9999) (hh : h ≤ 200) (hb : (b : Int) < c 3) (he : enB c e) (H : HdD c b h l e D) : WB D ∧ WQ D ∧ D 7 = c 7 + h ∧ sndE c D := by
  obtain ⟨g1, g2, g3, g4⟩ := hrN_ok hw hq h (by omega)
  have o2 := hrN_o hw hq (k := 2) (by omega) (by omega) (by omega) h (by omega)
  have o3 := hrN_o hw hq (k := 3) (by omega) (by omega) (by omega) h (by omega)
  have hH := g1.1
  have hH0 := hw.1
  have o52 := hrN_o hw hq (k := (52 + (b : Int)).toNat) (by omega) (by omega) (by omega) h (by omega)
  obtain ⟨h1, h2, ⟨h3, h3', h3''⟩, h4, h5⟩ := H
  have e7 : D 7 = c 7 + h := by rw [h1 7 (by omega) (by omega) (by omega) (by omega)]; exact g4
  have se : sndE (hrN c h) D := fun k q1 q2 => h1 k (by omega) (by omega) (by omega) (by omega)
  have d3 : D 3 = c 3 := by rw [h1 3 (by omega) (by omega) (by omega) (by omega), o3]
  have d2 : D 2 = c 2 := by rw [h1 2 (by omega) (by omega) (by omega) (by omega), o2]
  have E : ∀ k, ¬ (46 ≤ k ∧ k < 52) → ¬ (58 ≤ k ∧ k < 64) → ¬ (64 ≤ k ∧ k < 106) → D k = hrN c h k := fun k q1 q2 q3 => h1 k q1 q2 (by omega) (by omega)
  refine ⟨⟨?_, ?_, ?_, ?_⟩, ?_, e7, sndE_t g3 se⟩
  · unfold WH
    rw [E 0 (by omega) (by omega) (by omega), E 1 (by omega) (by omega) (by omega), E 2 (by omega) (by omega) (by omega), E 3 (by omega) (by omega) (by omega), E 4 (by omega) (by omega) (by omega), E 5 (by omega) (by omega) (by omega), E 6 (by omega) (by omega) (by omega), E 7 (by omega) (by omega) (by omega), E 8 (by omega) (by omega) (by omega), E 9 (by omega) (by omega) (by omega)]
    exact g1.1
  · intro t t0 t1
    rw [E 2 (by omega) (by omega) (by omega)] at t1
    unfold WTi
    rw [E (10 + t).toNat (by omega) (by omega) (by omega), E (16 + t).toNat (by omega) (by omega) (by omega), E (22 + t).toNat (by omega) (by omega) (by omega)]
    exact g1.2.1 t t0 t1
  · intro j j0 j1
    rw [d3] at j1
    have ⟨w1, w2⟩ := g1.2.2.1 j j0 (by omega)
    have p4 := h4 j j0 j1
    have ej : (46 : Int) + j = 46 + j := rfl
    by_cases jb : j = (b : Int)
    · subst jb
      refine ⟨?_, fun k k0 k1 => ?_⟩
      · unfold WDi
        rw [E (28 + (b : Int)).toNat (by omega) (by omega) (by omega), E (34 + (b : Int)).toNat (by omega) (by omega) (by omega), E (40 + (b : Int)).toNat (by omega) (by omega) (by omega), h3, E (52 + (b : Int)).toNat (by omega) (by omega) (by omega), h3', E 0 (by omega) (by omega) (by omega), E 1 (by omega) (by omega) (by omega)]
        omega
      · rw [h3'] at k1
        have k00 : k = 0 := by omega
        subst k00
        rw [show 70 + 6 * (b : Int) + 0 = 70 + 6 * (b : Int) by omega, h3'']
        unfold enB
        rw [d2]
        exact he
    · have e64 : D (64 + j).toNat = hrN c h (64 + j).toNat := h1 _ (by omega) (by omega) (by omega) (by omega)
      refine ⟨?_, fun k k0 k1 => ?_⟩
      · unfold WDi
        rw [E (28 + j).toNat (by omega) (by omega) (by omega), E (34 + j).toNat (by omega) (by omega) (by omega), E (40 + j).toNat (by omega) (by omega) (by omega), h2 j j0 j1 jb, E (52 + j).toNat (by omega) (by omega) (by omega), e64, E 0 (by omega) (by omega) (by omega), E 1 (by omega) (by omega) (by omega)]
        omega
      · rw [e64] at k1
        rw [h1 (70 + 6 * j + k).toNat (by omega) (by omega) (by omega) (by omega)]
        have := w2 k k0 k1
        unfold enB at this ⊢
        rw [d2, ← o2]
        exact this
  · intro k k0 k1
    rw [E (106 + k).toNat (by omega) (by omega) (by omega), E 0 (by omega) (by omega) (by omega), E 1 (by omega) (by omega) (by omega)]
    exact g1.2.2.2 k k0 k1
  · intro j j0 j1
    rw [d3] at j1
    rw [e7]
    exact (h4 j j0 j1).2
theorem HdD_play {b h : Nat} {l e : Int} {D : Nat → Int} (hw : WB c) (hq : WQ c) (h9 : c 7 ≤ 9999) (hh : h ≤ 200) (hb : (b : Int) < c 3) (he : enB c e) (H : HdD c b h l e D) : (∀ j : Int, 0 ≤ j → j < c 3 → ¬ j = (b : Int) → playB D j = playB (hrN c h) j) ∧ playB D b = if e < 6 ∧ tlE c e ≤ l then e else 6 := by
  obtain ⟨g1, g2, g3, g4⟩ := hrN_ok hw hq h (by omega)
  have o3 := hrN_o hw hq (k := 3) (by omega) (by omega) (by omega) h (by omega)
  have hH := g1.1
  have hH0 := hw.1
  obtain ⟨W, Q, e7, se⟩ := HdD_WB hw hq h9 hh hb he H
  obtain ⟨h1, h2, ⟨h3, h3', h3''⟩, h4, h5⟩ := H
  have E : ∀ k, ¬ (46 ≤ k ∧ k < 52) → ¬ (58 ≤ k ∧ k < 64) → ¬ (64 ≤ k ∧ k < 106) → D k = hrN c h k := fun k q1 q2 q3 => h1 k q1 q2 (by omega) (by omega)
  refine ⟨fun j j0 j1 jb => ?_, ?_⟩
  · have ⟨w1, w2⟩ := g1.2.2.1 j j0 (by omega)
    have e64 : D (64 + j).toNat = hrN c h (64 + j).toNat := h1 _ (by omega) (by omega) (by omega) (by omega)
    have ew : wantB D j (D 7) = wantB (hrN c h) j (hrN c h 7) := by
      unfold wantB
      rw [e64, E 7 (by omega) (by omega) (by omega)]
      by_cases g : hrN c h (64 + j).toNat = 0
      · rw [if_pos g, if_pos g]
      · rw [if_neg g, if_neg g]
        have m1 := Int.emod_nonneg (hrN c h 7) g
        have m2 := Int.emod_lt_of_pos (hrN c h 7) (show 0 < hrN c h (64 + j).toNat by omega)
        generalize hrN c h 7 % hrN c h (64 + j).toNat = rr at *
        rw [h1 (70 + 6 * j + rr).toNat (by omega) (by omega) (by omega) (by omega)]
    have en := wantB_en g1.2.2.1 (b := j) (h := hrN c h 7) j0 (by omega)
    unfold playB
    rw [ew, h2 j j0 j1 jb]
    generalize wantB (hrN c h) j (hrN c h 7) = wt at *
    by_cases g : wt < 6
    · rw [E (16 + wt).toNat (by omega) (by omega) (by omega)]
    · rw [if_neg (fun q => g q.1), if_neg (fun q => g q.1)]
  · have ew : wantB D b (D 7) = e := by
      unfold wantB
      rw [h3', if_neg (by omega), Int.emod_one, Int.add_zero, h3'']
    unfold playB tlE
    rw [ew, h3]
    by_cases g : e < 6
    · have e0 : 0 ≤ e := by omega
      rw [if_pos g, E (16 + e).toNat (by omega) (by omega) (by omega), hrN_o hw hq (by omega) (by omega) (by omega) h (by omega)]
    · rw [if_neg (fun q => g q.1), if_neg (fun q => g q.1)]
theorem HdD_hold {b h i : Nat} {l : Int} {D : Nat → Int} (hw : WB c) (hq : WQ c) (h9 : c 7 ≤ 9999) (hh : h ≤ 200) (hb : (b : Int) < c 3) (hi : i ≤ (c 2).toNat) (H : HdD c b h l (enO (c 2).toNat i) D) {x y : Int} (hx : 0 ≤ x ∧ x ≤ 6) (hy : 0 ≤ y ∧ y ≤ 6) : holdB D (playP D) x y = b ↔ hdH c (hOw c b x y) (hRv c b x y) h l i = 1 := by
  have he := enO_en hw.1 hi
  obtain ⟨W, Q, e7, se⟩ := HdD_WB hw hq h9 hh hb he H
  obtain ⟨p1, p2⟩ := HdD_play hw hq h9 hh hb he H
  obtain ⟨g1, g2, g3, g4⟩ := hrN_ok hw hq h (by omega)
  have hH0 := hw.1
  have o3 := hrN_o hw hq (k := 3) (by omega) (by omega) (by omega) h (by omega)
  have sg : sndE (hrN c h) D := fun k q1 q2 => by rw [se k q1 q2, g3 k q1 q2]
  have bD : bn3 D = bn3 (hrN c h) := sndE_bn sg
  have bn := bn3_c g1.1
  have d3 : D 3 = c 3 := se 3 (by omega) (by omega)
  have hd := hold_but W (plO_P W.2.2.1) (b := b) (by rw [d3]; exact hb) hx hy
  have eb : butN (noiB D (playP D) x y) b (bn3 D) = hRv c b x y h := by
    unfold hRv
    rw [bD]
    refine butN_congr _ (fun k hk hk2 => ?_)
    unfold noiB playP
    have kc : (k : Int) < c 3 := by omega
    rw [p1 k (by omega) kc hk2]
    have en := playB_en g1.2.2.1 (b := (k : Int)) (by omega) (by omega)
    have hH := g1.1
    exact hearB_e sg (by omega) (by omega) x y
  rw [hd, eb]
  have pb : playP D b = playB D b := rfl
  rw [pb, p2]
  have nn := butN_nn (noiB (hrN c h) (playP (hrN c h)) x y) b (bn3 (hrN c h))
  have nn : 0 ≤ hRv c b x y h := nn
  unfold hdH
  generalize enO (c 2).toNat i = e at *
  by_cases g : e < 6 ∧ tlE c e ≤ l
  · rw [if_pos g]
    have eO : hOw c b x y e.toNat = hearB D b e x y := by
      unfold hOw
      rw [if_pos (by omega), show ((e.toNat : Nat) : Int) = e by omega]
      exact (hearB_e se (by omega) (by omega) x y).symm
    rw [eO]
    constructor
    · intro q; rw [if_pos ⟨g.2, q⟩]
    · intro q
      by_cases q2 : hRv c b x y h < hearB D b e x y
      · exact q2
      · rw [if_neg (fun q3 => q2 q3.2)] at q; omega
  · rw [if_neg g]
    have z : hearB D b 6 x y = 0 := if_pos rfl
    rw [z]
    have z2 : ¬ (tlE c e ≤ l ∧ hRv c b x y h < hOw c b x y e.toNat) := by
      rintro ⟨q1, q2⟩
      have e6 : e = 6 := by omega
      subst e6
      have : hOw c b x y (6 : Int).toNat = 0 := if_neg (by show ¬ ((6 : Nat) : Int) < c 2; omega)
      omega
    rw [if_neg z2]
    omega
theorem HdD_next {b h : Nat} {l e : Int} {D : Nat → Int} (hw : WB c) (hq : WQ c) (h9 : c 7 ≤ 9999) (hh : h ≤ 200) (hb : (b : Int) < c 3) (he : enB c e) (H : HdD c b h l e D) : HdM c b (h + 1) (nxE c b l e) (hourB D) := by
  obtain ⟨W, Q, e7, se⟩ := HdD_WB hw hq h9 hh hb he H
  obtain ⟨p1, p2⟩ := HdD_play hw hq h9 hh hb he H
  obtain ⟨g1, g2, g3, g4⟩ := hrN_ok hw hq h (by omega)
  have hH0 := hw.1
  have hH := g1.1
  have o3 := hrN_o hw hq (k := 3) (by omega) (by omega) (by omega) h (by omega)
  have d3 : D 3 = c 3 := se 3 (by omega) (by omega)
  obtain ⟨h1, h2, ⟨h3, h3', h3''⟩, h4, h5⟩ := H
  have E : ∀ k, ¬ (46 ≤ k ∧ k < 52) → ¬ (58 ≤ k ∧ k < 64) → ¬ (64 ≤ k ∧ k < 106) → D k = hrN c h k := fun k q1 q2 q3 => h1 k q1 q2 (by omega) (by omega)
  have es : hrN c (h + 1) = hourB (hrN c h) := rfl
  refine ⟨fun k q1 q2 q3 q4 => ?_, fun j j0 j1 jb => ?_, ⟨?_, ?_⟩, fun j j0 j1 => ?_, nxE_bd hw hb he h5.1 h5.2⟩
  · rw [es]
    by_cases k7 : k = 7
    · subst k7
      rw [hourB_7, hourB_7, e7, g4]
    · rw [hourB_o W.1 k7 q1 q2, hourB_o g1.1 k7 q1 q2]
      exact h1 k q1 q2 q3 q4
  · have en := playB_en g1.2.2.1 (b := j) j0 (by omega)
    rw [es, hourB_l W.1 j0 (by omega), hourB_l g1.1 j0 (by omega)]
    unfold lipsB playP
    rw [show ((j.toNat : Nat) : Int) = j by omega, p1 j j0 j1 jb, h2 j j0 j1 jb, E 5 (by omega) (by omega) (by omega), E (52 + j).toNat (by omega) (by omega) (by omega)]
    generalize playB (hrN c h) j = pj at *
    by_cases g : pj < 6
    · rw [if_pos g, if_pos g, E (16 + pj).toNat (by omega) (by omega) (by omega)]
    · rw [if_neg g, if_neg g]
  · rw [hourB_l W.1 (by omega) (by omega)]
    unfold lipsB playP nxE
    have o5 := hrN_o hw hq (k := 5) (by omega) (by omega) (by omega) h (by omega)
    have o52 := hrN_o hw hq (k := (52 + (b : Int)).toNat) (by omega) (by omega) (by omega) h (by omega)
    rw [show (((b : Int).toNat : Nat) : Int) = b by omega, p2, h3, E 5 (by omega) (by omega) (by omega), E (52 + (b : Int)).toNat (by omega) (by omega) (by omega), o5, o52]
    by_cases g : e < 6 ∧ tlE c e ≤ l
    · rw [if_pos g, if_pos g.1, if_pos g]
      have t : tlE c e = c (16 + e).toNat := if_pos g.1
      have e0 : 0 ≤ e := by omega
      rw [t, E (16 + e).toNat (by omega) (by omega) (by omega), hrN_o hw hq (by omega) (by omega) (by omega) h (by omega)]
    · rw [if_neg g, if_neg (by omega), if_neg g]
  · rw [hourB_o W.1 (by omega) (by omega) (by omega)]
    exact h3'
  · rw [hourB_p W.1 j0 (by omega)]
    have gb := gainF_bd D (playP D) j (nC D)
    have nb := (nC_c W.1).2
    have p4 := h4 j j0 j1
    omega
theorem HdM_0 {b : Nat} (hw : WB c) (hq : WQ c) (hb : (b : Int) < c 3) : HdM c b 0 (c (46 + (b : Int)).toNat) (upc c (64 + b) 1) := by
  have hH := hw.1
  have d1 := (hw.2.2.1 b (by omega) hb).1
  refine ⟨fun k q1 q2 q3 q4 => by rw [upc_ne q3]; rfl, fun j j0 j1 jb => by rw [upc_ne (by omega)]; rfl, ⟨by rw [upc_ne (by omega)], by rw [show (64 + (b : Int)).toNat = 64 + b by omega]; exact upc_same _ _ _⟩, fun j j0 j1 => ?_, by omega⟩
  rw [upc_ne (by omega)]
  have d2 := (hw.2.2.1 j j0 j1).1
  have q := hq j j0 j1
  omega
theorem m_digit {q k T : Nat} (hq : q < 2401) (hk : k ≤ 3) (hT : T ≤ 6) (σ : SS) : F_X12_digit q k ((T : Int) + 1) σ = some (((q / (T + 1) ^ k % (T + 1) : Nat) : Int), σ) := by
  have key : L_X12_digit_0 ([(q : Int), (k : Int), (T : Int) + 1, (q : Int), 0], [0, 0, 0, 0, 0], σ) = some (.inl 0, ([(q : Int), (k : Int), (T : Int) + 1, ((q / (T + 1) ^ k : Nat) : Int), (k : Int)], [0, 0, 0, 0, 0], σ)) := by
    refine Wd_out ?_
    unfold L_X12_digit_0
    refine Wd_it (fun i z => z = ([(q : Int), (k : Int), (T : Int) + 1, ((q / (T + 1) ^ i : Nat) : Int), (i : Int)], [0, 0, 0, 0, 0], σ)) k ?_ ?_ ?_
    · show _ = _
      rw [Nat.pow_zero, Nat.div_one]
      rfl
    · intro i z hi hz
      subst hz
      have e : q / (T + 1) ^ (i + 1) = q / (T + 1) ^ i / (T + 1) := by rw [Nat.pow_succ, Nat.div_div_eq_div_mul]
      have b : q / (T + 1) ^ i ≤ q := Nat.div_le_self _ _
      rw [e]
      generalize q / (T + 1) ^ i = u at *
      have td := (td_range (h := (u : Int)) (l := (T : Int) + 1) (by omega) (by omega)).1
      have e2 : ((u / (T + 1) : Nat) : Int) = (u : Int) / ((T : Int) + 1) := Int.natCast_ediv u (T + 1)
      have b2 : u / (T + 1) ≤ u := Nat.div_le_self _ _
      rw [← e2] at td
      generalize u / (T + 1) = u2 at *
      have n0 : ¬ (T : Int) + 1 = 0 := by omega
      have lt : (i : Int) < k := by omega
      try simp (disch := omega) only [w_iff, iffM_t, iffM_f, iffM_d, iffM_nd, iffM_0, iffM_ite, Wd_iffM, iffM_v, w_tern, ternM_t, ternM_f, ternM_d, ternM_nd, ternM_0, ternM_ite, Wd_ternM, ternM_v, w_sw, swX_1, Wd_swX, Bool.not_true, Bool.not_false, C_X12_digit_0, D_X12_digit_0, U_X12_digit_0, n0, td, Wd_some, Wd_bn, Wd_sqM, Wd_outV, Wd_blkM, Wd_swM, Wd_ite, Wd_map, v_kS_0, v_kS_b, v_kS_r, v_kO_r, v_kW_0, v_kW_1, v_kW_2, v_kW_r, v_kL_0, v_kL_1, v_kL_2, v_kL_r, v_kU_0, ups_11, upsN, upsA, upA_same, upA_neA, fl_at, fl_neA, v_sq_eq, v_sqM_0, v_sqM_r, v_sqM_b, v_sqM_n, sqM_ite, v_asI, v_asR, v_inc, v_pfI, v_pfZ, v_pfO, v_paI, v_paO, v_exI,  v_rtI, v_rtZ, v_rtV, v_sk, v_brk, v_cnt, v_blk_eq, v_blkM_some, blkM_ite, v_lI, v_lR, v_cI, v_gI, v_gR, v_op1, v_op2, v_arI, v_arR, v_alen,  v_cmp1, v_cmp2, v_cAnd, v_cOr, v_cNot, v_cTern, v_bn_some, bn_ite, v_bn_none, v_outV_r, v_outV_0, v_outV_n, outV_ite, List.getD_cons_zero, List.getD_cons_succ, List.set_cons_zero, List.set_cons_succ, List.take_succ_cons, List.take_zero, List.drop_succ_cons, List.drop_zero, List.nil_append, List.cons_append, Option.map_some, Option.map_none, if_true, if_false, ↓reduceIte, reduceCtorEq, decide_eq_true_eq, Bool.not_eq_true', decide_eq_false_iff_not, decide_eq_true, decide_eq_false, decide_true, decide_false, and_self, and_true, true_and, or_self, stO, v_caV_, v_caV_i, v_caV_ii, v_caV_iii, v_caV_iiii, v_caV_iiiii, v_caV_il, v_caV_iil, v_caV_l, v_caV_ll, v_caV_r, v_caV_ri, v_caV_rii, v_caV_riii, v_caV_riiii, v_caV_ir, v_caV_iri, v_caV_iiri, v_caS_i, v_caS_ii, v_caS_iii, v_caS_iiii, v_caS_iiiiii, v_caS_il, v_caS_li, v_caS_ll, v_caS_lll, v_caS_ri, v_caS_riii, sh_239, sh_240, sh_241, sh_242, sh_243, sh_244, sh_245, sh_246, sh_247, sh_248, sh_249, sh_250, sh_251, sh_252, sh_253, rf_239_4, rf_239_5, rf_239_6, rf_239_7, rf_239_20, rf_239_21, rf_239_22, rf_239_23, rf_239_27, rf_239_28, rf_239_32, rf_239_33, rf_239_34, rf_239_35, Int.reduceLE, Int.reduceLT, Int.reduceToNat, Int.reduceAdd, Int.reduceSub, Int.reduceMul, Int.reduceNeg, Int.reduceEq, Int.reduceNe, Nat.reduceAdd, Nat.reduceMul, Nat.reduceLT, Nat.reduceEqDiff, or_true, true_or, or_false, false_or, and_false, false_and, not_true_eq_false, not_false_eq_true, ne_eq, cN4, cN5, cN6, cN7, cN13, cN30, cN60, cN64, cN100, cN136, cN240, cN384, cN900, cN2040, cN3,  v_swM_0, v_swM_1, v_swM_r, v_swM_n, swM_ite, app_ite, ex_some, bI_0, bI_1, nn_iff, Int.toNat_natCast, Int.toNat_of_nonneg, Int.natCast_add, cN1, wI_id2, wL_id2, ↓if_pos, ↓if_neg, if_pos, if_neg]
    · intro z hz
      subst hz
      try simp (disch := omega) only [w_iff, iffM_t, iffM_f, iffM_d, iffM_nd, iffM_0, iffM_ite, Wd_iffM, iffM_v, w_tern, ternM_t, ternM_f, ternM_d, ternM_nd, ternM_0, ternM_ite, Wd_ternM, ternM_v, w_sw, swX_1, Wd_swX, Bool.not_true, Bool.not_false, C_X12_digit_0, D_X12_digit_0, U_X12_digit_0, Wd_some, Wd_bn, Wd_sqM, Wd_outV, Wd_blkM, Wd_swM, Wd_ite, Wd_map, v_kS_0, v_kS_b, v_kS_r, v_kO_r, v_kW_0, v_kW_1, v_kW_2, v_kW_r, v_kL_0, v_kL_1, v_kL_2, v_kL_r, v_kU_0, ups_11, upsN, upsA, upA_same, upA_neA, fl_at, fl_neA, v_sq_eq, v_sqM_0, v_sqM_r, v_sqM_b, v_sqM_n, sqM_ite, v_asI, v_asR, v_inc, v_pfI, v_pfZ, v_pfO, v_paI, v_paO, v_exI,  v_rtI, v_rtZ, v_rtV, v_sk, v_brk, v_cnt, v_blk_eq, v_blkM_some, blkM_ite, v_lI, v_lR, v_cI, v_gI, v_gR, v_op1, v_op2, v_arI, v_arR, v_alen,  v_cmp1, v_cmp2, v_cAnd, v_cOr, v_cNot, v_cTern, v_bn_some, bn_ite, v_bn_none, v_outV_r, v_outV_0, v_outV_n, outV_ite, List.getD_cons_zero, List.getD_cons_succ, List.set_cons_zero, List.set_cons_succ, List.take_succ_cons, List.take_zero, List.drop_succ_cons, List.drop_zero, List.nil_append, List.cons_append, Option.map_some, Option.map_none, if_true, if_false, ↓reduceIte, reduceCtorEq, decide_eq_true_eq, Bool.not_eq_true', decide_eq_false_iff_not, decide_eq_true, decide_eq_false, decide_true, decide_false, and_self, and_true, true_and, or_self, stO, v_caV_, v_caV_i, v_caV_ii, v_caV_iii, v_caV_iiii, v_caV_iiiii, v_caV_il, v_caV_iil, v_caV_l, v_caV_ll, v_caV_r, v_caV_ri, v_caV_rii, v_caV_riii, v_caV_riiii, v_caV_ir, v_caV_iri, v_caV_iiri, v_caS_i, v_caS_ii, v_caS_iii, v_caS_iiii, v_caS_iiiiii, v_caS_il, v_caS_li, v_caS_ll, v_caS_lll, v_caS_ri, v_caS_riii, sh_239, sh_240, sh_241, sh_242, sh_243, sh_244, sh_245, sh_246, sh_247, sh_248, sh_249, sh_250, sh_251, sh_252, sh_253, rf_239_4, rf_239_5, rf_239_6, rf_239_7, rf_239_20, rf_239_21, rf_239_22, rf_239_23, rf_239_27, rf_239_28, rf_239_32, rf_239_33, rf_239_34, rf_239_35, Int.reduceLE, Int.reduceLT, Int.reduceToNat, Int.reduceAdd, Int.reduceSub, Int.reduceMul, Int.reduceNeg, Int.reduceEq, Int.reduceNe, Nat.reduceAdd, Nat.reduceMul, Nat.reduceLT, Nat.reduceEqDiff, or_true, true_or, or_false, false_or, and_false, false_and, not_true_eq_false, not_false_eq_true, ne_eq, cN4, cN5, cN6, cN7, cN13, cN30, cN60, cN64, cN100, cN136, cN240, cN384, cN900, cN2040, cN3,  v_swM_0, v_swM_1, v_swM_r, v_swM_n, swM_ite, app_ite, ex_some, bI_0, bI_1, nn_iff, Int.toNat_natCast, Int.toNat_of_nonneg, Int.natCast_add, cN1, wI_id2, wL_id2, ↓if_pos, ↓if_neg, if_pos, if_neg]
  have b : q / (T + 1) ^ k ≤ q := Nat.div_le_self _ _
  generalize q / (T + 1) ^ k = u at *
  have tm := (tm_range (h := (u : Int)) (l := (T : Int) + 1) (by omega) (by omega)).1
  have e2 : ((u % (T + 1) : Nat) : Int) = (u : Int) % ((T : Int) + 1) := Int.natCast_emod u (T + 1)
  have b2 : u % (T + 1) < T + 1 := Nat.mod_lt _ (by omega)
  rw [← e2] at tm
  generalize u % (T + 1) = u2 at *
  have n0 : ¬ (T : Int) + 1 = 0 := by omega
  try simp (disch := omega) only [w_iff, iffM_t, iffM_f, iffM_d, iffM_nd, iffM_0, iffM_ite, Wd_iffM, iffM_v, w_tern, ternM_t, ternM_f, ternM_d, ternM_nd, ternM_0, ternM_ite, Wd_ternM, ternM_v, w_sw, swX_1, Wd_swX, Bool.not_true, Bool.not_false, F_X12_digit, E_X12_digit, key, n0, tm, Wd_some, Wd_bn, Wd_sqM, Wd_outV, Wd_blkM, Wd_swM, Wd_ite, Wd_map, v_kS_0, v_kS_b, v_kS_r, v_kO_r, v_kW_0, v_kW_1, v_kW_2, v_kW_r, v_kL_0, v_kL_1, v_kL_2, v_kL_r, v_kU_0, ups_11, upsN, upsA, upA_same, upA_neA, fl_at, fl_neA, v_sq_eq, v_sqM_0, v_sqM_r, v_sqM_b, v_sqM_n, sqM_ite, v_asI, v_asR, v_inc, v_pfI, v_pfZ, v_pfO, v_paI, v_paO, v_exI,  v_rtI, v_rtZ, v_rtV, v_sk, v_brk, v_cnt, v_blk_eq, v_blkM_some, blkM_ite, v_lI, v_lR, v_cI, v_gI, v_gR, v_op1, v_op2, v_arI, v_arR, v_alen,  v_cmp1, v_cmp2, v_cAnd, v_cOr, v_cNot, v_cTern, v_bn_some, bn_ite, v_bn_none, v_outV_r, v_outV_0, v_outV_n, outV_ite, List.getD_cons_zero, List.getD_cons_succ, List.set_cons_zero, List.set_cons_succ, List.take_succ_cons, List.take_zero, List.drop_succ_cons, List.drop_zero, List.nil_append, List.cons_append, Option.map_some, Option.map_none, if_true, if_false, ↓reduceIte, reduceCtorEq, decide_eq_true_eq, Bool.not_eq_true', decide_eq_false_iff_not, decide_eq_true, decide_eq_false, decide_true, decide_false, and_self, and_true, true_and, or_self, stO, v_caV_, v_caV_i, v_caV_ii, v_caV_iii, v_caV_iiii, v_caV_iiiii, v_caV_il, v_caV_iil, v_caV_l, v_caV_ll, v_caV_r, v_caV_ri, v_caV_rii, v_caV_riii, v_caV_riiii, v_caV_ir, v_caV_iri, v_caV_iiri, v_caS_i, v_caS_ii, v_caS_iii, v_caS_iiii, v_caS_iiiiii, v_caS_il, v_caS_li, v_caS_ll, v_caS_lll, v_caS_ri, v_caS_riii, sh_239, sh_240, sh_241, sh_242, sh_243, sh_244, sh_245, sh_246, sh_247, sh_248, sh_249, sh_250, sh_251, sh_252, sh_253, rf_239_4, rf_239_5, rf_239_6, rf_239_7, rf_239_20, rf_239_21, rf_239_22, rf_239_23, rf_239_27, rf_239_28, rf_239_32, rf_239_33, rf_239_34, rf_239_35, Int.reduceLE, Int.reduceLT, Int.reduceToNat, Int.reduceAdd, Int.reduceSub, Int.reduceMul, Int.reduceNeg, Int.reduceEq, Int.reduceNe, Nat.reduceAdd, Nat.reduceMul, Nat.reduceLT, Nat.reduceEqDiff, or_true, true_or, or_false, false_or, and_false, false_and, not_true_eq_false, not_false_eq_true, ne_eq, cN4, cN5, cN6, cN7, cN13, cN30, cN60, cN64, cN100, cN136, cN240, cN384, cN900, cN2040, cN3,  v_swM_0, v_swM_1, v_swM_r, v_swM_n, swM_ite, app_ite, ex_some, bI_0, bI_1, nn_iff, Int.toNat_natCast, Int.toNat_of_nonneg, Int.natCast_add, cN1, wI_id2, wL_id2, ↓if_pos, ↓if_neg, if_pos, if_neg]
theorem m_entryOf {q k n T : Nat} (hq : q < 2401) (hn : n ≤ 4) (hk : k < n) (hT : T ≤ 6) (e2 : σ 244 2 = (T : Int)) : F_X12_entryOf 239 q k n σ = some (enO T (q / (T + 1) ^ (n - (k + 1)) % (T + 1)), σ) := by
  have dg := m_digit hq (k := n - (k + 1)) (by omega) hT σ
  have ek : ((n - (k + 1) : Nat) : Int) = (n : Int) - 1 - (k : Int) := by omega
  rw [ek] at dg
  have b2 : q / (T + 1) ^ (n - (k + 1)) % (T + 1) < T + 1 := Nat.mod_lt _ (by omega)
  generalize q / (T + 1) ^ (n - (k + 1)) % (T + 1) = u at *
  unfold enO
  by_cases g : u < T
  · rw [if_pos g]
    have g' : ¬ (u : Int) = T := by omega
    try simp (disch := omega) only [w_iff, iffM_t, iffM_f, iffM_d, iffM_nd, iffM_0, iffM_ite, Wd_iffM, iffM_v, w_tern, ternM_t, ternM_f, ternM_d, ternM_nd, ternM_0, ternM_ite, Wd_ternM, ternM_v, w_sw, swX_1, Wd_swX, Bool.not_true, Bool.not_false, F_X12_entryOf, B_X12_entryOf, e2, dg, g', Wd_some, Wd_bn, Wd_sqM, Wd_outV, Wd_blkM, Wd_swM, Wd_ite, Wd_map, v_kS_0, v_kS_b, v_kS_r, v_kO_r, v_kW_0, v_kW_1, v_kW_2, v_kW_r, v_kL_0, v_kL_1, v_kL_2, v_kL_r, v_kU_0, ups_11, upsN, upsA, upA_same, upA_neA, fl_at, fl_neA, v_sq_eq, v_sqM_0, v_sqM_r, v_sqM_b, v_sqM_n, sqM_ite, v_asI, v_asR, v_inc, v_pfI, v_pfZ, v_pfO, v_paI, v_paO, v_exI,  v_rtI, v_rtZ, v_rtV, v_sk, v_brk, v_cnt, v_blk_eq, v_blkM_some, blkM_ite, v_lI, v_lR, v_cI, v_gI, v_gR, v_op1, v_op2, v_arI, v_arR, v_alen,  v_cmp1, v_cmp2, v_cAnd, v_cOr, v_cNot, v_cTern, v_bn_some, bn_ite, v_bn_none, v_outV_r, v_outV_0, v_outV_n, outV_ite, List.getD_cons_zero, List.getD_cons_succ, List.set_cons_zero, List.set_cons_succ, List.take_succ_cons, List.take_zero, List.drop_succ_cons, List.drop_zero, List.nil_append, List.cons_append, Option.map_some, Option.map_none, if_true, if_false, ↓reduceIte, reduceCtorEq, decide_eq_true_eq, Bool.not_eq_true', decide_eq_false_iff_not, decide_eq_true, decide_eq_false, decide_true, decide_false, and_self, and_true, true_and, or_self, stO, v_caV_, v_caV_i, v_caV_ii, v_caV_iii, v_caV_iiii, v_caV_iiiii, v_caV_il, v_caV_iil, v_caV_l, v_caV_ll, v_caV_r, v_caV_ri, v_caV_rii, v_caV_riii, v_caV_riiii, v_caV_ir, v_caV_iri, v_caV_iiri, v_caS_i, v_caS_ii, v_caS_iii, v_caS_iiii, v_caS_iiiiii, v_caS_il, v_caS_li, v_caS_ll, v_caS_lll, v_caS_ri, v_caS_riii, sh_239, sh_240, sh_241, sh_242, sh_243, sh_244, sh_245, sh_246, sh_247, sh_248, sh_249, sh_250, sh_251, sh_252, sh_253, rf_239_4, rf_239_5, rf_239_6, rf_239_7, rf_239_20, rf_239_21, rf_239_22, rf_239_23, rf_239_27, rf_239_28, rf_239_32, rf_239_33, rf_239_34, rf_239_35, Int.reduceLE, Int.reduceLT, Int.reduceToNat, Int.reduceAdd, Int.reduceSub, Int.reduceMul, Int.reduceNeg, Int.reduceEq, Int.reduceNe, Nat.reduceAdd, Nat.reduceMul, Nat.reduceLT, Nat.reduceEqDiff, or_true, true_or, or_false, false_or, and_false, false_and, not_true_eq_false, not_false_eq_true, ne_eq, cN4, cN5, cN6, cN7, cN13, cN30, cN60, cN64, cN100, cN136, cN240, cN384, cN900, cN2040, cN3,  v_swM_0, v_swM_1, v_swM_r, v_swM_n, swM_ite, app_ite, ex_some, bI_0, bI_1, nn_iff, Int.toNat_natCast, Int.toNat_of_nonneg, Int.natCast_add, cN1, wI_id2, wL_id2, ↓if_pos, ↓if_neg, if_pos, if_neg]
  · rw [if_neg g]
    have g' : (u : Int) = T := by omega
    try simp (disch := omega) only [w_iff, iffM_t, iffM_f, iffM_d, iffM_nd, iffM_0, iffM_ite, Wd_iffM, iffM_v, w_tern, ternM_t, ternM_f, ternM_d, ternM_nd, ternM_0, ternM_ite, Wd_ternM, ternM_v, w_sw, swX_1, Wd_swX, Bool.not_true, Bool.not_false, F_X12_entryOf, B_X12_entryOf, e2, dg, g', Wd_some, Wd_bn, Wd_sqM, Wd_outV, Wd_blkM, Wd_swM, Wd_ite, Wd_map, v_kS_0, v_kS_b, v_kS_r, v_kO_r, v_kW_0, v_kW_1, v_kW_2, v_kW_r, v_kL_0, v_kL_1, v_kL_2, v_kL_r, v_kU_0, ups_11, upsN, upsA, upA_same, upA_neA, fl_at, fl_neA, v_sq_eq, v_sqM_0, v_sqM_r, v_sqM_b, v_sqM_n, sqM_ite, v_asI, v_asR, v_inc, v_pfI, v_pfZ, v_pfO, v_paI, v_paO, v_exI,  v_rtI, v_rtZ, v_rtV, v_sk, v_brk, v_cnt, v_blk_eq, v_blkM_some, blkM_ite, v_lI, v_lR, v_cI, v_gI, v_gR, v_op1, v_op2, v_arI, v_arR, v_alen,  v_cmp1, v_cmp2, v_cAnd, v_cOr, v_cNot, v_cTern, v_bn_some, bn_ite, v_bn_none, v_outV_r, v_outV_0, v_outV_n, outV_ite, List.getD_cons_zero, List.getD_cons_succ, List.set_cons_zero, List.set_cons_succ, List.take_succ_cons, List.take_zero, List.drop_succ_cons, List.drop_zero, List.nil_append, List.cons_append, Option.map_some, Option.map_none, if_true, if_false, ↓reduceIte, reduceCtorEq, decide_eq_true_eq, Bool.not_eq_true', decide_eq_false_iff_not, decide_eq_true, decide_eq_false, decide_true, decide_false, and_self, and_true, true_and, or_self, stO, v_caV_, v_caV_i, v_caV_ii, v_caV_iii, v_caV_iiii, v_caV_iiiii, v_caV_il, v_caV_iil, v_caV_l, v_caV_ll, v_caV_r, v_caV_ri, v_caV_rii, v_caV_riii, v_caV_riiii, v_caV_ir, v_caV_iri, v_caV_iiri, v_caS_i, v_caS_ii, v_caS_iii, v_caS_iiii, v_caS_iiiiii, v_caS_il, v_caS_li, v_caS_ll, v_caS_lll, v_caS_ri, v_caS_riii, sh_239, sh_240, sh_241, sh_242, sh_243, sh_244, sh_245, sh_246, sh_247, sh_248, sh_249, sh_250, sh_251, sh_252, sh_253, rf_239_4, rf_239_5, rf_239_6, rf_239_7, rf_239_20, rf_239_21, rf_239_22, rf_239_23, rf_239_27, rf_239_28, rf_239_32, rf_239_33, rf_239_34, rf_239_35, Int.reduceLE, Int.reduceLT, Int.reduceToNat, Int.reduceAdd, Int.reduceSub, Int.reduceMul, Int.reduceNeg, Int.reduceEq, Int.reduceNe, Nat.reduceAdd, Nat.reduceMul, Nat.reduceLT, Nat.reduceEqDiff, or_true, true_or, or_false, false_or, and_false, false_and, not_true_eq_false, not_false_eq_true, ne_eq, cN4, cN5, cN6, cN7, cN13, cN30, cN60, cN64, cN100, cN136, cN240, cN384, cN900, cN2040, cN3,  v_swM_0, v_swM_1, v_swM_r, v_swM_n, swM_ite, app_ite, ex_some, bI_0, bI_1, nn_iff, Int.toNat_natCast, Int.toNat_of_nonneg, Int.natCast_add, cN1, wI_id2, wL_id2, ↓if_pos, ↓if_neg, if_pos, if_neg]
end HR
