/-! EVENINGS, step by step, purely -/
abbrev EX : Type := TS3 × Nat × Nat × (Nat → Nat) × (Nat → Int) × (Nat → Nat)
def upn (o : Nat → Nat) (k v : Nat) : Nat → Nat := fun j => if j = k then v else o j
theorem upn_same (o : Nat → Nat) (k v : Nat) : upn o k v k = v := if_pos rfl
theorem upn_ne {o : Nat → Nat} {k j v : Nat} (h : j ≠ k) : upn o k v j = o j := if_neg h
def rwC (c : Nat → Int) (m : Nat) (k v1 v2 v3 v6 v7 v8 : Int) : Nat → Int := fun j => if j = 138 + 9 * m then k else if j = 139 + 9 * m then v1 else if j = 140 + 9 * m then v2 else if j = 141 + 9 * m then v3 else if j = 144 + 9 * m then v6 else if j = 145 + 9 * m then v7 else if j = 146 + 9 * m then v8 else c j
section ER
variable {c : Nat → Int} {m : Nat} {k v1 v2 v3 v6 v7 v8 : Int}
theorem rwC_0 : rwC c m k v1 v2 v3 v6 v7 v8 (138 + 9 * m) = k := if_pos rfl
theorem rwC_1 : rwC c m k v1 v2 v3 v6 v7 v8 (139 + 9 * m) = v1 := by
  unfold rwC
  rw [if_neg (by omega), if_pos rfl]
theorem rwC_2 : rwC c m k v1 v2 v3 v6 v7 v8 (140 + 9 * m) = v2 := by
  unfold rwC
  rw [if_neg (by omega), if_neg (by omega), if_pos rfl]
theorem rwC_3 : rwC c m k v1 v2 v3 v6 v7 v8 (141 + 9 * m) = v3 := by
  unfold rwC
  rw [if_neg (by omega), if_neg (by omega), if_neg (by omega), if_pos rfl]
theorem rwC_6 : rwC c m k v1 v2 v3 v6 v7 v8 (144 + 9 * m) = v6 := by
  unfold rwC
  rw [if_neg (by omega), if_neg (by omega), if_neg (by omega), if_neg (by omega), if_pos rfl]
theorem rwC_7 : rwC c m k v1 v2 v3 v6 v7 v8 (145 + 9 * m) = v7 := by
  unfold rwC
  rw [if_neg (by omega), if_neg (by omega), if_neg (by omega), if_neg (by omega), if_neg (by omega), if_pos rfl]
theorem rwC_8 : rwC c m k v1 v2 v3 v6 v7 v8 (146 + 9 * m) = v8 := by
  unfold rwC
  rw [if_neg (by omega), if_neg (by omega), if_neg (by omega), if_neg (by omega), if_neg (by omega), if_neg (by omega), if_pos rfl]
theorem rwC_ne {j : Nat} (h : ¬ (138 + 9 * m ≤ j ∧ j < 147 + 9 * m)) : rwC c m k v1 v2 v3 v6 v7 v8 j = c j := by
  unfold rwC
  rw [if_neg (by omega), if_neg (by omega), if_neg (by omega), if_neg (by omega), if_neg (by omega), if_neg (by omega), if_neg (by omega)]
end ER
section ES
variable {B : Nat → Int} {n : Nat} {F G : Int → Int}
def tCmp (B : Nat → Int) (n : Nat) (s : TS3) : TS3 := if tSg B n 60 s = 1 ∨ tSg B n 62 s = 1 ∨ tSg B n 61 s = 1 then tAdv B n s else tBlm B n 2 s
/-- what stands behind a step's word -/
def rS5a (B : Nat → Int) (n : Nat) (G : Int → Int) (s : TS3) : TS3 := tAdv B n (tTold B n G s)
def rS5 (B : Nat → Int) (n : Nat) (F G : Int → Int) (s : TS3) : TS3 := tAdv B n (tEnt B n F (tNdN B n 0 5 (rS5a B n G s)))
def rS7 (B : Nat → Int) (n : Nat) (G : Int → Int) (s : TS3) : TS3 := if tsN (tKw B n s) = -1 then tBlm B n 2 s else if tsN (tKw B n s) = 2 then tAdv B n s else if tsN (tKw B n s) = 1 then rS5a B n G (tAdv B n s) else tNdN B n 0 30 (tCmp B n (rS5a B n G (tAdv B n s)))
def rS (B : Nat → Int) (n : Nat) (F G : Int → Int) (k : Int) (s : TS3) : TS3 := if k = 0 then tNdN B n 1 20 s else if k = 1 then tNdN B n 0 3 s else if k = 8 then tNdN B n 1 99 s else if k = 5 then rS5 B n F G s else if k = 7 then rS7 B n G s else s
def rV1 (B : Nat → Int) (n : Nat) (G : Int → Int) (k : Int) (s : TS3) : Int := if k = 5 then G (tWd B n s.1) else if k = 7 then G (tWd B n (tAdv B n s).1) else tNm B n s.1
def rV2 (B : Nat → Int) (n : Nat) (G : Int → Int) (k : Int) (s : TS3) : Int := if k = 5 then tNm B n (rS5a B n G s).1 else tNm B n (tCmp B n (rS5a B n G (tAdv B n s))).1
def rV3 (B : Nat → Int) (n : Nat) (F G : Int → Int) (s : TS3) : Int := vEnt B n F (tNdN B n 0 5 (rS5a B n G s))
def rV6 (B : Nat → Int) (n : Nat) (s : TS3) : Int := tsN (tKw B n s)
def rV7 (B : Nat → Int) (n : Nat) (G : Int → Int) (s : TS3) : Int := B (tAt B n (rS5a B n G (tAdv B n s)).1)
def rwE (B : Nat → Int) (n : Nat) (F G : Int → Int) (c : Nat → Int) (m : Nat) (k : Int) (s : TS3) : Nat → Int := rwC c m k (rV1 B n G k s) (rV2 B n G k s) (rV3 B n F G s) (rV6 B n s) (rV7 B n G s) ((m : Int) + 1)
def est (B : Nat → Int) (n : Nat) (F G : Int → Int) (X : EX) : EX :=
  if tKw B n X.1 = 28 then (if X.2.2.1 = 0 then (tBlm B n 2 X.1, X.2) else (tNdE B n (tAdv B n X.1), X.2.1, X.2.2.1 - 1, X.2.2.2.1, upc X.2.2.2.2.1 (146 + 9 * X.2.2.2.1 (X.2.2.1 - 1)) (X.2.1 : Int), X.2.2.2.2.2))
  else if stN (tKw B n X.1) = -1 then (tBlm B n 2 X.1, X.2)
  else if X.2.1 = 30 then (tBlm B n 6 X.1, X.2)
  else if (stN (tKw B n X.1) = 7 ∨ stN (tKw B n X.1) = 8) ∧ X.2.2.1 = 3 then (tBlm B n 7 X.1, X.2)
  else (tNdE B n (rS B n F G (stN (tKw B n X.1)) (tAdv B n X.1)), X.2.1 + 1, (if stN (tKw B n X.1) = 7 ∨ stN (tKw B n X.1) = 8 then X.2.2.1 + 1 else X.2.2.1), (if stN (tKw B n X.1) = 7 ∨ stN (tKw B n X.1) = 8 then upn X.2.2.2.1 X.2.2.1 X.2.1 else X.2.2.2.1), rwE B n F G X.2.2.2.2.1 X.2.1 (stN (tKw B n X.1)) (tAdv B n X.1), upn X.2.2.2.2.2 X.2.1 X.2.2.1)
end ES
section ET
variable {B : Nat → Int} {n : Nat} {F G : Int → Int}
theorem stN_v {k : Int} (h : ¬ stN k = -1) : 0 ≤ stN k ∧ stN k ≤ 9 ∧ wdS (stN k) = k ∧ ¬ k = -1 := by
  unfold stN at h ⊢
  unfold wdS
  by_cases g : 16 ≤ k ∧ k ≤ 23
  · rw [if_pos g, if_neg (by omega), if_neg (by omega)]
    omega
  · rw [if_neg g] at h ⊢
    by_cases g2 : k = 27
    · rw [if_pos g2, if_pos rfl]
      omega
    · rw [if_neg g2] at h ⊢
      by_cases g3 : k = 29
      · rw [if_pos g3, if_neg (by omega), if_pos rfl]
        omega
      · rw [if_neg g3] at h
        exact absurd rfl h
theorem tCmp_m {s : TS3} (h : (tCmp B n s).2.1 = 0) : s.2.1 = 0 ∧ (B (tAt B n s.1) = 60 ∨ B (tAt B n s.1) = 62 ∨ B (tAt B n s.1) = 61) := by
  unfold tCmp at h
  by_cases g : tSg B n 60 s = 1 ∨ tSg B n 62 s = 1 ∨ tSg B n 61 s = 1
  · rw [if_pos g] at h
    refine ⟨tAdv_m h, ?_⟩
    have q : ∀ v, tSg B n v s = 1 → B (tAt B n s.1) = v := fun v hv => by
      unfold tSg at hv
      by_cases z : (s.2.1 = 0 ∧ tKd B n s.1 = 3) ∧ B (tAt B n s.1) = v
      · exact z.2
      · rw [if_neg z] at hv
        exact absurd hv (by decide)
    rcases g with g | g | g
    · exact Or.inl (q _ g)
    · exact Or.inr (Or.inl (q _ g))
    · exact Or.inr (Or.inr (q _ g))
  · rw [if_neg g] at h
    exact absurd h (tBlm_1 (by omega))
theorem tCmp_0 {s : TS3} (h : ¬ s.2.1 = 0) : tCmp B n s = s := by
  unfold tCmp
  rw [tAdv_0 h, tBlm_0 h, ite_self]
theorem rS5a_m {s : TS3} (h : (rS5a B n G s).2.1 = 0) : s.2.1 = 0 ∧ G (tWd B n s.1) ≠ -1 := by
  unfold rS5a at h
  obtain ⟨_, h2, h3⟩ := tTold_v (tAdv_m h)
  exact ⟨h2, h3⟩
theorem rS5a_0 {s : TS3} (h : ¬ s.2.1 = 0) : rS5a B n G s = s := by
  unfold rS5a
  rw [tTold_0 h, tAdv_0 h]
theorem rS5_0 {s : TS3} (h : ¬ s.2.1 = 0) : rS5 B n F G s = s := by
  unfold rS5
  rw [rS5a_0 h, tNdN_0 h, tEnt_0 h, tAdv_0 h]
theorem rS7_0 {s : TS3} (h : ¬ s.2.1 = 0) : rS7 B n G s = s := by
  unfold rS7
  rw [tAdv_0 h, rS5a_0 h, tCmp_0 h, tNdN_0 h, tBlm_0 h, ite_self, ite_self, ite_self]
theorem rS_0 {k : Int} {s : TS3} (h : ¬ s.2.1 = 0) : rS B n F G k s = s := by
  unfold rS
  rw [tNdN_0 h, tNdN_0 h, tNdN_0 h, rS5_0 h, rS7_0 h, ite_self, ite_self, ite_self, ite_self, ite_self]
theorem rS_m {k : Int} {s : TS3} (h : (rS B n F G k s).2.1 = 0) : s.2.1 = 0 := by
  by_cases g : s.2.1 = 0
  · exact g
  · rw [rS_0 g] at h; exact h
/-- the row that was read -/
def RwW (c2 c3 : Int) (c : Nat → Int) (i : Nat) (m : Int) : Prop := (0 ≤ c (138 + 9 * i) ∧ c (138 + 9 * i) ≤ 9) ∧ ((i : Int) < c (146 + 9 * i) ∧ c (146 + 9 * i) ≤ m) ∧
  (c (138 + 9 * i) = 0 → 1 ≤ c (139 + 9 * i) ∧ c (139 + 9 * i) ≤ 20) ∧ (c (138 + 9 * i) = 1 → 0 ≤ c (139 + 9 * i) ∧ c (139 + 9 * i) ≤ 3) ∧ (c (138 + 9 * i) = 8 → 1 ≤ c (139 + 9 * i) ∧ c (139 + 9 * i) ≤ 99) ∧
  (c (138 + 9 * i) = 5 → (0 ≤ c (139 + 9 * i) ∧ c (139 + 9 * i) < c3) ∧ (0 ≤ c (140 + 9 * i) ∧ c (140 + 9 * i) ≤ 5) ∧ ((0 ≤ c (141 + 9 * i) ∧ c (141 + 9 * i) < c2) ∨ c (141 + 9 * i) = 6)) ∧
  (c (138 + 9 * i) = 7 → (c (144 + 9 * i) = 2 ∨ (c (144 + 9 * i) = 1 ∧ 0 ≤ c (139 + 9 * i) ∧ c (139 + 9 * i) < c3) ∨ (c (144 + 9 * i) = 0 ∧ (0 ≤ c (139 + 9 * i) ∧ c (139 + 9 * i) < c3) ∧ (c (145 + 9 * i) = 60 ∨ c (145 + 9 * i) = 62 ∨ c (145 + 9 * i) = 61) ∧ 0 ≤ c (140 + 9 * i) ∧ c (140 + 9 * i) ≤ 30))) ∧
  (c (138 + 9 * i) < 7 ∨ c (138 + 9 * i) = 9 → c (146 + 9 * i) = i + 1)
theorem RwW_new {c2 c3 : Int} (hF : ∀ v, -1 ≤ F v ∧ F v < c2) (hG : ∀ v, -1 ≤ G v ∧ G v < c3) {c : Nat → Int} {m : Nat} {k : Int} (hk : 0 ≤ k ∧ k ≤ 9) {s : TS3} (h : (rS B n F G k s).2.1 = 0) : RwW c2 c3 (rwE B n F G c m k s) m ((m : Int) + 1) := by
  unfold RwW rwE
  rw [rwC_0, rwC_1, rwC_2, rwC_3, rwC_6, rwC_7, rwC_8]
  refine ⟨hk, by omega, fun e => ?_, fun e => ?_, fun e => ?_, fun e => ?_, fun e => ?_, fun _ => rfl⟩
  · subst e
    unfold rS at h
    rw [if_pos rfl] at h
    unfold rV1
    rw [if_neg (by decide), if_neg (by decide)]
    exact (tNdN_v h).2
  · subst e
    unfold rS at h
    rw [if_neg (by decide), if_pos rfl] at h
    unfold rV1
    rw [if_neg (by decide), if_neg (by decide)]
    exact (tNdN_v h).2
  · subst e
    unfold rS at h
    rw [if_neg (by decide), if_neg (by decide), if_pos rfl] at h
    unfold rV1
    rw [if_neg (by decide), if_neg (by decide)]
    exact (tNdN_v h).2
  · subst e
    unfold rS at h
    rw [if_neg (by decide), if_neg (by decide), if_neg (by decide), if_pos rfl] at h
    unfold rS5 at h
    have h1 := tAdv_m h
    have h2 := tNdN_v (tEnt_m h1)
    have h3 := rS5a_m h2.1
    unfold rV1 rV2 rV3
    rw [if_pos rfl, if_pos rfl]
    have g := hG (tWd B n s.1)
    refine ⟨by omega, h2.2, ?_⟩
    rcases vEnt_en h1 with q | ⟨q, q2⟩
    · exact Or.inr q
    · have f := hF (tWd B n (tNdN B n 0 5 (rS5a B n G s)).1)
      rw [q]
      omega
  · subst e
    unfold rS at h
    rw [if_neg (by decide), if_neg (by decide), if_neg (by decide), if_neg (by decide), if_pos rfl] at h
    unfold rS7 at h
    unfold rV1 rV2 rV6 rV7
    rw [if_neg (by decide), if_pos rfl, if_neg (by decide)]
    by_cases z : tsN (tKw B n s) = -1
    · rw [if_pos z] at h
      exact absurd h (tBlm_1 (by omega))
    · rw [if_neg z] at h
      by_cases z2 : tsN (tKw B n s) = 2
      · exact Or.inl z2
      · rw [if_neg z2] at h
        have g := hG (tWd B n (tAdv B n s).1)
        by_cases z1 : tsN (tKw B n s) = 1
        · rw [if_pos z1] at h
          have h3 := (rS5a_m h).2
          exact Or.inr (Or.inl ⟨z1, by omega, by omega⟩)
        · rw [if_neg z1] at h
          have h2 := tNdN_v h
          have h3 := tCmp_m h2.1
          have h4 := (rS5a_m h3.1).2
          refine Or.inr (Or.inr ⟨?_, ⟨by omega, by omega⟩, h3.2, h2.2⟩)
          unfold tsN at z z1 z2 ⊢
          by_cases y : 24 ≤ tKw B n s ∧ tKw B n s ≤ 26
          · rw [if_pos y] at z z1 z2 ⊢
            omega
          · rw [if_neg y] at z
            exact absurd rfl z
/-- what holds of a state without a fault -/
def EvI (c2 c3 : Int) (X : EX) : Prop := (X.2.1 ≤ 30 ∧ X.2.2.1 ≤ 3) ∧ (∀ t, t < X.2.2.1 → X.2.2.2.1 t < X.2.1 ∧ X.2.2.2.2.2 (X.2.2.2.1 t) = t ∧ (X.2.2.2.2.1 (138 + 9 * X.2.2.2.1 t) = 7 ∨ X.2.2.2.2.1 (138 + 9 * X.2.2.2.1 t) = 8) ∧ ∀ i, X.2.2.2.1 t < i → i < X.2.1 → t < X.2.2.2.2.2 i) ∧ (∀ i, i < X.2.1 → RwW c2 c3 X.2.2.2.2.1 i X.2.1) ∧ (∀ i, i < X.2.1 → (X.2.2.2.2.1 (138 + 9 * i) = 7 ∨ X.2.2.2.2.1 (138 + 9 * i) = 8) → X.2.2.2.2.2 i ≤ 2) ∧ (∀ j, j < X.2.1 → (X.2.2.2.2.1 (138 + 9 * j) = 7 ∨ X.2.2.2.2.1 (138 + 9 * j) = 8) → (∀ t, t < X.2.2.1 → X.2.2.2.1 t ≠ j) → ∀ i : Nat, j < i → (i : Int) < X.2.2.2.2.1 (146 + 9 * j) → X.2.2.2.2.2 j < X.2.2.2.2.2 i)
theorem RwW_up {c2 c3 : Int} {c c' : Nat → Int} {i : Nat} {m m' : Int} (hm : m ≤ m') (h : ∀ j, 138 + 9 * i ≤ j → j < 147 + 9 * i → c' j = c j) (W : RwW c2 c3 c i m) : RwW c2 c3 c' i m' := by
  unfold RwW at W ⊢
  rw [h (138 + 9 * i) (by omega) (by omega), h (139 + 9 * i) (by omega) (by omega), h (140 + 9 * i) (by omega) (by omega), h (141 + 9 * i) (by omega) (by omega), h (144 + 9 * i) (by omega) (by omega), h (145 + 9 * i) (by omega) (by omega), h (146 + 9 * i) (by omega) (by omega)]
  exact ⟨W.1, ⟨W.2.1.1, Int.le_trans W.2.1.2 hm⟩, W.2.2⟩
theorem EvI_pop {c2 c3 : Int} {s s' : TS3} {m d : Nat} {o : Nat → Nat} {c : Nat → Int} {dp : Nat → Nat} (h : EvI c2 c3 (s, m, d + 1, o, c, dp)) : EvI c2 c3 (s', m, d, o, upc c (146 + 9 * o d) (m : Int), dp) := by
  obtain ⟨⟨h1, h2⟩, h3, h4, h5, h6⟩ := h
  dsimp only at h1 h2 h3 h4 h5 h6
  have top := h3 d (by omega)
  have u8 : ∀ i, upc c (146 + 9 * o d) (m : Int) (138 + 9 * i) = c (138 + 9 * i) := fun i => upc_ne (by omega)
  refine ⟨⟨h1, by show d ≤ 3; omega⟩, fun t ht => ?_, fun i hi => ?_, fun i hi hb => ?_, fun j hj hb hc i hi h7 => ?_⟩
  · have ht : t < d := ht
    have q := h3 t (by omega)
    refine ⟨q.1, q.2.1, ?_, q.2.2.2⟩
    show upc c (146 + 9 * o d) (m : Int) (138 + 9 * o t) = 7 ∨ upc c (146 + 9 * o d) (m : Int) (138 + 9 * o t) = 8
    rw [u8]
    exact q.2.2.1
  · have hi : i < m := hi
    show RwW c2 c3 (upc c (146 + 9 * o d) (m : Int)) i m
    by_cases e : i = o d
    · subst e
      have W := h4 (o d) hi
      unfold RwW at W ⊢
      rw [u8, upc_ne (j := 139 + 9 * o d) (by omega), upc_ne (j := 140 + 9 * o d) (by omega), upc_ne (j := 141 + 9 * o d) (by omega), upc_ne (j := 144 + 9 * o d) (by omega), upc_ne (j := 145 + 9 * o d) (by omega), upc_same]
      refine ⟨W.1, by omega, W.2.2.1, W.2.2.2.1, W.2.2.2.2.1, W.2.2.2.2.2.1, W.2.2.2.2.2.2.1, fun q => ?_⟩
      have := top.2.2.1
      omega
    · exact RwW_up (Int.le_refl _) (fun j j1 j2 => upc_ne (by omega)) (h4 i hi)
  · have hb : upc c (146 + 9 * o d) (m : Int) (138 + 9 * i) = 7 ∨ upc c (146 + 9 * o d) (m : Int) (138 + 9 * i) = 8 := hb
    rw [u8] at hb
    exact h5 i hi hb
  · have hj : j < m := hj
    have hb : upc c (146 + 9 * o d) (m : Int) (138 + 9 * j) = 7 ∨ upc c (146 + 9 * o d) (m : Int) (138 + 9 * j) = 8 := hb
    rw [u8] at hb
    have h7 : (i : Int) < upc c (146 + 9 * o d) (m : Int) (146 + 9 * j) := h7
    show dp j < dp i
    by_cases e : j = o d
    · rw [e] at h7 hi ⊢
      rw [upc_same] at h7
      rw [top.2.1]
      exact top.2.2.2 i hi (by omega)
    · rw [upc_ne (by omega)] at h7
      refine h6 j hj hb (fun t ht => ?_) i hi h7
      by_cases e2 : t = d
      · subst e2; exact fun q => e q.symm
      · exact hc t (by have ht : t < d + 1 := ht; show t < d; omega)
theorem EvI_new {c2 c3 : Int} {s s' : TS3} {m d d' : Nat} {o o' : Nat → Nat} {c c' : Nat → Int} {dp : Nat → Nat} {k : Int} (h : EvI c2 c3 (s, m, d, o, c, dp)) (m30 : m < 30) (hw : RwW c2 c3 c' m ((m : Int) + 1)) (hk : c' (138 + 9 * m) = k) (h8 : c' (146 + 9 * m) = (m : Int) + 1) (hc : ∀ j, ¬ (138 + 9 * m ≤ j ∧ j < 147 + 9 * m) → c' j = c j) (hd : ((k = 7 ∨ k = 8) ∧ d < 3 ∧ d' = d + 1 ∧ o' = upn o d m) ∨ (¬ (k = 7 ∨ k = 8) ∧ d' = d ∧ o' = o)) : EvI c2 c3 (s', m + 1, d', o', c', upn dp m d) := by
  obtain ⟨⟨h1, h2⟩, h3, h4, h5, h6⟩ := h
  dsimp only at h1 h2 h3 h4 h5 h6
  have u8 : ∀ i, i ≠ m → c' (138 + 9 * i) = c (138 + 9 * i) := fun i hi => hc _ (by omega)
  have d3 : d' ≤ 3 := by
    rcases hd with ⟨_, q, e, _⟩ | ⟨_, e, _⟩ <;> omega
  have ot : ∀ t, t < d' → (t < d ∧ o' t = o t) ∨ (t = d ∧ o' t = m ∧ (k = 7 ∨ k = 8)) := fun t ht => by
    rcases hd with ⟨b, q, e, e2⟩ | ⟨_, e, e2⟩
    · by_cases z : t = d
      · subst z; exact Or.inr ⟨rfl, by rw [e2, upn_same], b⟩
      · exact Or.inl ⟨by omega, by rw [e2, upn_ne z]⟩
    · exact Or.inl ⟨by omega, by rw [e2]⟩
  have dd : d ≤ d' := by
    rcases hd with ⟨_, q, e, _⟩ | ⟨_, e, _⟩ <;> omega
  refine ⟨⟨by show m + 1 ≤ 30; omega, d3⟩, fun t ht => ?_, fun i hi => ?_, fun i hi hb => ?_, fun j hj hb hcl i hi h7 => ?_⟩
  · show o' t < m + 1 ∧ upn dp m d (o' t) = t ∧ (c' (138 + 9 * o' t) = 7 ∨ c' (138 + 9 * o' t) = 8) ∧ ∀ i, o' t < i → i < m + 1 → t < upn dp m d i
    rcases ot t ht with ⟨td, e⟩ | ⟨td, e, b⟩
    · rw [e]
      have q := h3 t td
      refine ⟨by omega, by rw [upn_ne (by omega)]; exact q.2.1, by rw [u8 _ (by omega)]; exact q.2.2.1, fun i i1 i2 => ?_⟩
      by_cases z : i = m
      · subst z; rw [upn_same]; exact td
      · rw [upn_ne z]; exact q.2.2.2 i i1 (by omega)
    · rw [e, td]
      refine ⟨by omega, upn_same _ _ _, by rw [hk]; exact b, fun i i1 i2 => by omega⟩
  · have hi : i < m + 1 := hi
    show RwW c2 c3 c' i ((m + 1 : Nat) : Int)
    by_cases e : i = m
    · subst e; exact hw
    · exact RwW_up (by omega) (fun j j1 j2 => hc j (by omega)) (h4 i (by omega))
  · have hi : i < m + 1 := hi
    show upn dp m d i ≤ 2
    by_cases e : i = m
    · subst e
      rw [upn_same]
      have hb : c' (138 + 9 * i) = 7 ∨ c' (138 + 9 * i) = 8 := hb
      rw [hk] at hb
      rcases hd with ⟨_, q, _⟩ | ⟨q, _⟩
      · omega
      · exact absurd hb q
    · rw [upn_ne e]
      have hb : c' (138 + 9 * i) = 7 ∨ c' (138 + 9 * i) = 8 := hb
      rw [u8 i e] at hb
      exact h5 i (by omega) hb
  · have hj : j < m + 1 := hj
    have hb : c' (138 + 9 * j) = 7 ∨ c' (138 + 9 * j) = 8 := hb
    have h7 : (i : Int) < c' (146 + 9 * j) := h7
    show upn dp m d j < upn dp m d i
    by_cases e : j = m
    · subst e
      have h7 : (i : Int) < c' (146 + 9 * j) := h7
      rw [h8] at h7
      omega
    · rw [u8 j e] at hb
      rw [hc _ (by omega)] at h7
      have w := (h4 j (by omega)).2.1.2
      rw [upn_ne e, upn_ne (by omega)]
      refine h6 j (by omega) hb (fun t ht => ?_) i hi h7
      have q := hcl t (by show t < d'; omega)
      rcases ot t (by omega) with ⟨_, e2⟩ | ⟨e2, _⟩
      · rw [← e2]; exact q
      · omega
theorem EvI_s {c2 c3 : Int} {s s' : TS3} {Z : Nat × Nat × (Nat → Nat) × (Nat → Int) × (Nat → Nat)} (h : EvI c2 c3 (s, Z)) : EvI c2 c3 (s', Z) := h
theorem ev_est {c2 c3 : Int} (hF : ∀ v, -1 ≤ F v ∧ F v < c2) (hG : ∀ v, -1 ≤ G v ∧ G v < c3) {X : EX} (I : EvI c2 c3 X) (h : (est B n F G X).1.2.1 = 0) : EvI c2 c3 (est B n F G X) := by
  obtain ⟨s, m, d, o, c, dp⟩ := X
  unfold est at h ⊢
  dsimp only at h ⊢
  by_cases g28 : tKw B n s = 28
  · rw [if_pos g28] at h ⊢
    by_cases gd : d = 0
    · rw [if_pos gd] at h
      exact absurd h (tBlm_1 (by omega))
    · rw [if_neg gd]
      obtain ⟨e, he⟩ : ∃ e, d = e + 1 := ⟨d - 1, by omega⟩
      subst he
      exact EvI_pop I
  · rw [if_neg g28] at h ⊢
    by_cases gs : stN (tKw B n s) = -1
    · rw [if_pos gs] at h
      exact absurd h (tBlm_1 (by omega))
    · rw [if_neg gs] at h ⊢
      by_cases gm : m = 30
      · rw [if_pos gm] at h
        exact absurd h (tBlm_1 (by omega))
      · rw [if_neg gm] at h ⊢
        by_cases g7 : (stN (tKw B n s) = 7 ∨ stN (tKw B n s) = 8) ∧ d = 3
        · rw [if_pos g7] at h
          exact absurd h (tBlm_1 (by omega))
        · rw [if_neg g7] at h ⊢
          have hk := stN_v gs
          have hm : m ≤ 30 ∧ d ≤ 3 := I.1
          have hr : (rS B n F G (stN (tKw B n s)) (tAdv B n s)).2.1 = 0 := tNdE_m h
          refine EvI_new (k := stN (tKw B n s)) I (by omega) (RwW_new hF hG ⟨hk.1, hk.2.1⟩ hr) rwC_0 rwC_8 (fun j hj => rwC_ne hj) ?_
          by_cases b : stN (tKw B n s) = 7 ∨ stN (tKw B n s) = 8
          · exact Or.inl ⟨b, by have : ¬ d = 3 := fun q => g7 ⟨b, q⟩; omega, if_pos b, if_pos b⟩
          · exact Or.inr ⟨b, if_neg b, if_neg b⟩
/-! the place rises -/
theorem pl_told (s : TS3) : (tTold B n G s).1 = s.1 := by
  unfold tTold
  split
  · rw [pl_blm, pl_naH]
  · rw [pl_naH]
theorem pl_5a (s : TS3) : s.1 ≤ (rS5a B n G s).1 := by
  have := pl_adv (B := B) (n := n) (tTold B n G s)
  rw [pl_told] at this
  exact this
theorem pl_cmp (s : TS3) : s.1 ≤ (tCmp B n s).1 := by
  unfold tCmp
  split
  · exact pl_adv s
  · rw [pl_blm]; exact Nat.le_refl _
theorem pl_rS (k : Int) (s : TS3) : s.1 ≤ (rS B n F G k s).1 := by
  unfold rS
  split
  · exact pl_ndN _ _ _
  · split
    · exact pl_ndN _ _ _
    · split
      · exact pl_ndN _ _ _
      · split
        · unfold rS5
          have a1 := pl_5a (B := B) (n := n) (G := G) s
          have a2 := pl_ndN (B := B) (n := n) 0 5 (rS5a B n G s)
          have a3 := pl_adv (B := B) (n := n) (tEnt B n F (tNdN B n 0 5 (rS5a B n G s)))
          rw [pl_ent] at a3
          omega
        · split
          · unfold rS7
            have a0 := pl_adv (B := B) (n := n) s
            have a1 := pl_5a (B := B) (n := n) (G := G) (tAdv B n s)
            split
            · rw [pl_blm]; exact Nat.le_refl _
            · split
              · exact a0
              · split
                · omega
                · have a2 := pl_cmp (B := B) (n := n) (rS5a B n G (tAdv B n s))
                  have a3 := pl_ndN (B := B) (n := n) 0 30 (tCmp B n (rS5a B n G (tAdv B n s)))
                  omega
          · exact Nat.le_refl _
theorem pl_est {X : EX} (h : (est B n F G X).1.2.1 = 0) : X.1.1 < (est B n F G X).1.1 := by
  obtain ⟨s, m, d, o, c, dp⟩ := X
  unfold est at h ⊢
  dsimp only at h ⊢
  have a0 := pl_adv (B := B) (n := n) s
  by_cases g28 : tKw B n s = 28
  · rw [if_pos g28] at h ⊢
    by_cases gd : d = 0
    · rw [if_pos gd] at h
      exact absurd h (tBlm_1 (by omega))
    · rw [if_neg gd] at h ⊢
      have a1 := pl_end h
      show s.1 < (tNdE B n (tAdv B n s)).1
      omega
  · rw [if_neg g28] at h ⊢
    by_cases gs : stN (tKw B n s) = -1
    · rw [if_pos gs] at h
      exact absurd h (tBlm_1 (by omega))
    · rw [if_neg gs] at h ⊢
      by_cases gm : m = 30
      · rw [if_pos gm] at h
        exact absurd h (tBlm_1 (by omega))
      · rw [if_neg gm] at h ⊢
        by_cases g7 : (stN (tKw B n s) = 7 ∨ stN (tKw B n s) = 8) ∧ d = 3
        · rw [if_pos g7] at h
          exact absurd h (tBlm_1 (by omega))
        · rw [if_neg g7] at h ⊢
          have a1 := pl_end h
          have a2 := pl_rS (B := B) (n := n) (F := F) (G := G) (stN (tKw B n s)) (tAdv B n s)
          show s.1 < (tNdE B n (rS B n F G (stN (tKw B n s)) (tAdv B n s))).1
          omega
/-! all steps -/
def eX (B : Nat → Int) (n : Nat) (F G : Int → Int) (X : EX) : Nat → EX
  | 0 => X
  | j + 1 => est B n F G (eX B n F G X j)
/-- not yet at the end -/
def goE (B : Nat → Int) (n : Nat) (X : EX) : Prop := X.1.2.1 = 0 ∧ ¬ (tKd B n X.1.1 = 0 ∧ X.2.2.1 = 0)
theorem eX_ok {c2 c3 : Int} (hF : ∀ v, -1 ≤ F v ∧ F v < c2) (hG : ∀ v, -1 ≤ G v ∧ G v < c3) {X : EX} (I : EvI c2 c3 X) : ∀ j, (eX B n F G X j).1.2.1 = 0 → (∀ i, i < j → goE B n (eX B n F G X i)) → EvI c2 c3 (eX B n F G X j) ∧ j ≤ (eX B n F G X j).1.1
  | 0, _, _ => ⟨I, by omega⟩
  | j + 1, h, hg => by
    have ih := eX_ok hF hG I j (hg j (by omega)).1 (fun i hi => hg i (by omega))
    have h' : (est B n F G (eX B n F G X j)).1.2.1 = 0 := h
    refine ⟨ev_est hF hG ih.1 h', ?_⟩
    have := pl_est h'
    show j + 1 ≤ (est B n F G (eX B n F G X j)).1.1
    omega
/-- at the end of the text a block is amiss -/
theorem est_end {X : EX} (g : X.1.2.1 = 0) (k : tKd B n X.1.1 = 0) : (est B n F G X).1 = tBlm B n 2 X.1 := by
  have kw : tKw B n X.1 = -1 := by
    unfold tKw
    rw [if_neg (fun q => by have := q.2; rw [k] at this; exact absurd this (by decide))]
  have st : stN (-1) = -1 := by decide
  unfold est
  rw [kw, if_neg (by decide), st, if_pos rfl]
theorem eX_end {c2 c3 : Int} (hF : ∀ v, -1 ≤ F v ∧ F v < c2) (hG : ∀ v, -1 ≤ G v ∧ G v < c3) {X : EX} (I : EvI c2 c3 X) {j : Nat} (hj : n + 1 ≤ j) (hg : ∀ i, i < j → goE B n (eX B n F G X i)) : ¬ (eX B n F G X j).1.2.1 = 0 := by
  intro g
  obtain ⟨i, hi⟩ : ∃ i, j = i + 1 := ⟨j - 1, by omega⟩
  subst hi
  have gi := hg i (by omega)
  have q := (eX_ok hF hG I i gi.1 (fun k hk => hg k (by omega))).2
  have e := est_end (F := F) (G := G) gi.1 (tKd_end (B := B) (n := n) (p := (eX B n F G X i).1.1) (by omega))
  have g : (est B n F G (eX B n F G X i)).1.2.1 = 0 := g
  rw [e] at g
  exact absurd g (tBlm_1 (by omega))
theorem eX_same {X : EX} {i j : Nat} (h1 : ∀ k, k < i → goE B n (eX B n F G X k)) (h2 : ¬ goE B n (eX B n F G X i)) (h3 : ∀ k, k < j → goE B n (eX B n F G X k)) (h4 : ¬ goE B n (eX B n F G X j)) : i = j := by
  by_cases g : i < j
  · exact absurd (h3 i g) h2
  · by_cases g2 : j < i
    · exact absurd (h1 j g2) h4
    · omega
/-- blocks within blocks -/
theorem NB_dp {c : Nat → Int} {dp : Nat → Nat} {m : Int} (h2 : ∀ i : Nat, (i : Int) < m → (c (138 + 9 * i) = 7 ∨ c (138 + 9 * i) = 8) → dp i ≤ 2 ∧ c (146 + 9 * i) ≤ m) (hd : ∀ j : Nat, (j : Int) < m → (c (138 + 9 * j) = 7 ∨ c (138 + 9 * j) = 8) → ∀ i : Nat, j < i → (i : Int) < c (146 + 9 * j) → dp j < dp i) : ∀ (lv : Nat) (fr to : Int), to ≤ m → lv ≤ 3 → (∀ j : Nat, fr ≤ j → (j : Int) < to → (c (138 + 9 * j) = 7 ∨ c (138 + 9 * j) = 8) → 3 - lv ≤ dp j) → NB c lv fr to
  | 0, fr, to, ht, _, h => fun j j1 j3 hb => by
    have a := h j j1 j3 hb
    have b := (h2 j (by omega) hb).1
    omega
  | lv + 1, fr, to, ht, hl, h => fun j j1 j3 hb => by
    have a := h j j1 j3 hb
    have b := (h2 j (by omega) hb).2
    refine NB_dp h2 hd lv _ _ b (by omega) (fun i i1 i2 _ => ?_)
    have := hd j (by omega) hb i (by omega) i2
    omega
end ET
