/-! ways: what can be come to in t steps -/
section QU
variable (ok : Int → Int → Prop) (fx fy : Int)
def RQ : Nat → Int → Int → Prop
  | 0, x, y => (x = fx ∧ y = fy) ∧ ok x y
  | t + 1, x, y => RQ t x y ∨ (ok x y ∧ (RQ t (x - 1) y ∨ RQ t x (y - 1) ∨ RQ t (x + 1) y ∨ RQ t x (y + 1)))
/-- v is how many steps it takes, -1: it can't be come to -/
def isD (v x y : Int) : Prop := (v = -1 ∧ ∀ t, ¬ RQ ok fx fy t x y) ∨ (0 ≤ v ∧ RQ ok fx fy v.toNat x y ∧ ∀ t : Nat, RQ ok fx fy t x y → v ≤ t)
variable {ok fx fy}
theorem RQ_ok : ∀ {t : Nat} {x y : Int}, RQ ok fx fy t x y → ok x y
  | 0, _, _, h => h.2
  | t + 1, x, y, h => by
    rcases h with h | h
    · exact RQ_ok h
    · exact h.1
theorem RQ_mono {t u : Nat} {x y : Int} (h : t ≤ u) (r : RQ ok fx fy t x y) : RQ ok fx fy u x y := by
  have e : u = t + (u - t) := by omega
  rw [e]
  generalize u - t = d
  induction d with
  | zero => exact r
  | succ d ih => exact Or.inl ih
theorem isD_unique {v v' x y : Int} (h : isD ok fx fy v x y) (h' : isD ok fx fy v' x y) : v = v' := by
  rcases h with ⟨h1, h2⟩ | ⟨h1, h2, h3⟩
  · rcases h' with ⟨g1, g2⟩ | ⟨g1, g2, g3⟩
    · omega
    · exact absurd g2 (h2 _)
  · rcases h' with ⟨g1, g2⟩ | ⟨g1, g2, g3⟩
    · exact absurd h2 (g2 _)
    · have a := h3 _ g2
      have b := g3 _ h2
      omega
/-- a row of steps in which nobody is further from one beside it than one step holds all that can be come to -/
theorem RQ_all (st : Int → Int → Int) (h0 : ok fx fy → st fx fy = 0) (hn : ∀ x y x' y', (x' = x + 1 ∧ y' = y ∨ x' = x ∧ y' = y + 1 ∨ x' = x - 1 ∧ y' = y ∨ x' = x ∧ y' = y - 1) → ok x y → ok x' y' → 0 ≤ st x y → 0 ≤ st x' y' ∧ st x' y' ≤ st x y + 1) : ∀ (t : Nat) (x y : Int), RQ ok fx fy t x y → 0 ≤ st x y ∧ st x y ≤ t
  | 0, x, y, h => by
    obtain ⟨⟨h1, h2⟩, h3⟩ := h
    subst h1; subst h2
    rw [h0 h3]
    omega
  | t + 1, x, y, h => by
    rcases h with h | ⟨h1, h⟩
    · have := RQ_all st h0 hn t x y h
      omega
    · rcases h with h | h | h | h
      · have a := RQ_all st h0 hn t _ _ h
        have b := hn (x - 1) y x y (Or.inl ⟨by omega, rfl⟩) (RQ_ok h) h1 a.1
        omega
      · have a := RQ_all st h0 hn t _ _ h
        have b := hn x (y - 1) x y (Or.inr (Or.inl ⟨rfl, by omega⟩)) (RQ_ok h) h1 a.1
        omega
      · have a := RQ_all st h0 hn t _ _ h
        have b := hn (x + 1) y x y (Or.inr (Or.inr (Or.inl ⟨by omega, rfl⟩))) (RQ_ok h) h1 a.1
        omega
      · have a := RQ_all st h0 hn t _ _ h
        have b := hn x (y + 1) x y (Or.inr (Or.inr (Or.inr ⟨rfl, by omega⟩))) (RQ_ok h) h1 a.1
        omega
/-- where all is open there is a way -/
theorem RQ_open {W D : Int} (hok : ∀ x y, (0 ≤ x ∧ x < W) ∧ (0 ≤ y ∧ y < D) → ok x y) (hf : (0 ≤ fx ∧ fx < W) ∧ (0 ≤ fy ∧ fy < D)) : ∀ (n : Nat) (x y : Int), (0 ≤ x ∧ x < W) ∧ (0 ≤ y ∧ y < D) → (absB (x - fx) + absB (y - fy)).toNat = n → ∃ t, RQ ok fx fy t x y
  | 0, x, y, hx, hn => by
    have e1 : x = fx ∧ y = fy := by
      unfold absB at hn
      split at hn <;> split at hn <;> omega
    exact ⟨0, e1, hok x y hx⟩
  | n + 1, x, y, hx, hn => by
    have A1 := absB_or (x - fx)
    have A2 := absB_or (y - fy)
    have A3 := absB_or (x - 1 - fx)
    have A4 := absB_or (x + 1 - fx)
    have A5 := absB_or (y - 1 - fy)
    have A6 := absB_or (y + 1 - fy)
    by_cases h1 : fx < x
    · obtain ⟨t, ht⟩ := RQ_open hok hf n (x - 1) y (by omega) (by omega)
      exact ⟨t + 1, Or.inr ⟨hok x y hx, Or.inl ht⟩⟩
    · by_cases h2 : x < fx
      · obtain ⟨t, ht⟩ := RQ_open hok hf n (x + 1) y (by omega) (by omega)
        exact ⟨t + 1, Or.inr ⟨hok x y hx, Or.inr (Or.inr (Or.inl ht))⟩⟩
      · by_cases h3 : fy < y
        · obtain ⟨t, ht⟩ := RQ_open hok hf n x (y - 1) (by omega) (by omega)
          exact ⟨t + 1, Or.inr ⟨hok x y hx, Or.inr (Or.inl ht)⟩⟩
        · obtain ⟨t, ht⟩ := RQ_open hok hf n x (y + 1) (by omega) (by omega)
          exact ⟨t + 1, Or.inr ⟨hok x y hx, Or.inr (Or.inr (Or.inr ht))⟩⟩
end QU
