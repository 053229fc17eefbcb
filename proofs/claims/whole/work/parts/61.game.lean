/-! games -/
def setP (p : Nat → Int) (b : Nat) (e : Int) : Nat → Int := fun k => if k = b then e else p k
theorem setP_id (p : Nat → Int) (b : Nat) : setP p b (p b) = p := by
  funext k
  unfold setP
  split
  · rename_i h; rw [h]
  · rfl
theorem setP_setP (p : Nat → Int) (b : Nat) (e e' : Int) : setP (setP p b e) b e' = setP p b e' := by
  funext k
  unfold setP
  split <;> rfl
def enO (T : Nat) (i : Nat) : Int := if i < T then (i : Int) else 6
def mxN (f : Nat → Int) (ini : Int) : Nat → Int
  | 0 => ini
  | n + 1 => if mxN f ini n < f n then f n else mxN f ini n
def mnN (f : Nat → Int) (ini : Int) : Nat → Int
  | 0 => ini
  | n + 1 => if f n < mnN f ini n then f n else mnN f ini n
theorem mxN_ge {f : Nat → Int} {ini : Int} : ∀ n : Nat, ini ≤ mxN f ini n ∧ ∀ k : Nat, k < n → f k ≤ mxN f ini n
  | 0 => ⟨Int.le_refl _, fun k h => by omega⟩
  | n + 1 => by
    have ⟨h1, h2⟩ := mxN_ge (f := f) (ini := ini) n
    unfold mxN
    refine ⟨by split <;> omega, fun k hk => ?_⟩
    by_cases h : k = n
    · subst h; split <;> omega
    · have := h2 k (by omega)
      split <;> omega
theorem mxN_in {f : Nat → Int} {ini : Int} : ∀ n : Nat, mxN f ini n = ini ∨ ∃ k : Nat, k < n ∧ mxN f ini n = f k
  | 0 => Or.inl rfl
  | n + 1 => by
    unfold mxN
    split
    · exact Or.inr ⟨n, by omega, rfl⟩
    · rcases mxN_in (f := f) (ini := ini) n with h | ⟨k, hk, h⟩
      · exact Or.inl h
      · exact Or.inr ⟨k, by omega, h⟩
theorem mnN_le {f : Nat → Int} {ini : Int} : ∀ n : Nat, mnN f ini n ≤ ini ∧ ∀ k : Nat, k < n → mnN f ini n ≤ f k
  | 0 => ⟨Int.le_refl _, fun k h => by omega⟩
  | n + 1 => by
    have ⟨h1, h2⟩ := mnN_le (f := f) (ini := ini) n
    unfold mnN
    refine ⟨by split <;> omega, fun k hk => ?_⟩
    by_cases h : k = n
    · subst h; split <;> omega
    · have := h2 k (by omega)
      split <;> omega
theorem mnN_in {f : Nat → Int} {ini : Int} : ∀ n : Nat, mnN f ini n = ini ∨ ∃ k : Nat, k < n ∧ mnN f ini n = f k
  | 0 => Or.inl rfl
  | n + 1 => by
    unfold mnN
    split
    · exact Or.inr ⟨n, by omega, rfl⟩
    · rcases mnN_in (f := f) (ini := ini) n with h | ⟨k, hk, h⟩
      · exact Or.inl h
      · exact Or.inr ⟨k, by omega, h⟩
/-- what the first gets with m turns left -/
def gmV (Lf : (Nat → Int) → Int) (a b T : Nat) : Nat → Bool → (Nat → Int) → Int
  | 0, _, p => Lf p
  | m + 1, true, p => mxN (fun i => gmV Lf a b T m false (setP p a (enO T i))) (-30) (T + 1)
  | m + 1, false, p => mnN (fun i => gmV Lf a b T m true (setP p b (enO T i))) 30 (T + 1)
theorem gmV_bd {Lf : (Nat → Int) → Int} {a b T : Nat} (G : (Nat → Int) → Prop) (hG : ∀ p, G p → -30 ≤ Lf p ∧ Lf p ≤ 30) (hs : ∀ p i, i ≤ T → G p → G (setP p a (enO T i)) ∧ G (setP p b (enO T i))) : ∀ (m : Nat) (f : Bool) (p : Nat → Int), G p → -30 ≤ gmV Lf a b T m f p ∧ gmV Lf a b T m f p ≤ 30
  | 0, _, p, hp => by unfold gmV; exact hG p hp
  | m + 1, true, p, hp => by
    unfold gmV
    have h1 := mxN_ge (f := fun i => gmV Lf a b T m false (setP p a (enO T i))) (ini := -30) (T + 1)
    rcases mxN_in (f := fun i => gmV Lf a b T m false (setP p a (enO T i))) (ini := -30) (T + 1) with h | ⟨k, hk, h⟩
    · omega
    · have := gmV_bd G hG hs m false (setP p a (enO T k)) (hs p k (by omega) hp).1
      rw [h]
      exact this
  | m + 1, false, p, hp => by
    unfold gmV
    rcases mnN_in (f := fun i => gmV Lf a b T m true (setP p b (enO T i))) (ini := 30) (T + 1) with h | ⟨k, hk, h⟩
    · omega
    · have := gmV_bd G hG hs m true (setP p b (enO T k)) (hs p k (by omega) hp).2
      rw [h]
      exact this
