/-! which words were told -/
def tcF (f : Int) : Int := f / 8 + 4 * (f % 8)
def flP (f : Int) (i b : Int) : Bool := decide (andI (tcF f) (shlI 1 i) = 0) == decide (hsO f b = 0) && decide (orI (tcF f) (shlI 1 i) = tcF (orI f (shlI 1 b))) && decide (0 ≤ orI f (shlI 1 b)) && decide (orI f (shlI 1 b) < 16) && (decide (orI f (shlI 1 b) < 8) == (decide (f < 8) && decide (b < 3)))
theorem flg_all : ∀ f : Fin 16, (flP (f.val : Int) 0 3 && flP (f.val : Int) 2 0 && flP (f.val : Int) 3 1 && flP (f.val : Int) 4 2 && (decide (andI (tcF (f.val : Int)) 1 = 0) == decide ((f.val : Int) < 8)) && (decide (hsO (f.val : Int) 3 = 0) == decide ((f.val : Int) < 8))) = true := by decide +kernel
theorem flP_1 {f i b : Int} (h : flP f i b = true) : (andI (tcF f) (shlI 1 i) = 0 ↔ hsO f b = 0) ∧ orI (tcF f) (shlI 1 i) = tcF (orI f (shlI 1 b)) ∧ (0 ≤ orI f (shlI 1 b) ∧ orI f (shlI 1 b) < 16) ∧ (orI f (shlI 1 b) < 8 ↔ (f < 8 ∧ b < 3)) := by
  unfold flP at h
  simp only [Bool.and_eq_true, beq_iff_eq, decide_eq_true_eq, decide_eq_decide] at h
  obtain ⟨⟨⟨⟨h1, h2⟩, h3⟩, h4⟩, h5⟩ := h
  refine ⟨h1, h2, ⟨h3, h4⟩, ?_⟩
  rw [← Bool.decide_and, decide_eq_decide] at h5
  exact h5
theorem flg {f : Int} (h : 0 ≤ f ∧ f < 16) : flP f 0 3 = true ∧ flP f 2 0 = true ∧ flP f 3 1 = true ∧ flP f 4 2 = true ∧ (andI (tcF f) 1 = 0 ↔ f < 8) ∧ (hsO f 3 = 0 ↔ f < 8) := by
  have := flg_all ⟨f.toNat, by omega⟩
  have e : (((⟨f.toNat, by omega⟩ : Fin 16).val : Nat) : Int) = f := by
    show ((f.toNat : Nat) : Int) = f
    omega
  rw [e] at this
  simp only [Bool.and_eq_true, beq_iff_eq, decide_eq_decide] at this
  obtain ⟨⟨⟨⟨⟨h1, h2⟩, h3⟩, h4⟩, h5⟩, h6⟩ := this
  exact ⟨h1, h2, h3, h4, h5, h6⟩
theorem tOnce_o {B : Nat → Int} {n : Nat} {o o' : Int} (h : o = 0 ↔ o' = 0) (s : TS3) : tOnce B n o s = tOnce B n o' s := by
  unfold tOnce
  by_cases g : o = 0
  · rw [if_pos g, if_pos (h.mp g)]
  · rw [if_neg g, if_neg (fun q => g (h.mpr q))]
theorem tBeh_o {B : Nat → Int} {n : Nat} {o o' : Int} (h : o = 0 ↔ o' = 0) (s : TS3) : tBeh B n o s = tBeh B n o' s := by
  unfold tBeh
  by_cases g : o = 0
  · rw [if_pos g, if_pos (h.mp g)]
  · rw [if_neg g, if_neg (fun q => g (h.mpr q))]
