/-! where a Park's and a Stage's cells lie -/
def isP (a : Nat) : Prop := a = 6 ∨ a = 48 ∨ a = 87 ∨ a = 152 ∨ a = 181 ∨ a = 210
def isS (s : Nat) : Prop := s = 5 ∨ s = 86
theorem P_a {a : Nat} (h : isP a) : sh a = (1, 3, 15) := by
  rcases h with h | h | h | h | h | h <;> subst h <;> decide +kernel
theorem P_1 {a : Nat} (h : isP a) : sh (a + 1) = (5, 0, 30) := by
  rcases h with h | h | h | h | h | h <;> subst h <;> decide +kernel
theorem P_2 {a : Nat} (h : isP a) : sh (a + 2) = (6, 6, 6) := by
  rcases h with h | h | h | h | h | h <;> subst h <;> decide +kernel
theorem P_3 {a : Nat} (h : isP a) : sh (a + 3) = (6, 7, 6) := by
  rcases h with h | h | h | h | h | h <;> subst h <;> decide +kernel
theorem P_4 {a : Nat} (h : isP a) : sh (a + 4) = (1, 1, 8) := by
  rcases h with h | h | h | h | h | h <;> subst h <;> decide +kernel
theorem P_5 {a : Nat} (h : isP a) : sh (a + 5) = (2, 0, 30) := by
  rcases h with h | h | h | h | h | h <;> subst h <;> decide +kernel
theorem P_6 {a : Nat} (h : isP a) : sh (a + 6) = (2, 0, 30) := by
  rcases h with h | h | h | h | h | h <;> subst h <;> decide +kernel
theorem P_7 {a : Nat} (h : isP a) : sh (a + 7) = (2, 0, 30) := by
  rcases h with h | h | h | h | h | h <;> subst h <;> decide +kernel
theorem P_8 {a : Nat} (h : isP a) : sh (a + 8) = (2, 0, 30) := by
  rcases h with h | h | h | h | h | h <;> subst h <;> decide +kernel
theorem P_9 {a : Nat} (h : isP a) : sh (a + 9) = (2, 0, 30) := by
  rcases h with h | h | h | h | h | h <;> subst h <;> decide +kernel
theorem P_10 {a : Nat} (h : isP a) : sh (a + 10) = (2, 0, 30) := by
  rcases h with h | h | h | h | h | h <;> subst h <;> decide +kernel
theorem P_t {a : Nat} (h : isP a) : ∀ i : Nat, i < 6 → sh (a + 11 + i) = (1, 10, 4) := by
  rcases h with h | h | h | h | h | h <;> subst h <;> decide +kernel
theorem P_b {a : Nat} (h : isP a) : ∀ i : Nat, i < 6 → sh (a + 17 + 2 * i) = (1, 0, 9) := by
  rcases h with h | h | h | h | h | h <;> subst h <;> decide +kernel
theorem P_g {a : Nat} (h : isP a) : ∀ i : Nat, i < 6 → sh (a + 18 + 2 * i) = (2, 0, 6) := by
  rcases h with h | h | h | h | h | h <;> subst h <;> decide +kernel
theorem P_r8 {a : Nat} (h : isP a) : rf a 8 = a + 1 := by
  rcases h with h | h | h | h | h | h <;> subst h <;> decide +kernel
theorem P_r10 {a : Nat} (h : isP a) : rf a 10 = a + 2 := by
  rcases h with h | h | h | h | h | h <;> subst h <;> decide +kernel
theorem P_r12 {a : Nat} (h : isP a) : rf a 12 = a + 3 := by
  rcases h with h | h | h | h | h | h <;> subst h <;> decide +kernel
theorem P_r13 {a : Nat} (h : isP a) : rf a 13 = a + 4 := by
  rcases h with h | h | h | h | h | h <;> subst h <;> decide +kernel
theorem P_e2 {a : Nat} (h : isP a) : rf (a + 4) 2 = a + 5 := by
  rcases h with h | h | h | h | h | h <;> subst h <;> decide +kernel
theorem P_e3 {a : Nat} (h : isP a) : rf (a + 4) 3 = a + 6 := by
  rcases h with h | h | h | h | h | h <;> subst h <;> decide +kernel
theorem P_e4 {a : Nat} (h : isP a) : rf (a + 4) 4 = a + 7 := by
  rcases h with h | h | h | h | h | h <;> subst h <;> decide +kernel
theorem P_e5 {a : Nat} (h : isP a) : rf (a + 4) 5 = a + 8 := by
  rcases h with h | h | h | h | h | h <;> subst h <;> decide +kernel
theorem P_e6 {a : Nat} (h : isP a) : rf (a + 4) 6 = a + 9 := by
  rcases h with h | h | h | h | h | h <;> subst h <;> decide +kernel
theorem P_e7 {a : Nat} (h : isP a) : rf (a + 4) 7 = a + 10 := by
  rcases h with h | h | h | h | h | h <;> subst h <;> decide +kernel
theorem P_rt {a : Nat} (h : isP a) : ∀ i : Nat, i < 6 → rf (a + 2) i = a + 11 + i := by
  rcases h with h | h | h | h | h | h <;> subst h <;> decide +kernel
theorem P_rb {a : Nat} (h : isP a) : ∀ i : Nat, i < 6 → rf (a + 3) i = a + 17 + 2 * i := by
  rcases h with h | h | h | h | h | h <;> subst h <;> decide +kernel
theorem P_rg {a : Nat} (h : isP a) : ∀ i : Nat, i < 6 → rf (a + 17 + 2 * i) 8 = a + 18 + 2 * i := by
  rcases h with h | h | h | h | h | h <;> subst h <;> decide +kernel
theorem S_P {s : Nat} (h : isS s) : isP (s + 1) := by
  rcases h with h | h <;> subst h
  · exact Or.inl rfl
  · exact Or.inr (Or.inr (Or.inl rfl))
theorem S_s {s : Nat} (h : isS s) : sh s = (1, 7, 12) := by
  rcases h with h | h <;> subst h <;> decide +kernel
theorem S_r0 {s : Nat} (h : isS s) : rf s 0 = s + 1 := by
  rcases h with h | h <;> subst h <;> decide +kernel
theorem S_r1 {s : Nat} (h : isS s) : rf s 1 = s + 30 := by
  rcases h with h | h <;> subst h <;> decide +kernel
theorem S_r2 {s : Nat} (h : isS s) : rf s 2 = s + 41 := by
  rcases h with h | h <;> subst h <;> decide +kernel
theorem S_q {s : Nat} (h : isS s) : sh (s + 30) = (1, 6, 6) := by
  rcases h with h | h <;> subst h <;> decide +kernel
theorem S_q0 {s : Nat} (h : isS s) : rf (s + 30) 0 = s + 1 := by
  rcases h with h | h <;> subst h <;> decide +kernel
theorem S_q1 {s : Nat} (h : isS s) : rf (s + 30) 1 = s + 31 := by
  rcases h with h | h <;> subst h <;> decide +kernel
theorem S_q2 {s : Nat} (h : isS s) : rf (s + 30) 2 = s + 38 := by
  rcases h with h | h <;> subst h <;> decide +kernel
theorem S_q3 {s : Nat} (h : isS s) : rf (s + 30) 3 = s + 39 := by
  rcases h with h | h <;> subst h <;> decide +kernel
theorem S_q4 {s : Nat} (h : isS s) : rf (s + 30) 4 = s + 40 := by
  rcases h with h | h <;> subst h <;> decide +kernel
theorem S_l {s : Nat} (h : isS s) : sh (s + 31) = (6, 8, 6) := by
  rcases h with h | h <;> subst h <;> decide +kernel
theorem S_k {s : Nat} (h : isS s) : sh (s + 38) = (2, 0, 64) := by
  rcases h with h | h <;> subst h <;> decide +kernel
theorem S_w {s : Nat} (h : isS s) : sh (s + 39) = (2, 0, 384) := by
  rcases h with h | h <;> subst h <;> decide +kernel
theorem S_n {s : Nat} (h : isS s) : sh (s + 40) = (2, 0, 384) := by
  rcases h with h | h <;> subst h <;> decide +kernel
theorem S_y {s : Nat} (h : isS s) : sh (s + 41) = (2, 0, 6) := by
  rcases h with h | h <;> subst h <;> decide +kernel
theorem S_rl {s : Nat} (h : isS s) : ∀ i : Nat, i < 6 → rf (s + 31) i = s + 32 + i := by
  rcases h with h | h <;> subst h <;> decide +kernel
theorem S_sl {s : Nat} (h : isS s) : ∀ i : Nat, i < 6 → sh (s + 32 + i) = (2, 0, 30) := by
  rcases h with h | h <;> subst h <;> decide +kernel
