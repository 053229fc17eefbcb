/-! sums over rows and columns -/
theorem sumN_zero {f : Nat → Int} : ∀ n : Nat, (∀ k : Nat, k < n → f k = 0) → sumN f n = 0
  | 0, _ => rfl
  | n + 1, h => by
    unfold sumN
    rw [sumN_zero n (fun k hk => h k (by omega)), h n (by omega)]
    rfl
theorem sumN_add {f : Nat → Int} (m : Nat) : ∀ n : Nat, sumN f (m + n) = sumN f m + sumN (fun k => f (m + k)) n
  | 0 => by show sumN f m = sumN f m + 0; omega
  | n + 1 => by
    show sumN f (m + n) + f (m + n) = sumN f m + (sumN (fun k => f (m + k)) n + f (m + n))
    rw [sumN_add m n]
    omega
theorem sumN_cut {f : Nat → Int} {m n : Nat} (h : m ≤ n) (hz : ∀ k : Nat, m ≤ k → k < n → f k = 0) : sumN f n = sumN f m := by
  have e : n = m + (n - m) := by omega
  rw [e, sumN_add, sumN_zero (n - m) (fun k hk => hz (m + k) (by omega) (by omega))]
  omega
/-- row by row -/
theorem sumN_rows {f : Int → Int → Int} {W : Nat} (hW : 0 < W) : ∀ D : Nat, sumN (fun k => f ((k : Int) % W) ((k : Int) / W)) (D * W) = sumN (fun y => sumN (fun x => f x y) W) D
  | 0 => by rw [Nat.zero_mul]; rfl
  | D + 1 => by
    rw [Nat.succ_mul, sumN_add, sumN_rows hW D]
    show _ + sumN _ W = sumN (fun y => sumN (fun x => f x y) W) D + sumN (fun x => f x D) W
    congr 1
    refine sumN_congr W (fun k hk => ?_)
    have e1 : ((D * W + k : Nat) : Int) = (D : Int) * (W : Int) + (k : Int) := by rw [Int.natCast_add, Int.natCast_mul]
    have ⟨q1, q2⟩ := cell_xy (W := (W : Int)) (x := (k : Int)) (y := (D : Int)) (by omega) (by omega)
    rw [e1, q1, q2]
/-! Euclid -/
def eucS : Nat → Int × Int → Int × Int
  | 0, p => p
  | n + 1, p => if p.2 = 0 then p else eucS n (p.2, p.1 % p.2)
theorem eucS_0 (n : Nat) (a : Int) : eucS n (a, 0) = (a, 0) := by
  cases n with
  | zero => rfl
  | succ n => exact if_pos rfl
theorem eucS_end : ∀ (k : Nat) (a b : Int), 0 ≤ a → 0 ≤ b → b < 2 ^ k → (eucS (2 * k) (a, b)).2 = 0
  | 0, a, b, _, hb, h => by
    have h : b < 1 := h
    show b = 0
    omega
  | k + 1, a, b, ha, hb, h => by
    have e : 2 * (k + 1) = (2 * k + 1) + 1 := by omega
    rw [e]
    by_cases h0 : b = 0
    · subst h0
      rw [eucS_0]
    · unfold eucS
      rw [if_neg h0]
      show (eucS (2 * k + 1) (b, a % b)).2 = 0
      have r1 := Int.emod_nonneg a h0
      have r2 := Int.emod_lt_of_pos a (show 0 < b by omega)
      generalize a % b = r at r1 r2
      by_cases hr : r = 0
      · subst hr
        rw [eucS_0]
      · unfold eucS
        rw [if_neg hr]
        show (eucS (2 * k) (r, b % r)).2 = 0
        have s1 := Int.emod_nonneg b hr
        have s2 := Int.emod_lt_of_pos b (show 0 < r by omega)
        have s3 : b = r * (b / r) + b % r := (Int.mul_ediv_add_emod b r).symm
        have s4 : 1 ≤ b / r := by
          have := Int.le_ediv_of_mul_le (a := 1) (b := b) (c := r) (by omega) (by omega)
          exact this
        have s5 : r * 1 ≤ r * (b / r) := Int.mul_le_mul_of_nonneg_left s4 (by omega)
        have p2 : (2 : Int) ^ (k + 1) = 2 ^ k * 2 := Int.pow_succ 2 k
        refine eucS_end k r (b % r) (by omega) s1 ?_
        omega
/-- all that Euclid's steps come to -/
theorem eucS_pos : ∀ (n : Nat) (a b : Int), 0 ≤ a → 0 ≤ b → 0 < a + b → 0 ≤ (eucS n (a, b)).1 ∧ 0 ≤ (eucS n (a, b)).2 ∧ 0 < (eucS n (a, b)).1 + (eucS n (a, b)).2
  | 0, a, b, h1, h2, h3 => ⟨h1, h2, h3⟩
  | n + 1, a, b, h1, h2, h3 => by
    unfold eucS
    by_cases h0 : b = 0
    · rw [if_pos h0]
      exact ⟨h1, h2, h3⟩
    · rw [if_neg h0]
      have r1 := Int.emod_nonneg a h0
      exact eucS_pos n b (a % b) h2 r1 (by omega)
theorem eucS_add : ∀ (m n : Nat) (p : Int × Int), eucS (m + n) p = eucS n (eucS m p)
  | 0, n, p => by rw [Nat.zero_add]; rfl
  | m + 1, n, p => by
    have e : m + 1 + n = (m + n) + 1 := by omega
    rw [e]
    show (if p.2 = 0 then p else eucS (m + n) (p.2, p.1 % p.2)) = eucS n (if p.2 = 0 then p else eucS m (p.2, p.1 % p.2))
    by_cases h0 : p.2 = 0
    · rw [if_pos h0, if_pos h0]
      obtain ⟨a, b⟩ := p
      have h0 : b = 0 := h0
      subst h0
      cases n with
      | zero => rfl
      | succ n => exact (if_pos rfl).symm
    · rw [if_neg h0, if_neg h0]
      exact eucS_add m n _
/-! when tunes fall together -/
def begB (t late beats : Int) : Prop := late ≤ t ∧ (t - late) % beats = 0
theorem begB_bar {l b bar : Int} (hb : 0 < b) (h0 : 0 ≤ bar) : begB (l + bar * b) l b := by
  have p := Int.mul_nonneg h0 (show 0 ≤ b by omega)
  refine ⟨by omega, ?_⟩
  have e : l + bar * b - l = bar * b := by omega
  rw [e]
  exact Int.mul_emod_left bar b
theorem begB_inv {t l b : Int} (hb : 0 < b) (h : begB t l b) : ∃ bar : Int, 0 ≤ bar ∧ t = l + bar * b := by
  refine ⟨(t - l) / b, Int.ediv_nonneg (by have := h.1; omega) (by omega), ?_⟩
  have e := Int.mul_ediv_add_emod (t - l) b
  rw [h.2, Int.mul_comm] at e
  omega
/-- a bar that is b2 bars earlier serves as well, if it isn't too early -/
theorem begB_back {l1 b1 l2 b2 bar : Int} (h : begB (l1 + bar * b1) l2 b2) (hl : l2 ≤ l1 + (bar - b2) * b1) : begB (l1 + (bar - b2) * b1) l2 b2 := by
  refine ⟨hl, ?_⟩
  have e : l1 + (bar - b2) * b1 - l2 = (l1 + bar * b1 - l2) + (-b1) * b2 := by
    rw [Int.sub_mul, Int.neg_mul, Int.mul_comm b2 b1]
    omega
  rw [e, Int.add_mul_emod_self_right]
  exact h.2
theorem begB_first {l1 b1 l2 b2 bar : Int} (h1 : 0 ≤ l1 ∧ l1 ≤ 99) (h2 : 0 ≤ l2 ∧ l2 ≤ 99) (g1 : 1 ≤ b1 ∧ b1 ≤ 99) (g2 : 1 ≤ b2 ∧ b2 ≤ 99) (h0 : 0 ≤ bar) (h : begB (l1 + bar * b1) l2 b2) (hm : ∀ q : Int, 0 ≤ q → q < bar → ¬ begB (l1 + q * b1) l2 b2) : bar < 199 ∧ l1 + bar * b1 < 9901 := by
  by_cases hb : bar < b2
  · have p := mul_bd h0 (show bar ≤ 98 by omega) (show 0 ≤ b1 by omega) g1.2
    omega
  · have hl : ¬ l2 ≤ l1 + (bar - b2) * b1 := fun hl => hm (bar - b2) (by omega) (by omega) (begB_back h hl)
    have e : (bar - b2) * b1 = bar * b1 - b2 * b1 := Int.sub_mul bar b2 b1
    have p := mul_bd (show 0 ≤ b2 by omega) g2.2 (show 0 ≤ b1 by omega) g1.2
    have q : (bar - b2) * 1 ≤ (bar - b2) * b1 := Int.mul_le_mul_of_nonneg_left g1.1 (by omega)
    omega
/-! odds of rain -/
def pasc : Nat → Nat → Int
  | _, 0 => 1
  | 0, _ + 1 => 0
  | n + 1, k + 1 => pasc n k + pasc n (k + 1)
theorem pasc_big : ∀ (n k : Nat), n < k → pasc n k = 0
  | 0, k + 1, _ => rfl
  | n + 1, k + 1, h => by
    show pasc n k + pasc n (k + 1) = 0
    rw [pasc_big n k (by omega), pasc_big n (k + 1) (by omega)]
    rfl
/-- the reference's row of chances behind n hours -/
def chaN (o : Int) : Nat → Nat → Int
  | 0, i => if i = 0 then 1 else 0
  | n + 1, 0 => chaN o n 0 * (16 - o)
  | n + 1, i + 1 => chaN o n (i + 1) * (16 - o) + chaN o n i * o
theorem chaN_eq (o : Int) : ∀ (n i : Nat), i ≤ n → chaN o n i = pasc n i * (o ^ i * (16 - o) ^ (n - i))
  | 0, 0, _ => by
    rw [Int.pow_zero, Nat.sub_zero, Int.pow_zero]
    rfl
  | n + 1, 0, _ => by
    have e2 : chaN o (n + 1) 0 = chaN o n 0 * (16 - o) := rfl
    have e : ∀ m, pasc m 0 = 1 := fun m => by cases m <;> rfl
    rw [e2, chaN_eq o n 0 (by omega), e, e, Nat.sub_zero, Nat.sub_zero, Int.pow_zero, Int.one_mul, Int.one_mul, Int.one_mul, Int.one_mul, Int.pow_succ]
  | n + 1, i + 1, h => by
    show chaN o n (i + 1) * (16 - o) + chaN o n i * o = (pasc n i + pasc n (i + 1)) * (o ^ (i + 1) * (16 - o) ^ (n + 1 - (i + 1)))
    have e0 : n + 1 - (i + 1) = n - i := by omega
    rw [e0, chaN_eq o n i (by omega), Int.add_mul]
    by_cases hi : i + 1 ≤ n
    · rw [chaN_eq o n (i + 1) hi]
      have e1 : n - i = (n - (i + 1)) + 1 := by omega
      have e2 : pasc n (i + 1) * (o ^ (i + 1) * (16 - o) ^ (n - (i + 1))) * (16 - o) = pasc n (i + 1) * (o ^ (i + 1) * (16 - o) ^ (n - i)) := by
        rw [e1, Int.pow_succ (16 - o), Int.mul_assoc, Int.mul_assoc (o ^ (i + 1))]
      have e3 : pasc n i * (o ^ i * (16 - o) ^ (n - i)) * o = pasc n i * (o ^ (i + 1) * (16 - o) ^ (n - i)) := by
        rw [Int.pow_succ o, Int.mul_assoc, Int.mul_assoc (o ^ i), Int.mul_comm _ o, ← Int.mul_assoc (o ^ i)]
      rw [e2, e3, Int.add_comm]
    · have e4 : i = n := by omega
      subst e4
      have e5 : chaN o i (i + 1) = 0 := chaN_big o i (i + 1) (by omega)
      rw [e5, Int.zero_mul, pasc_big i (i + 1) (by omega), Int.zero_mul, Int.zero_add, Int.add_zero, Int.pow_succ o, Int.mul_assoc, Int.mul_assoc (o ^ i), Int.mul_comm _ o, ← Int.mul_assoc (o ^ i)]
where
  chaN_big (o : Int) : ∀ (n i : Nat), n < i → chaN o n i = 0
  | 0, i + 1, _ => rfl
  | n + 1, i + 1, h => by
    show chaN o n (i + 1) * (16 - o) + chaN o n i * o = 0
    rw [chaN_big o n (i + 1) (by omega), chaN_big o n i (by omega), Int.zero_mul, Int.zero_mul]
    rfl
