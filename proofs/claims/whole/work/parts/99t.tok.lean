/-! texts: tokens -/
section TK
variable (B : Nat → Int) (n : Nat)
/-- the end of the bytes for which q holds, from p on -/
def rnE (q : Int → Bool) : Nat → Nat → Nat
  | 0, p => p
  | k + 1, p => if p < n ∧ q (B p) = true then rnE q k (p + 1) else p
def qBl (v : Int) : Bool := decide (v = 10 ∨ v = 32)
def qLe (v : Int) : Bool := decide (97 ≤ v ∧ v ≤ 122)
def qDg (v : Int) : Bool := decide (48 ≤ v ∧ v ≤ 57)
def tAt (p : Nat) : Nat := rnE B n qBl n p
/-- kinds: 0 end, 1 word, 2 number, 3 sign, 4 nothing -/
def tKd (p : Nat) : Int :=
  if n ≤ tAt B n p then 0
  else if qLe (B (tAt B n p)) = true then 1
  else if qDg (B (tAt B n p)) = true then (if tAt B n p + 4 < rnE B n qDg n (tAt B n p) then 4 else 2)
  else if B (tAt B n p) = 59 ∨ B (tAt B n p) = 60 ∨ B (tAt B n p) = 62 ∨ B (tAt B n p) = 61 then 3 else 4
def tEn (p : Nat) : Nat :=
  if n ≤ tAt B n p then tAt B n p
  else if qLe (B (tAt B n p)) = true then rnE B n qLe n (tAt B n p)
  else if qDg (B (tAt B n p)) = true then rnE B n qDg n (tAt B n p)
  else tAt B n p + 1
/-- the first k letters from a on as one number; the first k digits -/
def wdV (a : Nat) : Nat → Int
  | 0 => 0
  | k + 1 => wdV a k * 32 + (B (a + k) - 96)
def nmV (a : Nat) : Nat → Int
  | 0 => 0
  | k + 1 => nmV a k * 10 + (B (a + k) - 48)
def mn (a b : Nat) : Nat := if a < b then a else b
def tLn (p : Nat) : Nat := tEn B n p - tAt B n p
def tWd (p : Nat) : Int := wdV B (tAt B n p) (mn (tLn B n p) 9)
def tNm (p : Nat) : Int := nmV B (tAt B n p) (mn (tLn B n p) 4)
variable {B n}
theorem rnE_le {q : Int → Bool} : ∀ (k p : Nat), p ≤ rnE B n q k p
  | 0, p => Nat.le_refl _
  | k + 1, p => by
    have ih := rnE_le (q := q) k (p + 1)
    show p ≤ (if p < n ∧ q (B p) = true then rnE B n q k (p + 1) else p)
    split <;> omega
theorem rnE_n {q : Int → Bool} : ∀ (k p : Nat), p ≤ n → rnE B n q k p ≤ n
  | 0, p, h => h
  | k + 1, p, h => by
    show (if p < n ∧ q (B p) = true then rnE B n q k (p + 1) else p) ≤ n
    by_cases g : p < n ∧ q (B p) = true
    · rw [if_pos g]; exact rnE_n k (p + 1) (by omega)
    · rw [if_neg g]; exact h
theorem rnE_in {q : Int → Bool} : ∀ (k p i : Nat), p ≤ i → i < rnE B n q k p → q (B i) = true ∧ i < n
  | 0, p, i, h1, h2 => by
    have h2 : i < p := h2
    omega
  | k + 1, p, i, h1, h2 => by
    have e : rnE B n q (k + 1) p = if p < n ∧ q (B p) = true then rnE B n q k (p + 1) else p := rfl
    rw [e] at h2
    by_cases g : p < n ∧ q (B p) = true
    · rw [if_pos g] at h2
      by_cases hi : i = p
      · subst hi; exact ⟨g.2, g.1⟩
      · exact rnE_in k (p + 1) i (by omega) h2
    · rw [if_neg g] at h2; omega
theorem rnE_out {q : Int → Bool} : ∀ (k p : Nat), n ≤ p + k → ¬ (rnE B n q k p < n ∧ q (B (rnE B n q k p)) = true)
  | 0, p, h => fun g => by
    have g1 : p < n := g.1
    omega
  | k + 1, p, h => by
    have e : rnE B n q (k + 1) p = if p < n ∧ q (B p) = true then rnE B n q k (p + 1) else p := rfl
    rw [e]
    by_cases g : p < n ∧ q (B p) = true
    · rw [if_pos g]; exact rnE_out k (p + 1) (by omega)
    · rw [if_neg g]; exact g
/-- where a run ends is told by its ends -/
theorem rnE_eq {q : Int → Bool} {k p e : Nat} (hk : n ≤ p + k) (h1 : p ≤ e) (hin : ∀ i, p ≤ i → i < e → q (B i) = true ∧ i < n) (hout : ¬ (e < n ∧ q (B e) = true)) : rnE B n q k p = e := by
  have a1 := rnE_le (B := B) (n := n) (q := q) k p
  have a2 := fun i => rnE_in (B := B) (n := n) (q := q) k p i
  have a3 := rnE_out (B := B) (n := n) (q := q) k p hk
  by_cases g : rnE B n q k p < e
  · have := hin _ a1 g
    exact absurd ⟨this.2, this.1⟩ a3
  · by_cases g2 : e < rnE B n q k p
    · have := a2 e h1 g2
      exact absurd ⟨this.2, this.1⟩ hout
    · omega
theorem tAt_le (p : Nat) : p ≤ tAt B n p := rnE_le _ _
theorem tAt_n {p : Nat} (h : p ≤ n) : tAt B n p ≤ n := rnE_n _ _ h
theorem tEn_n {p : Nat} (h : p ≤ n) : tEn B n p ≤ n := by
  have a := tAt_n (B := B) h
  unfold tEn
  split
  · exact a
  · split
    · exact rnE_n _ _ a
    · split
      · exact rnE_n _ _ a
      · omega
theorem rnE_1 {q : Int → Bool} {p : Nat} (h : p < n) (hq : q (B p) = true) : p < rnE B n q n p := by
  obtain ⟨m, hm⟩ : ∃ m, n = m + 1 := ⟨n - 1, by omega⟩
  have e : rnE B n q n p = rnE B n q (m + 1) p := by rw [hm]
  rw [e]
  show p < (if p < n ∧ q (B p) = true then rnE B n q m (p + 1) else p)
  rw [if_pos ⟨h, hq⟩]
  have := rnE_le (B := B) (n := n) (q := q) m (p + 1)
  omega
/-- a token that is one goes on -/
theorem tEn_lt {p : Nat} (h : tKd B n p ≠ 0) : p < tEn B n p := by
  have a := tAt_le (B := B) (n := n) p
  unfold tKd at h
  unfold tEn
  by_cases g : n ≤ tAt B n p
  · rw [if_pos g] at h; exact absurd rfl h
  · rw [if_neg g]
    split
    · rename_i g2
      have := rnE_1 (B := B) (q := qLe) (show tAt B n p < n by omega) g2
      omega
    · split
      · rename_i g3
        have := rnE_1 (B := B) (q := qDg) (show tAt B n p < n by omega) g3
        omega
      · omega
theorem tKd_end {p : Nat} (h : n ≤ p) : tKd B n p = 0 := by
  have a := tAt_le (B := B) (n := n) p
  unfold tKd
  rw [if_pos (by omega)]
theorem wdV_bd {a : Nat} : ∀ k, (∀ i, i < k → 97 ≤ B (a + i) ∧ B (a + i) ≤ 122) → 0 ≤ wdV B a k ∧ wdV B a k < 32 ^ k ∧ (0 < k → 1 ≤ wdV B a k)
  | 0, _ => by
    show 0 ≤ (0 : Int) ∧ (0 : Int) < 32 ^ 0 ∧ (0 < 0 → 1 ≤ (0 : Int))
    rw [Int.pow_zero]
    omega
  | k + 1, h => by
    have ih := wdV_bd k (fun i hi => h i (by omega))
    have b := h k (by omega)
    show 0 ≤ wdV B a k * 32 + (B (a + k) - 96) ∧ wdV B a k * 32 + (B (a + k) - 96) < 32 ^ (k + 1) ∧ (0 < k + 1 → 1 ≤ wdV B a k * 32 + (B (a + k) - 96))
    rw [Int.pow_succ]
    generalize wdV B a k = w at *
    generalize (32 : Int) ^ k = q at *
    omega
theorem nmV_bd {a : Nat} : ∀ k, (∀ i, i < k → 48 ≤ B (a + i) ∧ B (a + i) ≤ 57) → 0 ≤ nmV B a k ∧ nmV B a k < 10 ^ k
  | 0, _ => by
    show 0 ≤ (0 : Int) ∧ (0 : Int) < 10 ^ 0
    rw [Int.pow_zero]
    omega
  | k + 1, h => by
    have ih := nmV_bd k (fun i hi => h i (by omega))
    have b := h k (by omega)
    show 0 ≤ nmV B a k * 10 + (B (a + k) - 48) ∧ nmV B a k * 10 + (B (a + k) - 48) < 10 ^ (k + 1)
    rw [Int.pow_succ]
    generalize nmV B a k = w at *
    generalize (10 : Int) ^ k = q at *
    omega
end TK
