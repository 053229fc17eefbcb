/-! the first of the best rows of entries, hour by hour -/
theorem mostN_ge {v : Nat → Int} : ∀ (n k : Nat), k < n → v k ≤ mostN v n
  | n + 1, k, h => by
    unfold mostN
    by_cases hk : k = n
    · subst hk
      split <;> omega
    · have := mostN_ge (v := v) n k (by omega)
      split <;> omega
theorem mostN_in {v : Nat → Int} (h0 : ∀ k, 0 ≤ v k) : ∀ n : Nat, 0 < n → ∃ k, k < n ∧ v k = mostN v n
  | 1, _ => by
    refine ⟨0, by omega, ?_⟩
    have := h0 0
    show v 0 = if 0 < v 0 then v 0 else 0
    split <;> omega
  | n + 2, _ => by
    obtain ⟨k, hk, e⟩ := mostN_in h0 (n + 1) (by omega)
    show ∃ k, k < n + 2 ∧ v k = if mostN v (n + 1) < v (n + 1) then v (n + 1) else mostN v (n + 1)
    split
    · exact ⟨n + 1, by omega, rfl⟩
    · exact ⟨k, by omega, e⟩
/-- the first of n from i on at which f is M, else the one behind them -/
def firF (f : Nat → Int) (M : Int) : Nat → Nat → Nat
  | 0, i => i
  | n + 1, i => if f i = M then i else firF f M n (i + 1)
theorem firF_le (f : Nat → Int) (M : Int) : ∀ n i, i ≤ firF f M n i ∧ firF f M n i ≤ i + n
  | 0, i => by unfold firF; omega
  | n + 1, i => by
    unfold firF
    have := firF_le f M n (i + 1)
    split <;> omega
theorem firF_first (f : Nat → Int) (M : Int) : ∀ n i k, i ≤ k → k < firF f M n i → f k ≠ M
  | 0, i, k, h1, h2 => by unfold firF at h2; omega
  | n + 1, i, k, h1, h2 => by
    unfold firF at h2
    by_cases h : f i = M
    · rw [if_pos h] at h2
      omega
    · rw [if_neg h] at h2
      by_cases hk : k = i
      · rw [hk]; exact h
      · exact firF_first f M n (i + 1) k (by omega) h2
theorem firF_in (f : Nat → Int) (M : Int) : ∀ n i, (∃ k, i ≤ k ∧ k ≤ i + n ∧ f k = M) → f (firF f M n i) = M
  | 0, i, ⟨k, h1, h2, h3⟩ => by
    have : k = i := by omega
    unfold firF
    rw [← this]
    exact h3
  | n + 1, i, ⟨k, h1, h2, h3⟩ => by
    unfold firF
    by_cases h : f i = M
    · rw [if_pos h]; exact h
    · rw [if_neg h]
      refine firF_in f M n (i + 1) ⟨k, ?_, by omega, h3⟩
      by_cases hk : k = i
      · rw [hk] at h3; exact absurd h3 h
      · omega
section HV
variable (hit : Nat → Int → Nat → Int) (nxt : Int → Nat → Int) (T n : Nat)
/-- the most with m hours left and lips l; there are T + 1 entries -/
def hvV : Nat → Int → Int
  | 0, _ => 0
  | m + 1, l => mostN (fun e => hit (n - (m + 1)) l e + hvV m (nxt l e)) (T + 1)
/-- what a code of m entries comes to -/
def hvH : Nat → Int → Nat → Int
  | 0, _, _ => 0
  | m + 1, l, q => hit (n - (m + 1)) l (q / (T + 1) ^ m) + hvH m (nxt l (q / (T + 1) ^ m)) (q % (T + 1) ^ m)
/-- the first entry that is good, and the first good code -/
def hvE (m : Nat) (l : Int) : Nat := firF (fun e => hit (n - (m + 1)) l e + hvV hit nxt T n m (nxt l e)) (hvV hit nxt T n (m + 1) l) T 0
def hvC : Nat → Int → Nat
  | 0, _ => 0
  | m + 1, l => hvE hit nxt T n m l * (T + 1) ^ m + hvC m (nxt l (hvE hit nxt T n m l))
variable {hit nxt T n}
theorem hvV_0 (h0 : ∀ k l e, 0 ≤ hit k l e) : ∀ m l, 0 ≤ hvV hit nxt T n m l
  | 0, _ => by unfold hvV; omega
  | m + 1, l => by
    have h := mostN_ge (v := fun e => hit (n - (m + 1)) l e + hvV hit nxt T n m (nxt l e)) (T + 1) 0 (by omega)
    have h1 := h0 (n - (m + 1)) l 0
    have h2 := hvV_0 h0 m (nxt l 0)
    have h : hit (n - (m + 1)) l 0 + hvV hit nxt T n m (nxt l 0) ≤ mostN (fun e => hit (n - (m + 1)) l e + hvV hit nxt T n m (nxt l e)) (T + 1) := h
    show 0 ≤ mostN (fun e => hit (n - (m + 1)) l e + hvV hit nxt T n m (nxt l e)) (T + 1)
    omega
theorem hvE_le (m : Nat) (l : Int) : hvE hit nxt T n m l ≤ T := by
  have := firF_le (fun e => hit (n - (m + 1)) l e + hvV hit nxt T n m (nxt l e)) (hvV hit nxt T n (m + 1) l) T 0
  unfold hvE
  omega
theorem hvE_in (h0 : ∀ k l e, 0 ≤ hit k l e) (m : Nat) (l : Int) : hit (n - (m + 1)) l (hvE hit nxt T n m l) + hvV hit nxt T n m (nxt l (hvE hit nxt T n m l)) = hvV hit nxt T n (m + 1) l := by
  obtain ⟨k, hk, e⟩ := mostN_in (v := fun e => hit (n - (m + 1)) l e + hvV hit nxt T n m (nxt l e)) (fun e => Int.add_nonneg (h0 _ _ _) (hvV_0 h0 _ _)) (T + 1) (by omega)
  exact firF_in (fun e => hit (n - (m + 1)) l e + hvV hit nxt T n m (nxt l e)) (hvV hit nxt T n (m + 1) l) T 0 ⟨k, by omega, by omega, e⟩
theorem hvC_lt : ∀ (m : Nat) (l : Int), hvC hit nxt T n m l < (T + 1) ^ m
  | 0, _ => by show 0 < 1; omega
  | m + 1, l => by
    have h1 := hvC_lt m (nxt l (hvE hit nxt T n m l))
    have h2 := hvE_le (hit := hit) (nxt := nxt) (T := T) (n := n) m l
    have h3 : hvE hit nxt T n m l * (T + 1) ^ m ≤ T * (T + 1) ^ m := Nat.mul_le_mul_right _ h2
    have e : (T + 1) ^ (m + 1) = T * (T + 1) ^ m + (T + 1) ^ m := by rw [Nat.pow_succ, Nat.mul_comm, Nat.succ_mul]
    show hvE hit nxt T n m l * (T + 1) ^ m + hvC hit nxt T n m (nxt l (hvE hit nxt T n m l)) < (T + 1) ^ (m + 1)
    omega
theorem hvH_le (h0 : ∀ k l e, 0 ≤ hit k l e) : ∀ (m : Nat) (l : Int) (q : Nat), q < (T + 1) ^ m → hvH hit nxt T n m l q ≤ hvV hit nxt T n m l
  | 0, _, _, _ => Int.le_refl _
  | m + 1, l, q, hq => by
    have hp : 0 < (T + 1) ^ m := Nat.pow_pos (by omega)
    have e : (T + 1) ^ (m + 1) = (T + 1) * (T + 1) ^ m := by rw [Nat.pow_succ, Nat.mul_comm]
    have hd : q / (T + 1) ^ m < T + 1 := Nat.div_lt_of_lt_mul (by rw [Nat.mul_comm, ← e]; exact hq)
    have h1 := hvH_le h0 m (nxt l (q / (T + 1) ^ m)) (q % (T + 1) ^ m) (Nat.mod_lt _ hp)
    have h2 := mostN_ge (v := fun e => hit (n - (m + 1)) l e + hvV hit nxt T n m (nxt l e)) (T + 1) (q / (T + 1) ^ m) hd
    have h2 : hit (n - (m + 1)) l (q / (T + 1) ^ m) + hvV hit nxt T n m (nxt l (q / (T + 1) ^ m)) ≤ mostN (fun e => hit (n - (m + 1)) l e + hvV hit nxt T n m (nxt l e)) (T + 1) := h2
    show hit (n - (m + 1)) l (q / (T + 1) ^ m) + hvH hit nxt T n m (nxt l (q / (T + 1) ^ m)) (q % (T + 1) ^ m) ≤ mostN (fun e => hit (n - (m + 1)) l e + hvV hit nxt T n m (nxt l e)) (T + 1)
    omega
theorem hvC_split (m : Nat) (l : Int) : hvC hit nxt T n (m + 1) l / (T + 1) ^ m = hvE hit nxt T n m l ∧ hvC hit nxt T n (m + 1) l % (T + 1) ^ m = hvC hit nxt T n m (nxt l (hvE hit nxt T n m l)) := by
  have hp : 0 < (T + 1) ^ m := Nat.pow_pos (by omega)
  have h1 := hvC_lt (hit := hit) (nxt := nxt) (T := T) (n := n) m (nxt l (hvE hit nxt T n m l))
  show (hvE hit nxt T n m l * (T + 1) ^ m + hvC hit nxt T n m (nxt l (hvE hit nxt T n m l))) / (T + 1) ^ m = _ ∧ (hvE hit nxt T n m l * (T + 1) ^ m + hvC hit nxt T n m (nxt l (hvE hit nxt T n m l))) % (T + 1) ^ m = _
  constructor
  · rw [Nat.add_comm, Nat.add_mul_div_right _ _ hp, Nat.div_eq_of_lt h1, Nat.zero_add]
  · rw [Nat.add_comm, Nat.add_mul_mod_self_right, Nat.mod_eq_of_lt h1]
theorem hvC_in (h0 : ∀ k l e, 0 ≤ hit k l e) : ∀ (m : Nat) (l : Int), hvH hit nxt T n m l (hvC hit nxt T n m l) = hvV hit nxt T n m l
  | 0, _ => rfl
  | m + 1, l => by
    have ⟨e1, e2⟩ := hvC_split (hit := hit) (nxt := nxt) (T := T) (n := n) m l
    show hit (n - (m + 1)) l (hvC hit nxt T n (m + 1) l / (T + 1) ^ m) + hvH hit nxt T n m (nxt l (hvC hit nxt T n (m + 1) l / (T + 1) ^ m)) (hvC hit nxt T n (m + 1) l % (T + 1) ^ m) = _
    rw [e1, e2, hvC_in h0 m, hvE_in h0]
theorem hvC_first (h0 : ∀ k l e, 0 ≤ hit k l e) : ∀ (m : Nat) (l : Int) (q : Nat), q < hvC hit nxt T n m l → hvH hit nxt T n m l q < hvV hit nxt T n m l
  | 0, l, q, h => by
    have h : q < 0 := h
    omega
  | m + 1, l, q, h => by
    have hp : 0 < (T + 1) ^ m := Nat.pow_pos (by omega)
    have ⟨e1, e2⟩ := hvC_split (hit := hit) (nxt := nxt) (T := T) (n := n) m l
    have hlt := hvC_lt (hit := hit) (nxt := nxt) (T := T) (n := n) (m + 1) l
    have hle : q / (T + 1) ^ m ≤ hvE hit nxt T n m l := by rw [← e1]; exact Nat.div_le_div_right (by omega)
    have q1 := hvH_le (hit := hit) (nxt := nxt) (T := T) (n := n) h0 m (nxt l (q / (T + 1) ^ m)) (q % (T + 1) ^ m) (Nat.mod_lt _ hp)
    show hit (n - (m + 1)) l (q / (T + 1) ^ m) + hvH hit nxt T n m (nxt l (q / (T + 1) ^ m)) (q % (T + 1) ^ m) < hvV hit nxt T n (m + 1) l
    by_cases he : q / (T + 1) ^ m = hvE hit nxt T n m l
    · have q2 : q % (T + 1) ^ m < hvC hit nxt T n m (nxt l (hvE hit nxt T n m l)) := by
        have a1 := Nat.div_add_mod q ((T + 1) ^ m)
        have a2 := Nat.div_add_mod (hvC hit nxt T n (m + 1) l) ((T + 1) ^ m)
        rw [e1, e2] at a2
        rw [he] at a1
        omega
      rw [he]
      have q3 := hvC_first h0 m (nxt l (hvE hit nxt T n m l)) _ q2
      have q4 := hvE_in (hit := hit) (nxt := nxt) (T := T) (n := n) h0 m l
      omega
    · have q2 := firF_first (fun e => hit (n - (m + 1)) l e + hvV hit nxt T n m (nxt l e)) (hvV hit nxt T n (m + 1) l) T 0 (q / (T + 1) ^ m) (Nat.zero_le _) (by show _ < hvE hit nxt T n m l; omega)
      have q2 : ¬ hit (n - (m + 1)) l (q / (T + 1) ^ m) + hvV hit nxt T n m (nxt l (q / (T + 1) ^ m)) = hvV hit nxt T n (m + 1) l := q2
      have q3 := hvE_le (hit := hit) (nxt := nxt) (T := T) (n := n) m l
      have q4 := mostN_ge (v := fun e => hit (n - (m + 1)) l e + hvV hit nxt T n m (nxt l e)) (T + 1) (q / (T + 1) ^ m) (by omega)
      have q4 : hit (n - (m + 1)) l (q / (T + 1) ^ m) + hvV hit nxt T n m (nxt l (q / (T + 1) ^ m)) ≤ hvV hit nxt T n (m + 1) l := q4
      omega
end HV
