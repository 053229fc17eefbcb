/-! what is meant, over a block c of the reference and over what all play p -/
theorem mul_bd {x y A B : Int} (hx : 0 ≤ x) (hA : x ≤ A) (hy : 0 ≤ y) (hB : y ≤ B) : 0 ≤ x * y ∧ x * y ≤ A * B :=
  ⟨Int.mul_nonneg hx hy, Int.mul_le_mul hA hB hy (by omega)⟩
theorem ex_some {a : Int} {P : Int → Prop} : (∃ v, some a = some v ∧ P v) = P a := by
  refine propext ⟨?_, fun h => ⟨a, rfl, h⟩⟩
  rintro ⟨v, h1, h2⟩
  cases h1
  exact h2
theorem cN1 : ((1 : Nat) : Int) = 1 := rfl
theorem zz3 {L L' : List Int} {R R' : List Nat} {s s' : SS} (h1 : L = L') (h2 : R = R') (h3 : s = s') : ((L, R, s) : ZZ) = (L', R', s') := by rw [h1, h2, h3]
theorem zz2 {L L' : List Int} {R : List Nat} {s : SS} (h1 : L = L') : ((L, R, s) : ZZ) = (L', R, s) := by rw [h1]
theorem ups_eq (σ : SS) (a k : Nat) (v : Int) (a' k' : Nat) : ups σ a k v a' k' = if a' = a ∧ k' = k then v else σ a' k' := rfl
theorem ncS (i : Nat) : ((i + 1 : Nat) : Int) = (i : Int) + 1 := rfl
theorem Wd_out {α β : Type} {x : Option (α × β)} {a : α} {b : β} (h : Wd x (fun r s => r = a ∧ s = b)) : x = some (a, b) := by
  obtain ⟨r, s, e, h1, h2⟩ := h
  rw [e, h1, h2]
theorem nn_iff {c : Prop} [Decidable c] : (¬ ¬ c) = c := propext Decidable.not_not
abbrev WH (c : Nat → Int) : Prop := (0 ≤ c 0 ∧ c 0 ≤ 6) ∧ (0 ≤ c 1 ∧ c 1 ≤ 5) ∧ (0 ≤ c 2 ∧ c 2 ≤ 6) ∧ (0 ≤ c 3 ∧ c 3 ≤ 6) ∧ (0 ≤ c 4 ∧ c 4 ≤ 9) ∧ (0 ≤ c 5 ∧ c 5 ≤ 9) ∧ (0 ≤ c 6 ∧ c 6 ≤ 16) ∧ (0 ≤ c 7 ∧ c 7 ≤ 12000) ∧ (0 ≤ c 8 ∧ c 8 ≤ 4) ∧ (0 ≤ c 9 ∧ c 9 ≤ 1)
abbrev enB (c : Nat → Int) (e : Int) : Prop := (0 ≤ e ∧ e < c 2) ∨ e = 6
abbrev WTi (c : Nat → Int) (t : Int) : Prop := (0 ≤ c (10 + t).toNat ∧ c (10 + t).toNat ≤ 20) ∧ (0 ≤ c (16 + t).toNat ∧ c (16 + t).toNat ≤ 9) ∧ (1 ≤ c (22 + t).toNat ∧ c (22 + t).toNat ≤ 99)
def WT (c : Nat → Int) : Prop := ∀ t : Int, 0 ≤ t → t < c 2 → WTi c t
abbrev WDi (c : Nat → Int) (b : Int) : Prop := (0 ≤ c (28 + b).toNat ∧ c (28 + b).toNat < c 0) ∧ (0 ≤ c (34 + b).toNat ∧ c (34 + b).toNat < c 1) ∧ (0 ≤ c (40 + b).toNat ∧ c (40 + b).toNat ≤ 20) ∧ (0 ≤ c (46 + b).toNat ∧ c (46 + b).toNat ≤ c (52 + b).toNat ∧ c (52 + b).toNat ≤ 99) ∧ (0 ≤ c (58 + b).toNat ∧ c (58 + b).toNat ≤ 2000000) ∧ (0 ≤ c (64 + b).toNat ∧ c (64 + b).toNat ≤ 6)
def WQ (c : Nat → Int) : Prop := ∀ b : Int, 0 ≤ b → b < c 3 → c (58 + b).toNat ≤ 90 * c 7
def WD (c : Nat → Int) : Prop := ∀ b : Int, 0 ≤ b → b < c 3 → WDi c b ∧ ∀ k : Int, 0 ≤ k → k < c (64 + b).toNat → enB c (c (70 + 6 * b + k).toNat)
def WP (c : Nat → Int) : Prop := ∀ k : Int, 0 ≤ k → k < 30 → (0 ≤ c (106 + k).toNat ∧ c (106 + k).toNat ≤ 1) ∧ (¬ (k % 6 < c 0 ∧ k / 6 < c 1) → c (106 + k).toNat = 0)
def WB (c : Nat → Int) : Prop := WH c ∧ WT c ∧ WD c ∧ WP c
def wantB (c : Nat → Int) (b h : Int) : Int := if c (64 + b).toNat = 0 then 6 else c (70 + 6 * b + h % c (64 + b).toNat).toNat
def playB (c : Nat → Int) (b : Int) : Int := if wantB c b (c 7) < 6 ∧ c (16 + wantB c b (c 7)).toNat ≤ c (46 + b).toNat then wantB c b (c 7) else 6
def tirB (c : Nat → Int) : Nat → Int
  | 0 => 0
  | b + 1 => if wantB c b (c 7) < 6 ∧ playB c b = 6 then orI (tirB c b) (shlI 1 b) else tirB c b
def fadeB (c : Nat → Int) (s way : Int) : Int := if c 8 = 4 then s * c 4 else if c 8 = way then s * (if 0 < c 4 - 1 then c 4 - 1 else 0) else s * (if c 8 = (way + 2) % 4 then c 4 + 1 else c 4)
def absB (d : Int) : Int := if 0 ≤ d then d else -d
def lossB (c : Nat → Int) (b x y : Int) : Int := fadeB c (absB (x - c (28 + b).toNat)) (if 0 < x - c (28 + b).toNat then 0 else 2) + fadeB c (absB (y - c (34 + b).toNat)) (if 0 < y - c (34 + b).toNat then 1 else 3) + 2 * c 9
def posB (n : Int) : Int := if 0 < n then n else 0
def hearB (c : Nat → Int) (b t x y : Int) : Int := if t = 6 then 0 else posB (c (40 + b).toNat + c (10 + t).toNat - lossB c b x y)
/-- the loudest among the first n bands, and who it is (-1 nobody, -2 several) -/
def mostN (v : Nat → Int) : Nat → Int
  | 0 => 0
  | n + 1 => if mostN v n < v n then v n else mostN v n
def whoN (v : Nat → Int) : Nat → Int
  | 0 => -1
  | n + 1 => if mostN v n < v n then (n : Int) else if v n = mostN v n ∧ 0 < v n then -2 else whoN v n
def noiB (c : Nat → Int) (p : Nat → Int) (x y : Int) : Nat → Int := fun b => hearB c b (p b) x y
def bn3 (c : Nat → Int) : Nat := (c 3).toNat
def holdB (c p : Nat → Int) (x y : Int) : Int := whoN (noiB c p x y) (bn3 c)
def loudB (c p : Nat → Int) (x y : Int) : Int := mostN (noiB c p x y) (bn3 c)
def sumN (f : Nat → Int) : Nat → Int
  | 0 => 0
  | n + 1 => sumN f n + f n
/-- over all cells, row by row -/
def sumC (c : Nat → Int) (f : Int → Int → Int) (n : Nat) : Int := sumN (fun k => f ((k : Int) % c 0) ((k : Int) / c 0)) n
def nC (c : Nat → Int) : Nat := (c 0 * c 1).toNat
def cellsB (c p : Nat → Int) (who : Int) : Int := sumC c (fun x y => if holdB c p x y = who then 1 else 0) (nC c)
def pondB (c : Nat → Int) (x y : Int) : Int := c (106 + 6 * y + x).toNat
def gainB (c p : Nat → Int) (who : Int) (n : Nat) : Int := sumC c (fun x y => if holdB c p x y = who then (if pondB c x y = 1 then 3 else 1) else 0) n
def lipsB (c p : Nat → Int) (b : Int) : Int := if p b.toNat < 6 then c (46 + b).toNat - c (16 + p b.toNat).toNat else if c (46 + b).toNat + c 5 < c (52 + b).toNat then c (46 + b).toNat + c 5 else c (52 + b).toNat
theorem absB_0 (d : Int) : 0 ≤ absB d := by unfold absB; split <;> omega
theorem absB_or (d : Int) : (absB d = d ∧ 0 ≤ d) ∨ (absB d = -d ∧ d < 0) := by unfold absB; split <;> omega
theorem fadeB_bd {c : Nat → Int} (h : WH c) {s way : Int} (h0 : 0 ≤ s) (h6 : s ≤ 6) : 0 ≤ fadeB c s way ∧ fadeB c s way ≤ 60 := by
  have p1 := mul_bd h0 h6 (show 0 ≤ c 4 by omega) (show c 4 ≤ 9 by omega)
  have p2 := mul_bd h0 h6 (show 0 ≤ c 4 + 1 by omega) (show c 4 + 1 ≤ 10 by omega)
  have p3 := mul_bd h0 h6 (show 0 ≤ (if 0 < c 4 - 1 then c 4 - 1 else 0) by split <;> omega) (show (if 0 < c 4 - 1 then c 4 - 1 else 0) ≤ 9 by split <;> omega)
  unfold fadeB
  split
  · omega
  · split
    · omega
    · split <;> omega
theorem posB_bd (n : Int) : 0 ≤ posB n ∧ (posB n ≤ n ∨ posB n = 0) := by unfold posB; split <;> omega
theorem lossB_bd {c : Nat → Int} (hw : WH c) (hd : WD c) {b x y : Int} (b0 : 0 ≤ b) (b1 : b < c 3) (hx : 0 ≤ x ∧ x ≤ 6) (hy : 0 ≤ y ∧ y ≤ 6) : 0 ≤ lossB c b x y ∧ lossB c b x y ≤ 122 := by
  have d1 := (hd b b0 b1).1
  have q1 := fadeB_bd hw (s := absB (x - c (28 + b).toNat)) (way := if 0 < x - c (28 + b).toNat then 0 else 2) (absB_0 _) (by unfold absB; split <;> omega)
  have q2 := fadeB_bd hw (s := absB (y - c (34 + b).toNat)) (way := if 0 < y - c (34 + b).toNat then 1 else 3) (absB_0 _) (by unfold absB; split <;> omega)
  unfold lossB
  omega
theorem hearB_bd {c : Nat → Int} (h : WH c) (ht : WT c) (hd : WD c) {b t x y : Int} (b0 : 0 ≤ b) (b1 : b < c 3) (he : enB c t) (hx : 0 ≤ x ∧ x ≤ 6) (hy : 0 ≤ y ∧ y ≤ 6) : 0 ≤ hearB c b t x y ∧ hearB c b t x y ≤ 40 := by
  have d1 := (hd b b0 b1).1
  have l1 := lossB_bd h hd b0 b1 hx hy
  unfold hearB
  by_cases h6 : t = 6
  · rw [if_pos h6]; omega
  · rw [if_neg h6]
    have t1 := ht t (by omega) (by omega)
    have p1 := posB_bd (c (40 + b).toNat + c (10 + t).toNat - lossB c b x y)
    omega
theorem wantB_en {c : Nat → Int} (hd : WD c) {b h : Int} (b0 : 0 ≤ b) (b1 : b < c 3) : enB c (wantB c b h) := by
  have ⟨d1, d2⟩ := hd b b0 b1
  unfold wantB
  split
  · exact Or.inr rfl
  · exact d2 _ (Int.emod_nonneg _ (by omega)) (Int.emod_lt_of_pos _ (by omega))
theorem playB_en {c : Nat → Int} (hd : WD c) {b : Int} (b0 : 0 ≤ b) (b1 : b < c 3) : enB c (playB c b) := by
  have h := wantB_en hd (h := c 7) b0 b1
  unfold playB
  split
  · exact h
  · exact Or.inr rfl
theorem tm_range {h l : Int} (hh : 0 ≤ h) (h0 : 0 < l) : Int.tmod h l = h % l ∧ 0 ≤ h % l ∧ h % l < l := by
  refine ⟨?_, Int.emod_nonneg _ (by omega), Int.emod_lt_of_pos _ h0⟩
  rw [Int.tmod_eq_emod_of_nonneg hh]
theorem td_range {h l : Int} (hh : 0 ≤ h) (h0 : 0 < l) : Int.tdiv h l = h / l ∧ 0 ≤ h / l := by
  refine ⟨?_, Int.ediv_nonneg hh (by omega)⟩
  rw [Int.tdiv_eq_ediv_of_nonneg hh]
theorem orI_0 (x : Int) (h : -2147483648 ≤ x ∧ x < 2147483648) : orI x 0 = x := by
  unfold orI
  have e : Int32.ofInt x ||| Int32.ofInt 0 = Int32.ofInt x := by
    show Int32.ofInt x ||| 0 = _
    exact Int32.or_zero
  rw [e]
  exact Int32.toInt_ofInt_of_le (by omega) (by omega)
theorem orI_rng (x y : Int) : -2147483648 ≤ orI x y ∧ orI x y < 2147483648 := by
  unfold orI
  have h1 := Int32.le_toInt (Int32.ofInt x ||| Int32.ofInt y)
  have h2 := Int32.toInt_lt (Int32.ofInt x ||| Int32.ofInt y)
  omega
theorem tirB_rng (c : Nat → Int) (n : Nat) : -2147483648 ≤ tirB c n ∧ tirB c n < 2147483648 := by
  induction n with
  | zero => unfold tirB; omega
  | succ n ih =>
    unfold tirB
    split
    · exact orI_rng _ _
    · exact ih
theorem whoN_rng (v : Nat → Int) (n : Nat) : -2 ≤ whoN v n ∧ whoN v n < n := by
  induction n with
  | zero => unfold whoN; omega
  | succ n ih =>
    unfold whoN
    split
    · omega
    · split <;> omega
theorem mostN_le {v : Nat → Int} {B : Int} (hB : 0 ≤ B) : ∀ n : Nat, (∀ k : Nat, k < n → v k ≤ B) → 0 ≤ mostN v n ∧ mostN v n ≤ B
  | 0, _ => by unfold mostN; omega
  | n + 1, h => by
    have ih := mostN_le hB n (fun k hk => h k (by omega))
    have hn := h n (by omega)
    unfold mostN
    split <;> omega
theorem sumN_bd {f : Nat → Int} {B : Int} (hB : 0 ≤ B) : ∀ n : Nat, (∀ k : Nat, k < n → 0 ≤ f k ∧ f k ≤ B) → 0 ≤ sumN f n ∧ sumN f n ≤ B * n
  | 0, _ => by unfold sumN; omega
  | n + 1, h => by
    have ih := sumN_bd hB n (fun k hk => h k (by omega))
    have hn := h n (by omega)
    unfold sumN
    have e : B * ((n + 1 : Nat) : Int) = B * n + B := by rw [ncS, Int.mul_add, Int.mul_one]
    omega
theorem sumN_congr {f g : Nat → Int} : ∀ n : Nat, (∀ k : Nat, k < n → f k = g k) → sumN f n = sumN g n
  | 0, _ => rfl
  | n + 1, h => by
    unfold sumN
    rw [sumN_congr n (fun k hk => h k (by omega)), h n (by omega)]
theorem mostN_congr {f g : Nat → Int} : ∀ n : Nat, (∀ k : Nat, k < n → f k = g k) → mostN f n = mostN g n
  | 0, _ => rfl
  | n + 1, h => by
    unfold mostN
    rw [mostN_congr n (fun k hk => h k (by omega)), h n (by omega)]
theorem whoN_congr {f g : Nat → Int} : ∀ n : Nat, (∀ k : Nat, k < n → f k = g k) → whoN f n = whoN g n
  | 0, _ => rfl
  | n + 1, h => by
    unfold whoN
    rw [mostN_congr n (fun k hk => h k (by omega)), whoN_congr n (fun k hk => h k (by omega)), h n (by omega)]
/-- the cell at column x of row y is the (y * wide + x)-th -/
theorem cell_xy {W x y : Int} (hx : 0 ≤ x) (hW : x < W) : (y * W + x) % W = x ∧ (y * W + x) / W = y := by
  have hw : W ≠ 0 := by omega
  constructor
  · rw [Int.add_comm, Int.add_mul_emod_self_right, Int.emod_eq_of_lt hx hW]
  · rw [Int.add_comm, Int.add_mul_ediv_right _ _ hw, Int.ediv_eq_zero_of_lt hx hW, Int.zero_add]
theorem ups_ups (σ : SS) (a k : Nat) (v v' : Int) : ups (ups σ a k v) a k v' = ups σ a k v' := by
  funext x y
  unfold ups
  split <;> rfl
theorem ups_fl {σ : SS} {a i a' k : Nat} {g : Nat → Int} {v : Int} (h : a' ≠ a) : ups (fl σ a i g) a' k v = fl (ups σ a' k v) a i g := by
  funext x y
  have e : ups σ a' k v a = σ a := upsA (fun q => h q.symm)
  unfold fl
  rw [e, ups_eq]
  by_cases hx : x = a
  · subst hx
    rw [if_neg (fun q => h q.1.symm), upA_same, upA_same]
  · rw [upA_ne hx, upA_ne hx, ups_eq]
