/-! what holds between the calls -/
def cb (σ : SS) (β : Nat) : Nat → Int := fun k => σ 244 (408 * β + k)
def wb (σ : SS) (β : Nat) : Nat → Int := fun k => σ 247 (12 * β + k)
/-- a block of the reference as it can be; B bounds the hour -/
def WfH (B : Int) (c : Nat → Int) : Prop := (0 ≤ c 0 ∧ c 0 ≤ 6) ∧ (0 ≤ c 1 ∧ c 1 ≤ 5) ∧ (c 0 = 0 ↔ c 1 = 0) ∧ (0 ≤ c 2 ∧ c 2 ≤ 6) ∧ (0 ≤ c 3 ∧ c 3 ≤ 6) ∧ (0 ≤ c 4 ∧ c 4 ≤ 9) ∧ (0 ≤ c 5 ∧ c 5 ≤ 9) ∧ (0 ≤ c 6 ∧ c 6 ≤ 16) ∧ (0 ≤ c 7 ∧ c 7 ≤ B) ∧ (0 ≤ c 8 ∧ c 8 ≤ 4) ∧ (c 9 = 0 ∨ c 9 = 1)
def WfT (c : Nat → Int) : Prop := ∀ i : Nat, (i : Int) < c 2 → (0 ≤ c (10 + i) ∧ c (10 + i) ≤ 20) ∧ (0 ≤ c (16 + i) ∧ c (16 + i) ≤ 9) ∧ (1 ≤ c (22 + i) ∧ c (22 + i) ≤ 99)
def enS (c : Nat → Int) (e : Int) : Prop := (0 ≤ e ∧ e < c 2) ∨ e = 6
def WfD (c : Nat → Int) : Prop := ∀ b : Nat, (b : Int) < c 3 → (0 ≤ c (28 + b) ∧ c (28 + b) < c 0) ∧ (0 ≤ c (34 + b) ∧ c (34 + b) < c 1) ∧ (0 ≤ c (40 + b) ∧ c (40 + b) ≤ 20) ∧ (0 ≤ c (46 + b) ∧ c (46 + b) ≤ c (52 + b) ∧ c (52 + b) ≤ 99) ∧ (0 ≤ c (58 + b) ∧ c (58 + b) ≤ 90 * c 7) ∧ (0 ≤ c (64 + b) ∧ c (64 + b) ≤ 6) ∧ ∀ k : Nat, (k : Int) < c (64 + b) → enS c (c (70 + 6 * b + k))
def WfP (c : Nat → Int) : Prop := ∀ k : Nat, k < 30 → (c (106 + k) = 0 ∨ c (106 + k) = 1) ∧ (¬ (((k % 6 : Nat) : Int) < c 0 ∧ ((k / 6 : Nat) : Int) < c 1) → c (106 + k) = 0)
/-- a step of the evenings: kind, what stands in it, where the next begins -/
def WfS (c : Nat → Int) (i : Nat) : Prop := (0 ≤ c (138 + 9 * i) ∧ c (138 + 9 * i) ≤ 9) ∧ ((i : Int) < c (146 + 9 * i) ∧ c (146 + 9 * i) ≤ c 137) ∧
  (c (138 + 9 * i) = 0 → 1 ≤ c (139 + 9 * i) ∧ c (139 + 9 * i) ≤ 20) ∧ (c (138 + 9 * i) = 1 → 0 ≤ c (139 + 9 * i) ∧ c (139 + 9 * i) ≤ 3) ∧ (c (138 + 9 * i) = 8 → 1 ≤ c (139 + 9 * i) ∧ c (139 + 9 * i) ≤ 99) ∧
  (c (138 + 9 * i) = 5 → (0 ≤ c (139 + 9 * i) ∧ c (139 + 9 * i) < c 3) ∧ (0 ≤ c (140 + 9 * i) ∧ c (140 + 9 * i) ≤ 5) ∧ enS c (c (141 + 9 * i))) ∧
  (c (138 + 9 * i) = 7 → (c (144 + 9 * i) = 2 ∨ (c (144 + 9 * i) = 1 ∧ 0 ≤ c (139 + 9 * i) ∧ c (139 + 9 * i) < c 3) ∨ (c (144 + 9 * i) = 0 ∧ (0 ≤ c (139 + 9 * i) ∧ c (139 + 9 * i) < c 3) ∧ (c (145 + 9 * i) = 60 ∨ c (145 + 9 * i) = 62 ∨ c (145 + 9 * i) = 61) ∧ 0 ≤ c (140 + 9 * i) ∧ c (140 + 9 * i) ≤ 30))) ∧
  (c (138 + 9 * i) < 7 ∨ c (138 + 9 * i) = 9 → c (146 + 9 * i) = i + 1)
def WfE (c : Nat → Int) : Prop := (c 136 = 0 ∨ c 136 = 1) ∧ (0 ≤ c 137 ∧ c 137 ≤ 30) ∧ ∀ i : Nat, (i : Int) < c 137 → WfS c i
def WfB (B : Int) (c : Nat → Int) : Prop := WfH B c ∧ WfT c ∧ WfD c ∧ WfP c ∧ WfE c
/-- a Park of the class at a tells the block c, with the names w -/
def PkH (σ : SS) (a : Nat) (c : Nat → Int) : Prop := σ a 0 = c 0 ∧ σ a 1 = c 1 ∧ σ a 2 = c 4 ∧ σ a 3 = c 5 ∧ σ a 4 = c 6 ∧ σ a 5 = c 7 ∧ σ a 6 = c 8 ∧ σ a 7 = c 9 ∧ σ a 9 = c 2 ∧ σ a 11 = c 3
def PkT (σ : SS) (a : Nat) (c w : Nat → Int) : Prop := ∀ i : Nat, (i : Int) < c 2 → σ (a + 11 + i) 0 = w i ∧ σ (a + 11 + i) 1 = c (10 + i) ∧ σ (a + 11 + i) 2 = c (16 + i) ∧ σ (a + 11 + i) 3 = c (22 + i)
def PkB (σ : SS) (a : Nat) (c w : Nat → Int) : Prop := ∀ b : Nat, (b : Int) < c 3 → σ (a + 17 + 2 * b) 0 = w (6 + b) ∧ σ (a + 17 + 2 * b) 1 = c (28 + b) ∧ σ (a + 17 + 2 * b) 2 = c (34 + b) ∧ σ (a + 17 + 2 * b) 3 = c (40 + b) ∧ σ (a + 17 + 2 * b) 4 = c (46 + b) ∧ σ (a + 17 + 2 * b) 5 = c (52 + b) ∧ σ (a + 17 + 2 * b) 6 = c (58 + b) ∧ σ (a + 17 + 2 * b) 7 = c (64 + b) ∧ ∀ k : Nat, (k : Int) < c (64 + b) → σ (a + 18 + 2 * b) k = c (70 + 6 * b + k)
def PkP (σ : SS) (a : Nat) (c : Nat → Int) : Prop := ∀ x y : Nat, (x : Int) < c 0 → (y : Int) < c 1 → σ (a + 1) (y * (c 0).toNat + x) = c (106 + 6 * y + x)
def wdS (k : Int) : Int := if k = 8 then 27 else if k = 9 then 29 else 16 + k
def EvS (σ : SS) (e : Nat) (c : Nat → Int) (i : Nat) : Prop := σ (e + 1) i = wdS (c (138 + 9 * i)) ∧ σ (e + 6) i = c (146 + 9 * i) ∧
  (c (138 + 9 * i) = 0 ∨ c (138 + 9 * i) = 1 ∨ c (138 + 9 * i) = 8 → σ (e + 4) i = c (139 + 9 * i)) ∧ (c (138 + 9 * i) = 5 → σ (e + 3) i = c (139 + 9 * i) ∧ σ (e + 4) i = c (140 + 9 * i) ∧ σ (e + 5) i = c (141 + 9 * i)) ∧
  (c (138 + 9 * i) = 7 → σ (e + 2) i = 24 + c (144 + 9 * i) ∧ (c (144 + 9 * i) ≠ 2 → σ (e + 3) i = c (139 + 9 * i)) ∧ (c (144 + 9 * i) = 0 → σ (e + 5) i = c (145 + 9 * i) ∧ σ (e + 4) i = c (140 + 9 * i)))
/-- Evenings of the class at e tell the steps of the block c -/
def EvR (σ : SS) (e : Nat) (c : Nat → Int) : Prop := σ e 0 = c 136 ∧ σ e 1 = c 137 ∧ ∀ i : Nat, (i : Int) < c 137 → EvS σ e c i
def Pk (σ : SS) (a : Nat) (c w : Nat → Int) : Prop := PkH σ a c ∧ PkT σ a c w ∧ PkB σ a c w ∧ PkP σ a c ∧ EvR σ (a + 4) c
/-- trays -/
def TrR (σ : SS) : Prop := ∀ t : Nat, t < 4 → (σ (144 + 2 * t) 0 = 1 ∧ σ 241 t = σ (144 + 2 * t) 2 ∧ (0 ≤ σ 241 t ∧ σ 241 t ≤ 60) ∧ σ 240 t = σ (144 + 2 * t) 1 ∧ (0 ≤ σ 240 t ∧ σ 240 t ≤ 3) ∧ ∀ k : Nat, (k : Int) < σ 241 t → σ (145 + 2 * t) k = σ 242 (60 * t + k)) ∨ (σ (144 + 2 * t) 0 = 0 ∧ σ 241 t = -1)
/-- the tape, the last fault, the fraction, the status, what was lived -/
def TpR (σ : SS) : Prop := σ 2 1 = σ 239 8 ∧ (0 ≤ σ 239 8 ∧ σ 239 8 ≤ 900) ∧ ∀ k : Nat, (k : Int) < σ 239 8 → σ 3 k = σ 243 k
def MiR (σ : SS) : Prop := σ 0 11 = σ 239 0 ∧ σ 0 14 = σ 239 2 ∧ σ 0 15 = σ 239 3 ∧ σ 0 12 = σ 239 10 ∧ σ 0 13 = σ 239 11 ∧ σ 0 9 = σ 239 36 ∧ ∀ k : Nat, k < 5 → σ 143 k = σ 253 k
def KwR (σ : SS) : Prop := ∀ k : Nat, k < 30 → σ 4 k = ([525899, 89, 197765, 595572, 495763, 540100, 677317, 409252, 671116, 2262675, 67012, 52, 674919554696, 402963, 17172275, 284264, 278194, 763332, 99725, 591150, 4697, 19636, 1497, 762030, 8892563, 21285028, 19370812871, 409072, 5572, 643568] : List Int).getD k 0
def MkR (σ : SS) : Prop := σ 0 10 = σ 239 24 ∧ (0 ≤ σ 239 24 ∧ σ 239 24 ≤ 3) ∧ ∀ j : Nat, (j : Int) < σ 239 24 → WfB 9999 (cb σ (1 + j)) ∧ Pk σ (152 + 29 * j) (cb σ (1 + j)) (wb σ (1 + j))
