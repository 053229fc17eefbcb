/-! numbers as integers; states; the words between a state and a heap -/
abbrev SS : Type := Nat → Nat → Int
abbrev ZZ : Type := List Int × List Nat × SS
abbrev GG : Type := List (Nat × Nat)
def wI (x : Int) : Int := (x + 2147483648) % 4294967296 - 2147483648
def wL (x : Int) : Int := (x + 9223372036854775808) % 18446744073709551616 - 9223372036854775808
def inI (x : Int) : Prop := -2147483648 ≤ x ∧ x < 2147483648
def inL (x : Int) : Prop := -9223372036854775808 ≤ x ∧ x < 9223372036854775808
def rng (k : Nat) (x : Int) : Prop := match k with
  | 1 => inL x
  | 2 => True
  | 5 => True
  | _ => inI x
def vI (x : Int) : Value := .int (Int32.ofInt x)
def vL (x : Int) : Value := .long (Int64.ofInt x)
def vK (b k : Nat) (x : Int) (r : Nat) : Value := match k with
  | 1 => vL x
  | 2 => .ref (b + r)
  | 5 => .ref r
  | _ => vI x
theorem inI_w (x : Int) : inI (wI x) := by unfold inI wI; omega
theorem inL_w (x : Int) : inL (wL x) := by unfold inL wL; omega
theorem wI_id {x : Int} (h : inI x) : wI x = x := by unfold inI at h; unfold wI; omega
theorem wL_id {x : Int} (h : inL x) : wL x = x := by unfold inL at h; unfold wL; omega
theorem wI_bmod (x : Int) : wI x = x.bmod (2 ^ 32) := by
  rw [Int.bmod_def]
  unfold wI
  split <;> omega
theorem wL_bmod (x : Int) : wL x = x.bmod (2 ^ 64) := by
  rw [Int.bmod_def]
  unfold wL
  split <;> omega
theorem ofI_w (x : Int) : Int32.ofInt (wI x) = Int32.ofInt x := by
  apply Int32.toInt_inj.mp
  rw [Int32.toInt_ofInt, Int32.toInt_ofInt, wI_bmod]
  exact Int.bmod_bmod
theorem ofL_w (x : Int) : Int64.ofInt (wL x) = Int64.ofInt x := by
  apply Int64.toInt_inj.mp
  rw [Int64.toInt_ofInt, Int64.toInt_ofInt, wL_bmod]
  exact Int.bmod_bmod
theorem toI_of (x : Int) : (Int32.ofInt x).toInt = wI x := by rw [Int32.toInt_ofInt, wI_bmod]
theorem toL_of (x : Int) : (Int64.ofInt x).toInt = wL x := by rw [Int64.toInt_ofInt, wL_bmod]
theorem toI_in {x : Int} (h : inI x) : (Int32.ofInt x).toInt = x := by rw [toI_of, wI_id h]
theorem toL_in {x : Int} (h : inL x) : (Int64.ofInt x).toInt = x := by rw [toL_of, wL_id h]
theorem inI_toInt (x : Int32) : inI x.toInt := ⟨x.le_toInt, x.toInt_lt⟩
theorem inL_toInt (x : Int64) : inL x.toInt := ⟨x.le_toInt, x.toInt_lt⟩
theorem ofI_inj {x y : Int} (hx : inI x) (hy : inI y) : Int32.ofInt x = Int32.ofInt y ↔ x = y :=
  ⟨fun h => by rw [← toI_in hx, ← toI_in hy, h], fun h => by rw [h]⟩
theorem ofI_lt {x y : Int} (hx : inI x) (hy : inI y) : Int32.ofInt x < Int32.ofInt y ↔ x < y := by
  rw [Int32.lt_iff_toInt_lt, toI_in hx, toI_in hy]
theorem ofI_le {x y : Int} (hx : inI x) (hy : inI y) : Int32.ofInt x ≤ Int32.ofInt y ↔ x ≤ y := by
  rw [Int32.le_iff_toInt_le, toI_in hx, toI_in hy]
theorem inI_0 : inI 0 := by unfold inI; omega
theorem ofI_0 : (0 : Int32) = Int32.ofInt 0 := by decide +kernel
theorem ofI_cl {x : Int} (h : inI x) : (Int32.ofInt x).toNatClampNeg = x.toNat := by
  show (Int32.ofInt x).toInt.toNat = x.toNat
  rw [toI_in h]
theorem ofI_vin {x : Int} {n : Nat} (h : inI x) (h0 : 0 ≤ x) (h1 : x < n) : vp_in (Int32.ofInt x) n := by
  unfold vp_in
  rw [ofI_cl h, ofI_0, ofI_lt h inI_0]
  omega
/-- bits, by the machine's own words -/
def andI (x y : Int) : Int := (Int32.ofInt x &&& Int32.ofInt y).toInt
def orI (x y : Int) : Int := (Int32.ofInt x ||| Int32.ofInt y).toInt
def xorI (x y : Int) : Int := (Int32.ofInt x ^^^ Int32.ofInt y).toInt
def shlI (x y : Int) : Int := (Int32.ofInt x <<< (Int32.ofInt y &&& 31)).toInt
def shrI (x y : Int) : Int := (Int32.ofInt x >>> (Int32.ofInt y &&& 31)).toInt
def ushrI (x y : Int) : Int := ((Int32.ofInt x).toUInt32 >>> ((Int32.ofInt y).toUInt32 &&& Int32.toUInt32 31)).toInt32.toInt
def i2b (x : Int) : Int := (Int32.ofInt x).toInt8.toInt32.toInt
def i2s (x : Int) : Int := (Int32.ofInt x).toInt16.toInt32.toInt
def nrB (x : Int) : Int := (vp_nar .byte (Int32.ofInt x)).toInt
def nrZ (x : Int) : Int := (vp_nar .boolean (Int32.ofInt x)).toInt
theorem ofI_div {x y : Int} (hx : inI x) (hy : inI y) : Int32.ofInt (wI (x.tdiv y)) = Int32.ofInt x / Int32.ofInt y := by
  apply Int32.toInt_inj.mp
  rw [Int32.toInt_div, toI_of, toI_in hx, toI_in hy, wI_bmod, wI_bmod]
  exact Int.bmod_bmod
theorem ofI_rem {x y : Int} (hx : inI x) (hy : inI y) : Int32.ofInt (wI (x.tmod y)) = Int32.ofInt x - Int32.ofInt x / Int32.ofInt y * Int32.ofInt y := by
  rw [ofI_w, Int.tmod_def, Int32.ofInt_sub, Int.mul_comm, Int32.ofInt_mul, ← ofI_div hx hy, ofI_w]
theorem ofL_div {x y : Int} (hx : inL x) (hy : inL y) : Int64.ofInt (wL (x.tdiv y)) = Int64.ofInt x / Int64.ofInt y := by
  apply Int64.toInt_inj.mp
  rw [Int64.toInt_div, toL_of, toL_in hx, toL_in hy, wL_bmod, wL_bmod]
  exact Int.bmod_bmod
theorem ofL_rem {x y : Int} (hx : inL x) (hy : inL y) : Int64.ofInt (wL (x.tmod y)) = Int64.ofInt x - Int64.ofInt x / Int64.ofInt y * Int64.ofInt y := by
  rw [ofL_w, Int.tmod_def, Int64.ofInt_sub, Int.mul_comm, Int64.ofInt_mul, ← ofL_div hx hy, ofL_w]
theorem ofL_inj {x y : Int} (hx : inL x) (hy : inL y) : Int64.ofInt x = Int64.ofInt y ↔ x = y :=
  ⟨fun h => by rw [← toL_in hx, ← toL_in hy, h], fun h => by rw [h]⟩
theorem ofL_lt {x y : Int} (hx : inL x) (hy : inL y) : Int64.ofInt x < Int64.ofInt y ↔ x < y := by
  rw [Int64.lt_iff_toInt_lt, toL_in hx, toL_in hy]
theorem inL_of {x : Int} (h : inI x) : inL x := by unfold inI at h; unfold inL; omega
theorem i2l_of {x : Int} (h : inI x) : (Int32.ofInt x).toInt64 = Int64.ofInt x := by
  apply Int64.toInt_inj.mp
  rw [Int32.toInt_toInt64, toI_in h, toL_in (inL_of h)]
/-- lcmp -/
def cmpL (x y : Int) : Int := if y < x then 1 else if x = y then 0 else -1
theorem cmpL_of {x y : Int} (hx : inL x) (hy : inL y) : lg_cmp (Int64.ofInt x) (Int64.ofInt y) = Int32.ofInt (cmpL x y) := by
  unfold lg_cmp cmpL
  simp only [gt_iff_lt, ofL_lt hy hx, ofL_inj hx hy]
  split
  · decide +kernel
  · split <;> decide +kernel
theorem inI_cmpL (x y : Int) : inI (cmpL x y) := by
  unfold cmpL inI
  split
  · omega
  · split <;> omega
/-- a cell of the layout, as the kit's worlds have it -/
def cE (tc : Nat → ClassId) (b : Nat) (σ : SS) (a : Nat) : Option va_E := match (sh a).1 with
  | 1 => some (.inr ((sh a).2.1, (fkX (sh a).2.1).mapIdx fun k kd => vK b kd (σ a k) (rf a k)))
  | 2 => some (.inl (tc 0, (sh a).2.2, .inl fun j => Int32.ofInt (σ a j)))
  | 3 => some (.inl (tc 1, (sh a).2.2, .inr (.inl fun j => Int64.ofInt (σ a j))))
  | 4 => some (.inl (tc 2, (sh a).2.2, .inl fun j => Int32.ofInt (σ a j)))
  | 5 => some (.inl (tc 3, (sh a).2.2, .inl fun j => Int32.ofInt (σ a j)))
  | 6 => some (.inl (tc (sh a).2.1, (sh a).2.2, .inr (.inr (.inr (.inr fun j => some (b + rf a j))))))
  | _ => none
def Hp (D : va_G) (tc : Nat → ClassId) (b : Nat) (σ : SS) (H : Heap) : Prop := ∀ (a : Nat) (e : va_E), cE tc b σ a = some e → va_at D vwCl (b + a, e) H
abbrev tysL (tc : Nat → ClassId) : List (ClassId × FieldType) := [(tc 0, .int), (tc 1, .long), (tc 2, .byte), (tc 3, .boolean), (tc 4, .object RX9), (tc 5, .object RX3), (tc 6, .object RX10), (tc 7, .object RX0), (tc 8, .array .int)]
def kd (a k : Nat) : Nat := match (sh a).1 with
  | 1 => (fkX (sh a).2.1).getD k 0
  | 3 => 1
  | _ => 0
def okS (σ : SS) : Prop := ∀ a k, rng (kd a k) (σ a k)
def okL (nL : Nat) (Γ : GG) (z : ZZ) : Prop := z.1.length = nL ∧ z.2.1.length = nL ∧ ∀ q ∈ Γ, rng q.2 (z.1.getD q.1 0)
def lvG (b : Nat) (Γ : GG) (z : ZZ) : List (Nat × Value) := Γ.map fun q => (q.1, vK b q.2 (z.1.getD q.1 0) (z.2.1.getD q.1 0))
/-- the cells of the layout, by their addresses -/
def AA (b : Nat) (q : Nat) : Prop := ∃ a : Nat, q = b + a ∧ (sh a).1 ≠ 0
def ups (σ : SS) (a k : Nat) (v : Int) : SS := fun a' k' => if a' = a ∧ k' = k then v else σ a' k'
/-- where the machine stands: it comes from here to a good end -/
def At (p : Program) (l : Launch) (e : Env) (R : Room) (s : State) (m : MethodId) (args : Array Value) (below : List Frame) (meth : Method) (c : Code) (cells slots : Nat) (Q : State → Prop) (nL : Nat) (D : va_G) (tc : Nat → ClassId) (b : Nat) : Nat → GG → ZZ → List Value → Prop := fun pc Γ z st =>
  okS z.2.2 → okL nL Γ z → ∀ (ls : Array Slot) (H : Heap) (locs : List Loc), lv_has ls nL (lvG b Γ z) → Hp D tc b z.2.2 H → va_S (AA b) s.heap H locs → W p l e R s m args below meth c H locs cells slots Q (F0 m pc ls st)
/-- the words that every method may use -/
def gtb : List Cond := lw_tbl.filter goodWord
theorem gtb_good {s : State} {args : Array Value} (h : ∀ w ∈ gtb, w.before args s = true) : ∀ w ∈ gtb, ∀ (a' : Array Value) (U : State), s.WarmedH U.vm → w.before a' U = true :=
  fun w hw a' U hW => word_at hW (good_of_word (List.mem_filter.mp hw).2) (h w hw)
