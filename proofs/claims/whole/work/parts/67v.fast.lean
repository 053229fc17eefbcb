/-! evaluating without looking at what isn't reached -/
def iffM (o : Option (Bool × SS)) (f g : XS) (z : ZZ) : Option (OO × ZZ) := match o with
  | some (y, s) => if y = true then f (z.1, z.2.1, s) else g (z.1, z.2.1, s)
  | none => none
theorem w_iff {c : XC} {f g : XS} {z : ZZ} : iff c f g z = iffM (c z) f g z := by
  unfold iff iffM bn
  cases c z <;> rfl
theorem iffM_t {s : SS} {f g : XS} {z : ZZ} : iffM (some (true, s)) f g z = f (z.1, z.2.1, s) := Eq.trans rfl rfl
theorem iffM_f {s : SS} {f g : XS} {z : ZZ} : iffM (some (false, s)) f g z = g (z.1, z.2.1, s) := Eq.trans rfl rfl
theorem iffM_d {P : Prop} [Decidable P] {s : SS} {f g : XS} {z : ZZ} : iffM (some (decide P, s)) f g z = if P then f (z.1, z.2.1, s) else g (z.1, z.2.1, s) := by
  show (if decide P = true then _ else _) = _
  by_cases h : P
  · rw [if_pos h, if_pos (decide_eq_true h)]
  · rw [if_neg h, if_neg (by rw [decide_eq_false h]; decide)]
theorem iffM_nd {P : Prop} [Decidable P] {s : SS} {f g : XS} {z : ZZ} : iffM (some (!decide P, s)) f g z = if P then g (z.1, z.2.1, s) else f (z.1, z.2.1, s) := by
  show (if (!decide P) = true then _ else _) = _
  by_cases h : P
  · rw [if_pos h, if_neg (by rw [decide_eq_true h]; decide)]
  · rw [if_neg h, if_pos (by rw [decide_eq_false h]; decide)]
theorem iffM_0 {f g : XS} {z : ZZ} : iffM none f g z = none := Eq.trans rfl rfl
theorem iffM_ite {c : Prop} [Decidable c] {a b : Option (Bool × SS)} {f g : XS} {z : ZZ} : iffM (if c then a else b) f g z = if c then iffM a f g z else iffM b f g z := by split <;> rfl
theorem Wd_iffM {x : Option (Bool × SS)} {f g : XS} {z : ZZ} {Q : OO → ZZ → Prop} : Wd (iffM x f g z) Q = Wd x (fun y s => Wd (iffM (some (y, s)) f g z) Q) := by
  cases x with
  | none => refine propext ⟨?_, ?_⟩ <;> (rintro ⟨a, b, e, _⟩; cases e)
  | some y => obtain ⟨a, s⟩ := y; rw [Wd_some]
theorem iffM_v {y : Bool} {s : SS} {f g : XS} {z : ZZ} : iffM (some (y, s)) f g z = if y = true then f (z.1, z.2.1, s) else g (z.1, z.2.1, s) := Eq.trans rfl rfl
def ternM (o : Option (Bool × SS)) (f g : XI) (z : ZZ) : Option (Int × SS) := match o with
  | some (y, s) => if y = true then f (z.1, z.2.1, s) else g (z.1, z.2.1, s)
  | none => none
theorem w_tern {c : XC} {f g : XI} {z : ZZ} : tern c f g z = ternM (c z) f g z := by
  unfold tern ternM bn
  cases c z <;> rfl
theorem ternM_t {s : SS} {f g : XI} {z : ZZ} : ternM (some (true, s)) f g z = f (z.1, z.2.1, s) := Eq.trans rfl rfl
theorem ternM_f {s : SS} {f g : XI} {z : ZZ} : ternM (some (false, s)) f g z = g (z.1, z.2.1, s) := Eq.trans rfl rfl
theorem ternM_d {P : Prop} [Decidable P] {s : SS} {f g : XI} {z : ZZ} : ternM (some (decide P, s)) f g z = if P then f (z.1, z.2.1, s) else g (z.1, z.2.1, s) := by
  show (if decide P = true then _ else _) = _
  by_cases h : P
  · rw [if_pos h, if_pos (decide_eq_true h)]
  · rw [if_neg h, if_neg (by rw [decide_eq_false h]; decide)]
theorem ternM_nd {P : Prop} [Decidable P] {s : SS} {f g : XI} {z : ZZ} : ternM (some (!decide P, s)) f g z = if P then g (z.1, z.2.1, s) else f (z.1, z.2.1, s) := by
  show (if (!decide P) = true then _ else _) = _
  by_cases h : P
  · rw [if_pos h, if_neg (by rw [decide_eq_true h]; decide)]
  · rw [if_neg h, if_pos (by rw [decide_eq_false h]; decide)]
theorem ternM_0 {f g : XI} {z : ZZ} : ternM none f g z = none := Eq.trans rfl rfl
theorem ternM_ite {c : Prop} [Decidable c] {a b : Option (Bool × SS)} {f g : XI} {z : ZZ} : ternM (if c then a else b) f g z = if c then ternM a f g z else ternM b f g z := by split <;> rfl
theorem Wd_ternM {x : Option (Bool × SS)} {f g : XI} {z : ZZ} {Q : Int → SS → Prop} : Wd (ternM x f g z) Q = Wd x (fun y s => Wd (ternM (some (y, s)) f g z) Q) := by
  cases x with
  | none => refine propext ⟨?_, ?_⟩ <;> (rintro ⟨a, b, e, _⟩; cases e)
  | some y => obtain ⟨a, s⟩ := y; rw [Wd_some]
theorem ternM_v {y : Bool} {s : SS} {f g : XI} {z : ZZ} : ternM (some (y, s)) f g z = if y = true then f (z.1, z.2.1, s) else g (z.1, z.2.1, s) := Eq.trans rfl rfl
def swX (o : Option (Int × SS)) (f : Int → XS) (z : ZZ) : Option (OO × ZZ) := match o with
  | some (x, s) => swM (f x (z.1, z.2.1, s))
  | none => none
theorem w_sw {e : XI} {f : Int → XS} {z : ZZ} : sw e f z = swX (e z) f z := by
  rw [sw_eq]
  unfold swX bn
  cases e z <;> rfl
theorem swX_1 {x : Int} {s : SS} {f : Int → XS} {z : ZZ} : swX (some (x, s)) f z = swM (f x (z.1, z.2.1, s)) := Eq.trans rfl rfl
theorem Wd_swX {x : Option (Int × SS)} {f : Int → XS} {z : ZZ} {Q : OO → ZZ → Prop} : Wd (swX x f z) Q = Wd x (fun y s => Wd (swX (some (y, s)) f z) Q) := by
  cases x with
  | none => refine propext ⟨?_, ?_⟩ <;> (rintro ⟨a, b, e, _⟩; cases e)
  | some y => obtain ⟨a, s⟩ := y; rw [Wd_some]
