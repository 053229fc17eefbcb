/-! pieces of source as functions of the state; which bytes do them -/
abbrev XI : Type := ZZ → Option (Int × SS)
abbrev XR : Type := ZZ → Option (Nat × SS)
abbrev XC : Type := ZZ → Option (Bool × SS)
abbrev OO : Type := Nat ⊕ Int
abbrev XS : Type := ZZ → Option (OO × ZZ)
def bn {α β : Type} (o : Option (α × SS)) (f : α → SS → Option β) : Option β := match o with
  | some q => f q.1 q.2
  | none => none
theorem bn_some {α β : Type} {x : α} {s : SS} {f : α → SS → Option β} : bn (some (x, s)) f = f x s := rfl
theorem bn_inv {α β : Type} {o : Option (α × SS)} {f : α → SS → Option β} {y : β} (h : bn o f = some y) : ∃ x s, o = some (x, s) ∧ f x s = some y := by
  cases o with
  | none => cases h
  | some q => exact ⟨q.1, q.2, rfl, h⟩
def lI (k : Nat) : XI := fun z => some (z.1.getD k 0, z.2.2)
def lR (k : Nat) : XR := fun z => some (z.2.1.getD k 0, z.2.2)
def cI (n : Int) : XI := fun z => some (n, z.2.2)
def gI (ci k : Nat) (r : XR) : XI := fun z => bn (r z) fun a s => if (sh a).1 = 1 ∧ (sh a).2.1 = ci then some (s a k, s) else none
def gR (ci k : Nat) (r : XR) : XR := fun z => bn (r z) fun a s => if (sh a).1 = 1 ∧ (sh a).2.1 = ci then some (rf a k, s) else none
def op2 (f : Int → Int → Option Int) (a b : XI) : XI := fun z => bn (a z) fun x s => bn (b (z.1, z.2.1, s)) fun y s2 => (f x y).map fun v => (v, s2)
def op1 (f : Int → Option Int) (a : XI) : XI := fun z => bn (a z) fun x s => (f x).map fun v => (v, s)
def arI (tag : Nat) (r : XR) (i : XI) : XI := fun z => bn (r z) fun a s => bn (i (z.1, z.2.1, s)) fun x s2 => if (sh a).1 = tag ∧ 0 ≤ x ∧ x < (sh a).2.2 then some (s2 a x.toNat, s2) else none
def arR (t : Nat) (r : XR) (i : XI) : XR := fun z => bn (r z) fun a s => bn (i (z.1, z.2.1, s)) fun x s2 => if ((sh a).1 = 6 ∧ (sh a).2.1 = t) ∧ 0 ≤ x ∧ x < (sh a).2.2 then some (rf a x.toNat, s2) else none
def alen (tag : Nat) (r : XR) : XI := fun z => bn (r z) fun a s => if (sh a).1 = tag then some (((sh a).2.2 : Int), s) else none
def tern (c : XC) (a b : XI) : XI := fun z => bn (c z) fun y s => if y = true then a (z.1, z.2.1, s) else b (z.1, z.2.1, s)
def cmp2 (f : Int → Int → Bool) (a b : XI) : XC := fun z => bn (a z) fun x s => bn (b (z.1, z.2.1, s)) fun y s2 => some (f x y, s2)
def cmp1 (f : Int → Bool) (a : XI) : XC := fun z => bn (a z) fun x s => some (f x, s)
def cAnd (a b : XC) : XC := fun z => bn (a z) fun y s => if y = true then b (z.1, z.2.1, s) else some (false, s)
def cOr (a b : XC) : XC := fun z => bn (a z) fun y s => if y = true then some (true, s) else b (z.1, z.2.1, s)
def cNot (a : XC) : XC := fun z => bn (a z) fun y s => some (!y, s)
def sk : XS := fun z => some (.inl 0, z)
def sq (f g : XS) : XS := fun z => match f z with
  | some (.inl 0, z1) => g z1
  | r => r
def asI (k : Nat) (e : XI) : XS := fun z => bn (e z) fun x s => some (.inl 0, (z.1.set k x, z.2.1, s))
def asR (k : Nat) (e : XR) : XS := fun z => bn (e z) fun x s => some (.inl 0, (z.1, z.2.1.set k x, s))
def inc (k : Nat) (n : Int) : XS := fun z => some (.inl 0, (z.1.set k (wI (z.1.getD k 0 + n)), z.2.1, z.2.2))
def pfI (ci k : Nat) (r : XR) (e : XI) : XS := fun z => bn (r z) fun a s => bn (e (z.1, z.2.1, s)) fun x s2 => if (sh a).1 = 1 ∧ (sh a).2.1 = ci then some (.inl 0, (z.1, z.2.1, ups s2 a k x)) else none
def pfZ (ci k : Nat) (r : XR) (e : XI) : XS := fun z => bn (r z) fun a s => bn (e (z.1, z.2.1, s)) fun x s2 => if ((sh a).1 = 1 ∧ (sh a).2.1 = ci) ∧ (x = 0 ∨ x = 1) then some (.inl 0, (z.1, z.2.1, ups s2 a k x)) else none
def pfO (ci k : Nat) (f : Int → Int → Option Int) (r : XR) (e : XI) : XS := fun z => bn (r z) fun a s => if (sh a).1 = 1 ∧ (sh a).2.1 = ci then bn (e (z.1, z.2.1, s)) fun y s2 => (f (s a k) y).map fun v => (.inl 0, (z.1, z.2.1, ups s2 a k v)) else none
def stO (tag : Nat) (x : Int) : Int := if tag = 4 then nrB x else if tag = 5 then nrZ x else x
def paI (tag : Nat) (r : XR) (i e : XI) : XS := fun z => bn (r z) fun a s => bn (i (z.1, z.2.1, s)) fun x s2 => bn (e (z.1, z.2.1, s2)) fun y s3 => if (sh a).1 = tag ∧ 0 ≤ x ∧ x < (sh a).2.2 then some (.inl 0, (z.1, z.2.1, ups s3 a x.toNat (stO tag y))) else none
def paO (tag : Nat) (f : Int → Int → Option Int) (r : XR) (i e : XI) : XS := fun z => bn (r z) fun a s => bn (i (z.1, z.2.1, s)) fun x s2 => if (sh a).1 = tag ∧ 0 ≤ x ∧ x < (sh a).2.2 then bn (e (z.1, z.2.1, s2)) fun y s3 => (f (s2 a x.toNat) y).map fun v => (.inl 0, (z.1, z.2.1, ups s3 a x.toNat v)) else none
def exI (e : XI) : XS := fun z => bn (e z) fun _ s => some (.inl 0, (z.1, z.2.1, s))
def iff (c : XC) (f g : XS) : XS := fun z => bn (c z) fun y s => if y = true then f (z.1, z.2.1, s) else g (z.1, z.2.1, s)
def rtI (e : XI) : XS := fun z => bn (e z) fun x s => some (.inr x, (z.1, z.2.1, s))
def rtZ (e : XI) : XS := fun z => bn (e z) fun x s => if x = 0 ∨ x = 1 then some (.inr x, (z.1, z.2.1, s)) else none
def rtV : XS := fun z => some (.inr 0, z)
def brk : XS := fun z => some (.inl 1, z)
def cnt : XS := fun z => some (.inl 2, z)
def blk (n : Nat) (f : XS) : XS := fun z => match f z with
  | some (o, z1) => some (o, (z1.1.take n ++ z.1.drop n, z1.2.1.take n ++ z.2.1.drop n, z1.2.2))
  | none => none
def sw (e : XI) (f : Int → XS) : XS := fun z => bn (e z) fun x s => match f x (z.1, z.2.1, s) with
  | some (.inl 1, z1) => some (.inl 0, z1)
  | r => r
def lpN (c : XC) (f u : XS) : Nat → XS
  | 0 => fun _ => none
  | n + 1 => fun z => bn (c z) fun y s => if y = true then (match f (z.1, z.2.1, s) with
      | some (.inl 1, z1) => some (.inl 0, z1)
      | some (.inl _, z1) => (match u z1 with
        | some (.inl 0, z2) => lpN c f u n z2
        | _ => none)
      | some (.inr r, z1) => some (.inr r, z1)
      | none => none) else some (.inl 0, (z.1, z.2.1, s))
noncomputable def lp (c : XC) (f u : XS) : XS := fun z => @dite _ (∃ r : OO × ZZ, ∃ n, lpN c f u n z = some r) (Classical.propDecidable _) (fun h => some (Classical.choose h)) (fun _ => none)
def dep (st : List Value) : Nat := (st.map fun v => v.category).sum
def EI (V : VV) (Γ : GG) (d p : Nat) (e : XI) (q : Nat) : Prop := ∀ (L : List Int) (R : List Nat) (σ : SS) (st : List Value) (x : Int) (σ' : SS), dep st ≤ d → e (L, R, σ) = some (x, σ') → (inI x → V q Γ (L, R, σ') (vI x :: st)) → V p Γ (L, R, σ) st
def EL (V : VV) (Γ : GG) (d p : Nat) (e : XI) (q : Nat) : Prop := ∀ (L : List Int) (R : List Nat) (σ : SS) (st : List Value) (x : Int) (σ' : SS), dep st ≤ d → e (L, R, σ) = some (x, σ') → (inL x → V q Γ (L, R, σ') (vL x :: st)) → V p Γ (L, R, σ) st
def EV (V : VV) (Γ : GG) (d p : Nat) (e : XI) (q : Nat) : Prop := ∀ (L : List Int) (R : List Nat) (σ : SS) (st : List Value) (x : Int) (σ' : SS), dep st ≤ d → e (L, R, σ) = some (x, σ') → V q Γ (L, R, σ') st → V p Γ (L, R, σ) st
def ER (b : Nat) (V : VV) (Γ : GG) (d p : Nat) (e : XR) (q : Nat) : Prop := ∀ (L : List Int) (R : List Nat) (σ : SS) (st : List Value) (x : Nat) (σ' : SS), dep st ≤ d → e (L, R, σ) = some (x, σ') → V q Γ (L, R, σ') (.ref (b + x) :: st) → V p Γ (L, R, σ) st
def EC (V : VV) (Γ : GG) (d p : Nat) (e : XC) (t f : Nat) : Prop := ∀ (L : List Int) (R : List Nat) (σ : SS) (st : List Value) (y : Bool) (σ' : SS), dep st ≤ d → e (L, R, σ) = some (y, σ') → (y = true → V t Γ (L, R, σ') st) → (y = false → V f Γ (L, R, σ') st) → V p Γ (L, R, σ) st
def exG (q : Nat) (Γ' : GG) (B K : Nat × GG) : Nat → Nat × GG
  | 0 => (q, Γ')
  | 1 => B
  | _ => K
def oK (V : VV) (Rt : Int → SS → Prop) (X : Nat → Nat × GG) (o : OO) (z : ZZ) : Prop := match o with
  | .inl k => V (X k).1 (X k).2 z []
  | .inr r => Rt r z.2.2
def SG (V : VV) (Rt : Int → SS → Prop) (Γ : GG) (p : Nat) (f : XS) (q : Nat) (Γ' : GG) (B K : Nat × GG) : Prop := ∀ (L : List Int) (R : List Nat) (σ : SS) (o : OO) (z' : ZZ), f (L, R, σ) = some (o, z') → oK V Rt (exG q Γ' B K) o z' → V p Γ (L, R, σ) []
theorem dep_i (x : Int) (st : List Value) : dep (vI x :: st) = dep st + 1 := by simp [dep, vI, Value.category, Nat.add_comm]
theorem dep_l (x : Int) (st : List Value) : dep (vL x :: st) = dep st + 2 := by simp [dep, vL, Value.category, Nat.add_comm]
theorem dep_r (x : Nat) (st : List Value) : dep (.ref x :: st) = dep st + 1 := by simp [dep, Value.category, Nat.add_comm]
theorem map_inv {α : Type} {o : Option Int} {f : Int → α} {y : α} (h : o.map f = some y) : ∃ v, o = some v ∧ f v = y := by
  cases o with
  | none => cases h
  | some v => exact ⟨v, rfl, Option.some.inj h⟩
theorem ite_inv {α : Type} {c : Prop} [Decidable c] {a : Option α} {y : α} (h : (if c then a else none) = some y) : c ∧ a = some y := by
  split at h
  · exact ⟨by assumption, h⟩
  · cases h
def inIb (n : Int) : Bool := decide (-2147483648 ≤ n) && decide (n < 2147483648)
def inLb (n : Int) : Bool := decide (-9223372036854775808 ≤ n) && decide (n < 9223372036854775808)
def i8b (n : Int) : Bool := decide (-128 ≤ n) && decide (n < 128)
def i16b (n : Int) : Bool := decide (-32768 ≤ n) && decide (n < 32768)
theorem inIb_of {n : Int} (h : inIb n = true) : inI n := by
  unfold inIb at h
  simp only [Bool.and_eq_true, decide_eq_true_eq] at h
  exact h
theorem inLb_of {n : Int} (h : inLb n = true) : inL n := by
  unfold inLb at h
  simp only [Bool.and_eq_true, decide_eq_true_eq] at h
  exact h
theorem i8_of {n : Int} (h : i8b n = true) : (Int8.ofInt n).toInt32 = Int32.ofInt n := by
  unfold i8b at h
  simp only [Bool.and_eq_true, decide_eq_true_eq] at h
  apply Int32.toInt_inj.mp
  rw [Int8.toInt_toInt32, toI_in (by unfold inI; omega)]
  exact Int8.toInt_ofInt_of_le (by omega) (by omega)
theorem i16_of {n : Int} (h : i16b n = true) : (Int16.ofInt n).toInt32 = Int32.ofInt n := by
  unfold i16b at h
  simp only [Bool.and_eq_true, decide_eq_true_eq] at h
  apply Int32.toInt_inj.mp
  rw [Int16.toInt_toInt32, toI_in (by unfold inI; omega)]
  exact Int16.toInt_ofInt_of_le (by omega) (by omega)
section SEG
variable {l : Launch} {b : Nat} {V : VV} {cc : ByteArray} {own : String} {nL h : Nat} {Γ : GG} {d p q r : Nat}
theorem i_ok (C : Ctx l b V cc own nL h) {pc : Nat} {z : ZZ} {st : List Value} (k : okS z.2.2 → okL nL Γ z → V pc Γ z st) : V pc Γ z st := by
  obtain ⟨p, e, Rm, s, m, args, below, meth, c, cells, slots, Q, D, tc, rfl, hx, hb, hml, hown, hts, hK, hfr, hlo, hce, hsl⟩ := C
  intro okσ okl
  exact k okσ okl okσ okl
theorem gt_of {w : Cond} (i : Nat) (h : lw_tbl[i]? = some w) (hg : goodWord w = true) : w ∈ gtb := List.mem_filter.mpr ⟨List.mem_of_getElem? h, hg⟩
theorem e_iconst (C : Ctx l b V cc own nL h) {n : Int} (hd : decode cc p = .ok (.iconst n, 1)) (hr : inIb n = true) {q9 : Nat} (hq : p + 1 = q9) : EI V Γ d p (cI n) q9 := by
  subst hq
  intro L R σ st x σ' hdp he k
  cases he
  exact i_iconst C hd (k (inIb_of hr))
theorem e_bipush (C : Ctx l b V cc own nL h) {n : Int} (hd : decode cc p = .ok (.bipush n, 2)) (hn : i8b n = true) (hr : inIb n = true) {q9 : Nat} (hq : p + 2 = q9) : EI V Γ d p (cI n) q9 := by
  subst hq
  intro L R σ st x σ' hdp he k
  cases he
  exact i_bipush C hd (i8_of hn) (k (inIb_of hr))
theorem e_sipush (C : Ctx l b V cc own nL h) {n : Int} (hd : decode cc p = .ok (.sipush n, 3)) (hn : i16b n = true) (hr : inIb n = true) {q9 : Nat} (hq : p + 3 = q9) : EI V Γ d p (cI n) q9 := by
  subst hq
  intro L R σ st x σ' hdp he k
  cases he
  exact i_sipush C hd (i16_of hn) (k (inIb_of hr))
theorem e_ldc (C : Ctx l b V cc own nL h) {n : Int} {i : Nat} (hd : decode cc p = .ok (.ldc i, 2)) (hn : Cond.constant own i (Int32.ofInt n) ∈ gtb) (hr : inIb n = true) {q9 : Nat} (hq : p + 2 = q9) : EI V Γ d p (cI n) q9 := by
  subst hq
  intro L R σ st x σ' hdp he k
  cases he
  exact i_ldc C hd hn (k (inIb_of hr))
theorem e_ldcw (C : Ctx l b V cc own nL h) {n : Int} {i : Nat} (hd : decode cc p = .ok (.ldc_w i, 3)) (hn : Cond.constant own i (Int32.ofInt n) ∈ gtb) (hr : inIb n = true) {q9 : Nat} (hq : p + 3 = q9) : EI V Γ d p (cI n) q9 := by
  subst hq
  intro L R σ st x σ' hdp he k
  cases he
  exact i_ldcw C hd hn (k (inIb_of hr))
theorem e_lconst (C : Ctx l b V cc own nL h) {n : Fin 2} {x : Int} (hd : decode cc p = .ok (.lconst n, 1)) (hn : Int64.ofNat (n : Nat) = Int64.ofInt x) (hr : inLb x = true) {q9 : Nat} (hq : p + 1 = q9) : EL V Γ d p (cI x) q9 := by
  subst hq
  intro L R σ st x σ' hdp he k
  cases he
  exact i_lconst C hd hn (k (inLb_of hr))
theorem e_ldc2 (C : Ctx l b V cc own nL h) {n : Int} {i : Nat} (hd : decode cc p = .ok (.ldc2_w i, 3)) (hn : Cond.constantLong own i (Int64.ofInt n) ∈ gtb) (hr : inLb n = true) {q9 : Nat} (hq : p + 3 = q9) : EL V Γ d p (cI n) q9 := by
  subst hq
  intro L R σ st x σ' hdp he k
  cases he
  exact i_ldc2 C hd hn (k (inLb_of hr))
theorem e_iload_n (C : Ctx l b V cc own nL h) {j : Fin 4} {i g : Nat} (hd : decode cc p = .ok (.iload_n j, 1)) (hj : (j : Nat) = i) (hg : Γ[g]? = some (i, 0)) {q9 : Nat} (hq : p + 1 = q9) : EI V Γ d p (lI i) q9 := by
  subst hq
  intro L R σ st x σ' hdp he k
  cases he
  exact i_ok C (fun okσ okl => i_iload_n C hd hj hg (k (okl.2.2 _ (List.mem_of_getElem? hg))))
theorem e_iload (C : Ctx l b V cc own nL h) {i g : Nat} (hd : decode cc p = .ok (.iload i, 2)) (hg : Γ[g]? = some (i, 0)) {q9 : Nat} (hq : p + 2 = q9) : EI V Γ d p (lI i) q9 := by
  subst hq
  intro L R σ st x σ' hdp he k
  cases he
  exact i_ok C (fun okσ okl => i_iload C hd hg (k (okl.2.2 _ (List.mem_of_getElem? hg))))
theorem e_lload_n (C : Ctx l b V cc own nL h) {j : Fin 4} {i g : Nat} (hd : decode cc p = .ok (.lload_n j, 1)) (hj : (j : Nat) = i) (hg : Γ[g]? = some (i, 1)) {q9 : Nat} (hq : p + 1 = q9) : EL V Γ d p (lI i) q9 := by
  subst hq
  intro L R σ st x σ' hdp he k
  cases he
  exact i_ok C (fun okσ okl => i_lload_n C hd hj hg (k (okl.2.2 _ (List.mem_of_getElem? hg))))
theorem e_lload (C : Ctx l b V cc own nL h) {i g : Nat} (hd : decode cc p = .ok (.lload i, 2)) (hg : Γ[g]? = some (i, 1)) {q9 : Nat} (hq : p + 2 = q9) : EL V Γ d p (lI i) q9 := by
  subst hq
  intro L R σ st x σ' hdp he k
  cases he
  exact i_ok C (fun okσ okl => i_lload C hd hg (k (okl.2.2 _ (List.mem_of_getElem? hg))))
theorem e_aload_n (C : Ctx l b V cc own nL h) {j : Fin 4} {i g : Nat} (hd : decode cc p = .ok (.aload_n j, 1)) (hj : (j : Nat) = i) (hg : Γ[g]? = some (i, 2)) {q9 : Nat} (hq : p + 1 = q9) : ER b V Γ d p (lR i) q9 := by
  subst hq
  intro L R σ st x σ' hdp he k
  cases he
  exact i_aload_n C hd hj hg k
theorem e_aload (C : Ctx l b V cc own nL h) {i g : Nat} (hd : decode cc p = .ok (.aload i, 2)) (hg : Γ[g]? = some (i, 2)) {q9 : Nat} (hq : p + 2 = q9) : ER b V Γ d p (lR i) q9 := by
  subst hq
  intro L R σ st x σ' hdp he k
  cases he
  exact i_aload C hd hg k
theorem e_gI (C : Ctx l b V cc own nL h) {e : XR} {ci fi index : Nat} (hr : ER b V Γ d p e q) (hf : FL own index ci fi 0) (hd : decode cc q = .ok (.getfield index, 3)) {q9 : Nat} (hq : q + 3 = q9) : EI V Γ d p (gI ci fi e) q9 := by
  subst hq
  intro L R σ st x σ' hdp he k
  obtain ⟨a, s, h1, h2⟩ := bn_inv he
  obtain ⟨⟨h3, h4⟩, h5⟩ := ite_inv h2
  cases h5
  refine hr L R σ st a _ hdp h1 (i_get C hf h3 h4 hd ?_)
  refine i_ok C (fun okσ okl => k ?_)
  have hk := okσ a fi
  obtain ⟨Cn, T, N, hc, hlt, hin, hlink, hkn⟩ := hf
  unfold kd at hk
  rw [h3, h4] at hk
  simp only [List.getD_eq_getElem?_getD, hkn, Option.getD_some] at hk
  exact hk
theorem e_gZ (C : Ctx l b V cc own nL h) {e : XR} {ci fi index : Nat} (hr : ER b V Γ d p e q) (hf : FL own index ci fi 3) (hd : decode cc q = .ok (.getfield index, 3)) {q9 : Nat} (hq : q + 3 = q9) : EI V Γ d p (gI ci fi e) q9 := by
  subst hq
  intro L R σ st x σ' hdp he k
  obtain ⟨a, s, h1, h2⟩ := bn_inv he
  obtain ⟨⟨h3, h4⟩, h5⟩ := ite_inv h2
  cases h5
  refine hr L R σ st a _ hdp h1 (i_get C hf h3 h4 hd ?_)
  refine i_ok C (fun okσ okl => k ?_)
  have hk := okσ a fi
  obtain ⟨Cn, T, N, hc, hlt, hin, hlink, hkn⟩ := hf
  unfold kd at hk
  rw [h3, h4] at hk
  simp only [List.getD_eq_getElem?_getD, hkn, Option.getD_some] at hk
  exact hk
theorem e_gL (C : Ctx l b V cc own nL h) {e : XR} {ci fi index : Nat} (hr : ER b V Γ d p e q) (hf : FL own index ci fi 1) (hd : decode cc q = .ok (.getfield index, 3)) {q9 : Nat} (hq : q + 3 = q9) : EL V Γ d p (gI ci fi e) q9 := by
  subst hq
  intro L R σ st x σ' hdp he k
  obtain ⟨a, s, h1, h2⟩ := bn_inv he
  obtain ⟨⟨h3, h4⟩, h5⟩ := ite_inv h2
  cases h5
  refine hr L R σ st a _ hdp h1 (i_get C hf h3 h4 hd ?_)
  refine i_ok C (fun okσ okl => k ?_)
  have hk := okσ a fi
  obtain ⟨Cn, T, N, hc, hlt, hin, hlink, hkn⟩ := hf
  unfold kd at hk
  rw [h3, h4] at hk
  simp only [List.getD_eq_getElem?_getD, hkn, Option.getD_some] at hk
  exact hk
theorem e_gR (C : Ctx l b V cc own nL h) {e : XR} {ci fi index : Nat} (hr : ER b V Γ d p e q) (hf : FL own index ci fi 2) (hd : decode cc q = .ok (.getfield index, 3)) {q9 : Nat} (hq : q + 3 = q9) : ER b V Γ d p (gR ci fi e) q9 := by
  subst hq
  intro L R σ st x σ' hdp he k
  obtain ⟨a, s, h1, h2⟩ := bn_inv he
  obtain ⟨⟨h3, h4⟩, h5⟩ := ite_inv h2
  cases h5
  refine hr L R σ st a _ hdp h1 (i_get C hf h3 h4 hd ?_)
  exact k
theorem e_bin {f : Int → Int → Option Int} {a c : XI} (h1 : EI V Γ d p a q) (h2 : EI V Γ (d + 1) q c r) (hi : ∀ (z : ZZ) (st : List Value) (x y v : Int), inI x → inI y → f x y = some v → (inI v → V (r + 1) Γ z (vI v :: st)) → V r Γ z (vI y :: vI x :: st)) {q9 : Nat} (hq : r + 1 = q9) : EI V Γ d p (op2 f a c) q9 := by
  subst hq
  intro L R σ st x σ' hdp he k
  obtain ⟨u, s, e1, e2⟩ := bn_inv he
  obtain ⟨y, s2, e3, e4⟩ := bn_inv e2
  obtain ⟨v, e5, e6⟩ := map_inv e4
  cases e6
  exact h1 L R σ st u s hdp e1 (fun hu => h2 L R s (vI u :: st) y _ (by rw [dep_i]; omega) e3 (fun hy => hi _ st u y _ hu hy e5 k))
theorem e_binL {f : Int → Int → Option Int} {a c : XI} (h1 : EL V Γ d p a q) (h2 : EL V Γ (d + 2) q c r) (hi : ∀ (z : ZZ) (st : List Value) (x y v : Int), inL x → inL y → f x y = some v → (inL v → V (r + 1) Γ z (vL v :: st)) → V r Γ z (vL y :: vL x :: st)) {q9 : Nat} (hq : r + 1 = q9) : EL V Γ d p (op2 f a c) q9 := by
  subst hq
  intro L R σ st x σ' hdp he k
  obtain ⟨u, s, e1, e2⟩ := bn_inv he
  obtain ⟨y, s2, e3, e4⟩ := bn_inv e2
  obtain ⟨v, e5, e6⟩ := map_inv e4
  cases e6
  exact h1 L R σ st u s hdp e1 (fun hu => h2 L R s (vL u :: st) y _ (by rw [dep_l]; omega) e3 (fun hy => hi _ st u y _ hu hy e5 k))
theorem b_iadd (C : Ctx l b V cc own nL h) (hd : decode cc r = .ok (.iadd, 1)) : ∀ (z : ZZ) (st : List Value) (x y v : Int), inI x → inI y → (fun x y => some (wI (x + y))) x y = some v → (inI v → V (r + 1) Γ z (vI v :: st)) → V r Γ z (vI y :: vI x :: st) := by
  intro z st x y v hx hy e k
  cases e
  exact i_iadd C hd (k (inI_w _))
theorem b_isub (C : Ctx l b V cc own nL h) (hd : decode cc r = .ok (.isub, 1)) : ∀ (z : ZZ) (st : List Value) (x y v : Int), inI x → inI y → (fun x y => some (wI (x - y))) x y = some v → (inI v → V (r + 1) Γ z (vI v :: st)) → V r Γ z (vI y :: vI x :: st) := by
  intro z st x y v hx hy e k
  cases e
  exact i_isub C hd (k (inI_w _))
theorem b_imul (C : Ctx l b V cc own nL h) (hd : decode cc r = .ok (.imul, 1)) : ∀ (z : ZZ) (st : List Value) (x y v : Int), inI x → inI y → (fun x y => some (wI (x * y))) x y = some v → (inI v → V (r + 1) Γ z (vI v :: st)) → V r Γ z (vI y :: vI x :: st) := by
  intro z st x y v hx hy e k
  cases e
  exact i_imul C hd (k (inI_w _))
theorem b_iand (C : Ctx l b V cc own nL h) (hd : decode cc r = .ok (.iand, 1)) : ∀ (z : ZZ) (st : List Value) (x y v : Int), inI x → inI y → (fun x y => some (andI x y)) x y = some v → (inI v → V (r + 1) Γ z (vI v :: st)) → V r Γ z (vI y :: vI x :: st) := by
  intro z st x y v hx hy e k
  cases e
  exact i_iand C hd (k (inI_toInt _))
theorem b_ior (C : Ctx l b V cc own nL h) (hd : decode cc r = .ok (.ior, 1)) : ∀ (z : ZZ) (st : List Value) (x y v : Int), inI x → inI y → (fun x y => some (orI x y)) x y = some v → (inI v → V (r + 1) Γ z (vI v :: st)) → V r Γ z (vI y :: vI x :: st) := by
  intro z st x y v hx hy e k
  cases e
  exact i_ior C hd (k (inI_toInt _))
theorem b_ixor (C : Ctx l b V cc own nL h) (hd : decode cc r = .ok (.ixor, 1)) : ∀ (z : ZZ) (st : List Value) (x y v : Int), inI x → inI y → (fun x y => some (xorI x y)) x y = some v → (inI v → V (r + 1) Γ z (vI v :: st)) → V r Γ z (vI y :: vI x :: st) := by
  intro z st x y v hx hy e k
  cases e
  exact i_ixor C hd (k (inI_toInt _))
theorem b_ishl (C : Ctx l b V cc own nL h) (hd : decode cc r = .ok (.ishl, 1)) : ∀ (z : ZZ) (st : List Value) (x y v : Int), inI x → inI y → (fun x y => some (shlI x y)) x y = some v → (inI v → V (r + 1) Γ z (vI v :: st)) → V r Γ z (vI y :: vI x :: st) := by
  intro z st x y v hx hy e k
  cases e
  exact i_ishl C hd (k (inI_toInt _))
theorem b_ishr (C : Ctx l b V cc own nL h) (hd : decode cc r = .ok (.ishr, 1)) : ∀ (z : ZZ) (st : List Value) (x y v : Int), inI x → inI y → (fun x y => some (shrI x y)) x y = some v → (inI v → V (r + 1) Γ z (vI v :: st)) → V r Γ z (vI y :: vI x :: st) := by
  intro z st x y v hx hy e k
  cases e
  exact i_ishr C hd (k (inI_toInt _))
theorem b_iushr (C : Ctx l b V cc own nL h) (hd : decode cc r = .ok (.iushr, 1)) : ∀ (z : ZZ) (st : List Value) (x y v : Int), inI x → inI y → (fun x y => some (ushrI x y)) x y = some v → (inI v → V (r + 1) Γ z (vI v :: st)) → V r Γ z (vI y :: vI x :: st) := by
  intro z st x y v hx hy e k
  cases e
  exact i_iushr C hd (k (inI_toInt _))
theorem b_ladd (C : Ctx l b V cc own nL h) (hd : decode cc r = .ok (.ladd, 1)) : ∀ (z : ZZ) (st : List Value) (x y v : Int), inL x → inL y → (fun x y => some (wL (x + y))) x y = some v → (inL v → V (r + 1) Γ z (vL v :: st)) → V r Γ z (vL y :: vL x :: st) := by
  intro z st x y v hx hy e k
  cases e
  exact i_ladd C hd (k (inL_w _))
theorem b_lsub (C : Ctx l b V cc own nL h) (hd : decode cc r = .ok (.lsub, 1)) : ∀ (z : ZZ) (st : List Value) (x y v : Int), inL x → inL y → (fun x y => some (wL (x - y))) x y = some v → (inL v → V (r + 1) Γ z (vL v :: st)) → V r Γ z (vL y :: vL x :: st) := by
  intro z st x y v hx hy e k
  cases e
  exact i_lsub C hd (k (inL_w _))
theorem b_lmul (C : Ctx l b V cc own nL h) (hd : decode cc r = .ok (.lmul, 1)) : ∀ (z : ZZ) (st : List Value) (x y v : Int), inL x → inL y → (fun x y => some (wL (x * y))) x y = some v → (inL v → V (r + 1) Γ z (vL v :: st)) → V r Γ z (vL y :: vL x :: st) := by
  intro z st x y v hx hy e k
  cases e
  exact i_lmul C hd (k (inL_w _))
theorem b_idiv (C : Ctx l b V cc own nL h) (hd : decode cc r = .ok (.idiv, 1)) : ∀ (z : ZZ) (st : List Value) (x y v : Int), inI x → inI y → (fun x y => if y ≠ 0 then some (wI (Int.tdiv x y)) else none) x y = some v → (inI v → V (r + 1) Γ z (vI v :: st)) → V r Γ z (vI y :: vI x :: st) := by
  intro z st x y v hx hy e k
  obtain ⟨h0, e⟩ := ite_inv e
  cases e
  exact i_idiv C hd hx hy h0 (k (inI_w _))
theorem b_irem (C : Ctx l b V cc own nL h) (hd : decode cc r = .ok (.irem, 1)) : ∀ (z : ZZ) (st : List Value) (x y v : Int), inI x → inI y → (fun x y => if y ≠ 0 then some (wI (Int.tmod x y)) else none) x y = some v → (inI v → V (r + 1) Γ z (vI v :: st)) → V r Γ z (vI y :: vI x :: st) := by
  intro z st x y v hx hy e k
  obtain ⟨h0, e⟩ := ite_inv e
  cases e
  exact i_irem C hd hx hy h0 (k (inI_w _))
theorem b_ldiv (C : Ctx l b V cc own nL h) (hd : decode cc r = .ok (.ldiv, 1)) : ∀ (z : ZZ) (st : List Value) (x y v : Int), inL x → inL y → (fun x y => if y ≠ 0 then some (wL (Int.tdiv x y)) else none) x y = some v → (inL v → V (r + 1) Γ z (vL v :: st)) → V r Γ z (vL y :: vL x :: st) := by
  intro z st x y v hx hy e k
  obtain ⟨h0, e⟩ := ite_inv e
  cases e
  exact i_ldiv C hd hx hy h0 (k (inL_w _))
theorem b_lrem (C : Ctx l b V cc own nL h) (hd : decode cc r = .ok (.lrem, 1)) : ∀ (z : ZZ) (st : List Value) (x y v : Int), inL x → inL y → (fun x y => if y ≠ 0 then some (wL (Int.tmod x y)) else none) x y = some v → (inL v → V (r + 1) Γ z (vL v :: st)) → V r Γ z (vL y :: vL x :: st) := by
  intro z st x y v hx hy e k
  obtain ⟨h0, e⟩ := ite_inv e
  cases e
  exact i_lrem C hd hx hy h0 (k (inL_w _))
theorem e_ineg (C : Ctx l b V cc own nL h) {a : XI} (h1 : EI V Γ d p a q) (hd : decode cc q = .ok (.ineg, 1)) {q9 : Nat} (hq : q + 1 = q9) : EI V Γ d p (op1 (fun x => some (wI (-x))) a) q9 := by
  subst hq
  intro L R σ st x σ' hdp he k
  obtain ⟨u, s, e1, e2⟩ := bn_inv he
  cases e2
  exact h1 L R σ st _ _ hdp e1 (fun hu => i_ineg C hd (k (inI_w _)))
theorem e_i2l (C : Ctx l b V cc own nL h) {a : XI} (h1 : EI V Γ d p a q) (hd : decode cc q = .ok (.i2l, 1)) {q9 : Nat} (hq : q + 1 = q9) : EL V Γ d p (op1 (fun x => some (x)) a) q9 := by
  subst hq
  intro L R σ st x σ' hdp he k
  obtain ⟨u, s, e1, e2⟩ := bn_inv he
  cases e2
  exact h1 L R σ st _ _ hdp e1 (fun hu => i_i2l C hd hu (k (inL_of hu)))
theorem e_l2i (C : Ctx l b V cc own nL h) {a : XI} (h1 : EL V Γ d p a q) (hd : decode cc q = .ok (.l2i, 1)) {q9 : Nat} (hq : q + 1 = q9) : EI V Γ d p (op1 (fun x => some (wI x)) a) q9 := by
  subst hq
  intro L R σ st x σ' hdp he k
  obtain ⟨u, s, e1, e2⟩ := bn_inv he
  cases e2
  exact h1 L R σ st _ _ hdp e1 (fun hu => i_l2i C hd (k (inI_w _)))
theorem e_i2b (C : Ctx l b V cc own nL h) {a : XI} (h1 : EI V Γ d p a q) (hd : decode cc q = .ok (.i2b, 1)) {q9 : Nat} (hq : q + 1 = q9) : EI V Γ d p (op1 (fun x => some (i2b x)) a) q9 := by
  subst hq
  intro L R σ st x σ' hdp he k
  obtain ⟨u, s, e1, e2⟩ := bn_inv he
  cases e2
  exact h1 L R σ st _ _ hdp e1 (fun hu => i_i2b C hd (k (inI_toInt _)))
theorem e_i2s (C : Ctx l b V cc own nL h) {a : XI} (h1 : EI V Γ d p a q) (hd : decode cc q = .ok (.i2s, 1)) {q9 : Nat} (hq : q + 1 = q9) : EI V Γ d p (op1 (fun x => some (i2s x)) a) q9 := by
  subst hq
  intro L R σ st x σ' hdp he k
  obtain ⟨u, s, e1, e2⟩ := bn_inv he
  cases e2
  exact h1 L R σ st _ _ hdp e1 (fun hu => i_i2s C hd (k (inI_toInt _)))
theorem e_iald (C : Ctx l b V cc own nL h) {e : XR} {i : XI} (h1 : ER b V Γ d p e q) (h2 : EI V Γ (d + 1) q i r) (hd : decode cc r = .ok (.iaload, 1)) {q9 : Nat} (hq : r + 1 = q9) : EI V Γ d p (arI 2 e i) q9 := by
  subst hq
  intro L R σ st x σ' hdp he k
  obtain ⟨a, s, e1, e2⟩ := bn_inv he
  obtain ⟨y, s2, e3, e4⟩ := bn_inv e2
  obtain ⟨⟨c1, c2, c3⟩, e5⟩ := ite_inv e4
  cases e5
  refine h1 L R σ st a s hdp e1 (h2 L R s (.ref (b + a) :: st) y _ (by rw [dep_r]; omega) e3 (fun hy => i_iald C c1 hy c2 c3 hd (i_ok C (fun okσ okl => k ?_))))
  have hk := okσ a y.toNat
  unfold kd at hk
  rw [c1] at hk
  exact hk
theorem e_bald (C : Ctx l b V cc own nL h) {e : XR} {i : XI} (h1 : ER b V Γ d p e q) (h2 : EI V Γ (d + 1) q i r) (hd : decode cc r = .ok (.baload, 1)) {q9 : Nat} (hq : r + 1 = q9) : EI V Γ d p (arI 4 e i) q9 := by
  subst hq
  intro L R σ st x σ' hdp he k
  obtain ⟨a, s, e1, e2⟩ := bn_inv he
  obtain ⟨y, s2, e3, e4⟩ := bn_inv e2
  obtain ⟨⟨c1, c2, c3⟩, e5⟩ := ite_inv e4
  cases e5
  refine h1 L R σ st a s hdp e1 (h2 L R s (.ref (b + a) :: st) y _ (by rw [dep_r]; omega) e3 (fun hy => i_bald C c1 hy c2 c3 hd (i_ok C (fun okσ okl => k ?_))))
  have hk := okσ a y.toNat
  unfold kd at hk
  rw [c1] at hk
  exact hk
theorem e_zald (C : Ctx l b V cc own nL h) {e : XR} {i : XI} (h1 : ER b V Γ d p e q) (h2 : EI V Γ (d + 1) q i r) (hd : decode cc r = .ok (.baload, 1)) {q9 : Nat} (hq : r + 1 = q9) : EI V Γ d p (arI 5 e i) q9 := by
  subst hq
  intro L R σ st x σ' hdp he k
  obtain ⟨a, s, e1, e2⟩ := bn_inv he
  obtain ⟨y, s2, e3, e4⟩ := bn_inv e2
  obtain ⟨⟨c1, c2, c3⟩, e5⟩ := ite_inv e4
  cases e5
  refine h1 L R σ st a s hdp e1 (h2 L R s (.ref (b + a) :: st) y _ (by rw [dep_r]; omega) e3 (fun hy => i_zald C c1 hy c2 c3 hd (i_ok C (fun okσ okl => k ?_))))
  have hk := okσ a y.toNat
  unfold kd at hk
  rw [c1] at hk
  exact hk
theorem e_lald (C : Ctx l b V cc own nL h) {e : XR} {i : XI} (h1 : ER b V Γ d p e q) (h2 : EI V Γ (d + 1) q i r) (hd : decode cc r = .ok (.laload, 1)) {q9 : Nat} (hq : r + 1 = q9) : EL V Γ d p (arI 3 e i) q9 := by
  subst hq
  intro L R σ st x σ' hdp he k
  obtain ⟨a, s, e1, e2⟩ := bn_inv he
  obtain ⟨y, s2, e3, e4⟩ := bn_inv e2
  obtain ⟨⟨c1, c2, c3⟩, e5⟩ := ite_inv e4
  cases e5
  refine h1 L R σ st a s hdp e1 (h2 L R s (.ref (b + a) :: st) y _ (by rw [dep_r]; omega) e3 (fun hy => i_lald C c1 hy c2 c3 hd (i_ok C (fun okσ okl => k ?_))))
  have hk := okσ a y.toNat
  unfold kd at hk
  rw [c1] at hk
  exact hk
theorem e_aald (C : Ctx l b V cc own nL h) {e : XR} {i : XI} {t : Nat} (h1 : ER b V Γ d p e q) (h2 : EI V Γ (d + 1) q i r) (htt : t = 4 ∨ t = 5 ∨ t = 6 ∨ t = 7 ∨ t = 8) (hd : decode cc r = .ok (.aaload, 1)) {q9 : Nat} (hq : r + 1 = q9) : ER b V Γ d p (arR t e i) q9 := by
  subst hq
  intro L R σ st x σ' hdp he k
  obtain ⟨a, s, e1, e2⟩ := bn_inv he
  obtain ⟨y, s2, e3, e4⟩ := bn_inv e2
  obtain ⟨⟨⟨c0, c1⟩, c2, c3⟩, e5⟩ := ite_inv e4
  cases e5
  exact h1 L R σ st a s hdp e1 (h2 L R s (.ref (b + a) :: st) y _ (by rw [dep_r]; omega) e3 (fun hy => i_aald C c0 c1 htt hy c2 c3 hd k))
theorem e_alen2 (C : Ctx l b V cc own nL h) {e : XR} (h1 : ER b V Γ d p e q) (hn : ∀ a, (sh a).1 = 2 → inI ((sh a).2.2 : Int)) (hd : decode cc q = .ok (.arraylength, 1)) {q9 : Nat} (hq : q + 1 = q9) : EI V Γ d p (alen 2 e) q9 := by
  subst hq
  intro L R σ st x σ' hdp he k
  obtain ⟨a, s, e1, e2⟩ := bn_inv he
  obtain ⟨c1, e5⟩ := ite_inv e2
  cases e5
  exact h1 L R σ st a _ hdp e1 (i_alen2 C c1 hd (k (hn a c1)))
theorem e_alen3 (C : Ctx l b V cc own nL h) {e : XR} (h1 : ER b V Γ d p e q) (hn : ∀ a, (sh a).1 = 3 → inI ((sh a).2.2 : Int)) (hd : decode cc q = .ok (.arraylength, 1)) {q9 : Nat} (hq : q + 1 = q9) : EI V Γ d p (alen 3 e) q9 := by
  subst hq
  intro L R σ st x σ' hdp he k
  obtain ⟨a, s, e1, e2⟩ := bn_inv he
  obtain ⟨c1, e5⟩ := ite_inv e2
  cases e5
  exact h1 L R σ st a _ hdp e1 (i_alen3 C c1 hd (k (hn a c1)))
theorem e_alen4 (C : Ctx l b V cc own nL h) {e : XR} (h1 : ER b V Γ d p e q) (hn : ∀ a, (sh a).1 = 4 → inI ((sh a).2.2 : Int)) (hd : decode cc q = .ok (.arraylength, 1)) {q9 : Nat} (hq : q + 1 = q9) : EI V Γ d p (alen 4 e) q9 := by
  subst hq
  intro L R σ st x σ' hdp he k
  obtain ⟨a, s, e1, e2⟩ := bn_inv he
  obtain ⟨c1, e5⟩ := ite_inv e2
  cases e5
  exact h1 L R σ st a _ hdp e1 (i_alen4 C c1 hd (k (hn a c1)))
theorem e_alen5 (C : Ctx l b V cc own nL h) {e : XR} (h1 : ER b V Γ d p e q) (hn : ∀ a, (sh a).1 = 5 → inI ((sh a).2.2 : Int)) (hd : decode cc q = .ok (.arraylength, 1)) {q9 : Nat} (hq : q + 1 = q9) : EI V Γ d p (alen 5 e) q9 := by
  subst hq
  intro L R σ st x σ' hdp he k
  obtain ⟨a, s, e1, e2⟩ := bn_inv he
  obtain ⟨c1, e5⟩ := ite_inv e2
  cases e5
  exact h1 L R σ st a _ hdp e1 (i_alen5 C c1 hd (k (hn a c1)))
theorem e_mmax (C : Ctx l b V cc own nL h) {a c : XI} {index : Nat} (h1 : EI V Γ d p a q) (h2 : EI V Γ (d + 1) q c r) (hl1 : Cond.methodLink own index Lib.Math.max.name ∈ gtb) (hw : Cond.static Lib.Math.max.name ∈ gtb ∧ Cond.initialized "java/lang/Math" ∈ gtb ∧ Cond.code Lib.Math.max.name Lib.Math.max.code 2 (some .int) ∈ gtb) (hh : 1 ≤ h) (hd8 : d ≤ 8) (hd : decode cc r = .ok (.invokestatic index, 3)) {q9 : Nat} (hq : r + 3 = q9) : EI V Γ d p (op2 (fun x y => some (if x < y then y else x)) a c) q9 := by
  subst hq
  intro L R σ st x σ' hdp he k
  obtain ⟨u, s, e1, e2⟩ := bn_inv he
  obtain ⟨y, s2, e3, e4⟩ := bn_inv e2
  cases e4
  refine h1 L R σ st u s hdp e1 (fun hu => h2 L R s (vI u :: st) y _ (by rw [dep_i]; omega) e3 (fun hy => i_mmax C hl1 hw hh (Nat.le_trans hdp hd8) hu hy hd (k ?_)))
  split <;> assumption
theorem e_mmin (C : Ctx l b V cc own nL h) {a c : XI} {index : Nat} (h1 : EI V Γ d p a q) (h2 : EI V Γ (d + 1) q c r) (hl1 : Cond.methodLink own index Lib.Math.min.name ∈ gtb) (hw : Cond.static Lib.Math.min.name ∈ gtb ∧ Cond.initialized "java/lang/Math" ∈ gtb ∧ Cond.code Lib.Math.min.name Lib.Math.min.code 2 (some .int) ∈ gtb) (hh : 1 ≤ h) (hd8 : d ≤ 8) (hd : decode cc r = .ok (.invokestatic index, 3)) {q9 : Nat} (hq : r + 3 = q9) : EI V Γ d p (op2 (fun x y => some (if y < x then y else x)) a c) q9 := by
  subst hq
  intro L R σ st x σ' hdp he k
  obtain ⟨u, s, e1, e2⟩ := bn_inv he
  obtain ⟨y, s2, e3, e4⟩ := bn_inv e2
  cases e4
  refine h1 L R σ st u s hdp e1 (fun hu => h2 L R s (vI u :: st) y _ (by rw [dep_i]; omega) e3 (fun hy => i_mmin C hl1 hw hh (Nat.le_trans hdp hd8) hu hy hd (k ?_)))
  split <;> assumption
theorem e_mabs (C : Ctx l b V cc own nL h) {a : XI} {index : Nat} (h1 : EI V Γ d p a q) (hl1 : Cond.methodLink own index Lib.Math.abs.name ∈ gtb) (hw : Cond.static Lib.Math.abs.name ∈ gtb ∧ Cond.initialized "java/lang/Math" ∈ gtb ∧ Cond.code Lib.Math.abs.name Lib.Math.abs.code 1 (some .int) ∈ gtb) (hh : 1 ≤ h) (hd8 : d ≤ 8) (hd : decode cc q = .ok (.invokestatic index, 3)) {q9 : Nat} (hq : q + 3 = q9) : EI V Γ d p (op1 (fun x => some (if 0 ≤ x then x else wI (-x))) a) q9 := by
  subst hq
  intro L R σ st x σ' hdp he k
  obtain ⟨u, s, e1, e2⟩ := bn_inv he
  cases e2
  refine h1 L R σ st u _ hdp e1 (fun hu => i_mabs C hl1 hw hh (Nat.le_trans hdp hd8) hu hd (k ?_))
  split
  · exact hu
  · exact inI_w _
theorem e_mabsl (C : Ctx l b V cc own nL h) {a : XI} {index : Nat} (h1 : EL V Γ d p a q) (hl1 : Cond.methodLink own index Lib.MathLoose.abs_long.x ∈ gtb) (hw : Cond.static Lib.MathLoose.abs_long.x ∈ gtb ∧ Cond.initialized "java/lang/Math" ∈ gtb ∧ Cond.code Lib.MathLoose.abs_long.x Lib.MathLoose.abs_long.code 2 (some .long) ∈ gtb) (hh : 1 ≤ h) (hd8 : d ≤ 8) (hd : decode cc q = .ok (.invokestatic index, 3)) {q9 : Nat} (hq : q + 3 = q9) : EL V Γ d p (op1 (fun x => some (if 0 < x then x else wL (-x))) a) q9 := by
  subst hq
  intro L R σ st x σ' hdp he k
  obtain ⟨u, s, e1, e2⟩ := bn_inv he
  cases e2
  refine h1 L R σ st u _ hdp e1 (fun hu => i_mabsl C hl1 hw hh (Nat.le_trans hdp hd8) hu hd (k ?_))
  split
  · exact hu
  · exact inL_w _
theorem c_eq_f (C : Ctx l b V cc own nL h) {a c : XI} {off : Int} {tgt : Nat} (h1 : EI V Γ d p a q) (h2 : EI V Γ (d + 1) q c r) (hd : decode cc r = .ok (.if_icmp .ne off, 3)) (ht : (r : Int) + off = (tgt : Int)) {q9 : Nat} (hq : r + 3 = q9) : EC V Γ d p (cmp2 (fun x y => decide (x = y)) a c) q9 tgt := by
  subst hq
  intro L R σ st y σ' hdp he kt kf
  obtain ⟨u, s, e1, e2⟩ := bn_inv he
  obtain ⟨v, s2, e3, e4⟩ := bn_inv e2
  cases e4
  exact h1 L R σ st u s hdp e1 (fun hu => h2 L R s (vI u :: st) v _ (by rw [dep_i]; omega) e3 (fun hv => i_icmp_ne C hd ht hu hv (fun hn => kf (decide_eq_false (by omega))) (fun hn => kt (decide_eq_true (by omega)))))
theorem z_eq_f (C : Ctx l b V cc own nL h) {a : XI} {off : Int} {tgt : Nat} (h1 : EI V Γ d p a r) (hd : decode cc r = .ok (.ifCond .ne off, 3)) (ht : (r : Int) + off = (tgt : Int)) {q9 : Nat} (hq : r + 3 = q9) : EC V Γ d p (cmp1 (fun x => decide (x = 0)) a) q9 tgt := by
  subst hq
  intro L R σ st y σ' hdp he kt kf
  obtain ⟨u, s, e1, e2⟩ := bn_inv he
  cases e2
  exact h1 L R σ st u _ hdp e1 (fun hu => i_if_ne C hd ht hu (fun hn => kf (decide_eq_false (by omega))) (fun hn => kt (decide_eq_true (by omega))))
theorem l_eq_f (C : Ctx l b V cc own nL h) {a c : XI} {off : Int} {tgt : Nat} (h1 : EL V Γ d p a q) (h2 : EL V Γ (d + 2) q c r) (hd : decode cc r = .ok (.lcmp, 1)) (hd2 : decode cc (r + 1) = .ok (.ifCond .ne off, 3)) (ht : ((r + 1 : Nat) : Int) + off = (tgt : Int)) {q9 : Nat} (hq : r + 4 = q9) : EC V Γ d p (cmp2 (fun x y => decide (x = y)) a c) q9 tgt := by
  subst hq
  intro L R σ st y σ' hdp he kt kf
  obtain ⟨u, s, e1, e2⟩ := bn_inv he
  obtain ⟨v, s2, e3, e4⟩ := bn_inv e2
  cases e4
  have hc : (0 < cmpL u v ↔ v < u) ∧ (cmpL u v = 0 ↔ u = v) := by
    unfold cmpL
    split
    · omega
    · split <;> omega
  exact h1 L R σ st u s hdp e1 (fun hu => h2 L R s (vL u :: st) v _ (by rw [dep_l]; omega) e3 (fun hv => i_lcmp C hd hu hv (i_if_ne C hd2 ht (inI_cmpL _ _) (fun hn => kf (decide_eq_false (by omega))) (fun hn => kt (decide_eq_true (by omega))))))
theorem c_eq_t (C : Ctx l b V cc own nL h) {a c : XI} {off : Int} {tgt : Nat} (h1 : EI V Γ d p a q) (h2 : EI V Γ (d + 1) q c r) (hd : decode cc r = .ok (.if_icmp .eq off, 3)) (ht : (r : Int) + off = (tgt : Int)) {q9 : Nat} (hq : r + 3 = q9) : EC V Γ d p (cmp2 (fun x y => decide (x = y)) a c) tgt q9 := by
  subst hq
  intro L R σ st y σ' hdp he kt kf
  obtain ⟨u, s, e1, e2⟩ := bn_inv he
  obtain ⟨v, s2, e3, e4⟩ := bn_inv e2
  cases e4
  exact h1 L R σ st u s hdp e1 (fun hu => h2 L R s (vI u :: st) v _ (by rw [dep_i]; omega) e3 (fun hv => i_icmp_eq C hd ht hu hv (fun hn => kt (decide_eq_true (by omega))) (fun hn => kf (decide_eq_false (by omega)))))
theorem z_eq_t (C : Ctx l b V cc own nL h) {a : XI} {off : Int} {tgt : Nat} (h1 : EI V Γ d p a r) (hd : decode cc r = .ok (.ifCond .eq off, 3)) (ht : (r : Int) + off = (tgt : Int)) {q9 : Nat} (hq : r + 3 = q9) : EC V Γ d p (cmp1 (fun x => decide (x = 0)) a) tgt q9 := by
  subst hq
  intro L R σ st y σ' hdp he kt kf
  obtain ⟨u, s, e1, e2⟩ := bn_inv he
  cases e2
  exact h1 L R σ st u _ hdp e1 (fun hu => i_if_eq C hd ht hu (fun hn => kt (decide_eq_true (by omega))) (fun hn => kf (decide_eq_false (by omega))))
theorem l_eq_t (C : Ctx l b V cc own nL h) {a c : XI} {off : Int} {tgt : Nat} (h1 : EL V Γ d p a q) (h2 : EL V Γ (d + 2) q c r) (hd : decode cc r = .ok (.lcmp, 1)) (hd2 : decode cc (r + 1) = .ok (.ifCond .eq off, 3)) (ht : ((r + 1 : Nat) : Int) + off = (tgt : Int)) {q9 : Nat} (hq : r + 4 = q9) : EC V Γ d p (cmp2 (fun x y => decide (x = y)) a c) tgt q9 := by
  subst hq
  intro L R σ st y σ' hdp he kt kf
  obtain ⟨u, s, e1, e2⟩ := bn_inv he
  obtain ⟨v, s2, e3, e4⟩ := bn_inv e2
  cases e4
  have hc : (0 < cmpL u v ↔ v < u) ∧ (cmpL u v = 0 ↔ u = v) := by
    unfold cmpL
    split
    · omega
    · split <;> omega
  exact h1 L R σ st u s hdp e1 (fun hu => h2 L R s (vL u :: st) v _ (by rw [dep_l]; omega) e3 (fun hv => i_lcmp C hd hu hv (i_if_eq C hd2 ht (inI_cmpL _ _) (fun hn => kt (decide_eq_true (by omega))) (fun hn => kf (decide_eq_false (by omega))))))
theorem c_ne_f (C : Ctx l b V cc own nL h) {a c : XI} {off : Int} {tgt : Nat} (h1 : EI V Γ d p a q) (h2 : EI V Γ (d + 1) q c r) (hd : decode cc r = .ok (.if_icmp .eq off, 3)) (ht : (r : Int) + off = (tgt : Int)) {q9 : Nat} (hq : r + 3 = q9) : EC V Γ d p (cmp2 (fun x y => decide (¬ x = y)) a c) q9 tgt := by
  subst hq
  intro L R σ st y σ' hdp he kt kf
  obtain ⟨u, s, e1, e2⟩ := bn_inv he
  obtain ⟨v, s2, e3, e4⟩ := bn_inv e2
  cases e4
  exact h1 L R σ st u s hdp e1 (fun hu => h2 L R s (vI u :: st) v _ (by rw [dep_i]; omega) e3 (fun hv => i_icmp_eq C hd ht hu hv (fun hn => kf (decide_eq_false (by omega))) (fun hn => kt (decide_eq_true (by omega)))))
theorem z_ne_f (C : Ctx l b V cc own nL h) {a : XI} {off : Int} {tgt : Nat} (h1 : EI V Γ d p a r) (hd : decode cc r = .ok (.ifCond .eq off, 3)) (ht : (r : Int) + off = (tgt : Int)) {q9 : Nat} (hq : r + 3 = q9) : EC V Γ d p (cmp1 (fun x => decide (¬ x = 0)) a) q9 tgt := by
  subst hq
  intro L R σ st y σ' hdp he kt kf
  obtain ⟨u, s, e1, e2⟩ := bn_inv he
  cases e2
  exact h1 L R σ st u _ hdp e1 (fun hu => i_if_eq C hd ht hu (fun hn => kf (decide_eq_false (by omega))) (fun hn => kt (decide_eq_true (by omega))))
theorem l_ne_f (C : Ctx l b V cc own nL h) {a c : XI} {off : Int} {tgt : Nat} (h1 : EL V Γ d p a q) (h2 : EL V Γ (d + 2) q c r) (hd : decode cc r = .ok (.lcmp, 1)) (hd2 : decode cc (r + 1) = .ok (.ifCond .eq off, 3)) (ht : ((r + 1 : Nat) : Int) + off = (tgt : Int)) {q9 : Nat} (hq : r + 4 = q9) : EC V Γ d p (cmp2 (fun x y => decide (¬ x = y)) a c) q9 tgt := by
  subst hq
  intro L R σ st y σ' hdp he kt kf
  obtain ⟨u, s, e1, e2⟩ := bn_inv he
  obtain ⟨v, s2, e3, e4⟩ := bn_inv e2
  cases e4
  have hc : (0 < cmpL u v ↔ v < u) ∧ (cmpL u v = 0 ↔ u = v) := by
    unfold cmpL
    split
    · omega
    · split <;> omega
  exact h1 L R σ st u s hdp e1 (fun hu => h2 L R s (vL u :: st) v _ (by rw [dep_l]; omega) e3 (fun hv => i_lcmp C hd hu hv (i_if_eq C hd2 ht (inI_cmpL _ _) (fun hn => kf (decide_eq_false (by omega))) (fun hn => kt (decide_eq_true (by omega))))))
theorem c_ne_t (C : Ctx l b V cc own nL h) {a c : XI} {off : Int} {tgt : Nat} (h1 : EI V Γ d p a q) (h2 : EI V Γ (d + 1) q c r) (hd : decode cc r = .ok (.if_icmp .ne off, 3)) (ht : (r : Int) + off = (tgt : Int)) {q9 : Nat} (hq : r + 3 = q9) : EC V Γ d p (cmp2 (fun x y => decide (¬ x = y)) a c) tgt q9 := by
  subst hq
  intro L R σ st y σ' hdp he kt kf
  obtain ⟨u, s, e1, e2⟩ := bn_inv he
  obtain ⟨v, s2, e3, e4⟩ := bn_inv e2
  cases e4
  exact h1 L R σ st u s hdp e1 (fun hu => h2 L R s (vI u :: st) v _ (by rw [dep_i]; omega) e3 (fun hv => i_icmp_ne C hd ht hu hv (fun hn => kt (decide_eq_true (by omega))) (fun hn => kf (decide_eq_false (by omega)))))
theorem z_ne_t (C : Ctx l b V cc own nL h) {a : XI} {off : Int} {tgt : Nat} (h1 : EI V Γ d p a r) (hd : decode cc r = .ok (.ifCond .ne off, 3)) (ht : (r : Int) + off = (tgt : Int)) {q9 : Nat} (hq : r + 3 = q9) : EC V Γ d p (cmp1 (fun x => decide (¬ x = 0)) a) tgt q9 := by
  subst hq
  intro L R σ st y σ' hdp he kt kf
  obtain ⟨u, s, e1, e2⟩ := bn_inv he
  cases e2
  exact h1 L R σ st u _ hdp e1 (fun hu => i_if_ne C hd ht hu (fun hn => kt (decide_eq_true (by omega))) (fun hn => kf (decide_eq_false (by omega))))
theorem l_ne_t (C : Ctx l b V cc own nL h) {a c : XI} {off : Int} {tgt : Nat} (h1 : EL V Γ d p a q) (h2 : EL V Γ (d + 2) q c r) (hd : decode cc r = .ok (.lcmp, 1)) (hd2 : decode cc (r + 1) = .ok (.ifCond .ne off, 3)) (ht : ((r + 1 : Nat) : Int) + off = (tgt : Int)) {q9 : Nat} (hq : r + 4 = q9) : EC V Γ d p (cmp2 (fun x y => decide (¬ x = y)) a c) tgt q9 := by
  subst hq
  intro L R σ st y σ' hdp he kt kf
  obtain ⟨u, s, e1, e2⟩ := bn_inv he
  obtain ⟨v, s2, e3, e4⟩ := bn_inv e2
  cases e4
  have hc : (0 < cmpL u v ↔ v < u) ∧ (cmpL u v = 0 ↔ u = v) := by
    unfold cmpL
    split
    · omega
    · split <;> omega
  exact h1 L R σ st u s hdp e1 (fun hu => h2 L R s (vL u :: st) v _ (by rw [dep_l]; omega) e3 (fun hv => i_lcmp C hd hu hv (i_if_ne C hd2 ht (inI_cmpL _ _) (fun hn => kt (decide_eq_true (by omega))) (fun hn => kf (decide_eq_false (by omega))))))
theorem c_lt_f (C : Ctx l b V cc own nL h) {a c : XI} {off : Int} {tgt : Nat} (h1 : EI V Γ d p a q) (h2 : EI V Γ (d + 1) q c r) (hd : decode cc r = .ok (.if_icmp .ge off, 3)) (ht : (r : Int) + off = (tgt : Int)) {q9 : Nat} (hq : r + 3 = q9) : EC V Γ d p (cmp2 (fun x y => decide (x < y)) a c) q9 tgt := by
  subst hq
  intro L R σ st y σ' hdp he kt kf
  obtain ⟨u, s, e1, e2⟩ := bn_inv he
  obtain ⟨v, s2, e3, e4⟩ := bn_inv e2
  cases e4
  exact h1 L R σ st u s hdp e1 (fun hu => h2 L R s (vI u :: st) v _ (by rw [dep_i]; omega) e3 (fun hv => i_icmp_ge C hd ht hu hv (fun hn => kf (decide_eq_false (by omega))) (fun hn => kt (decide_eq_true (by omega)))))
theorem z_lt_f (C : Ctx l b V cc own nL h) {a : XI} {off : Int} {tgt : Nat} (h1 : EI V Γ d p a r) (hd : decode cc r = .ok (.ifCond .ge off, 3)) (ht : (r : Int) + off = (tgt : Int)) {q9 : Nat} (hq : r + 3 = q9) : EC V Γ d p (cmp1 (fun x => decide (x < 0)) a) q9 tgt := by
  subst hq
  intro L R σ st y σ' hdp he kt kf
  obtain ⟨u, s, e1, e2⟩ := bn_inv he
  cases e2
  exact h1 L R σ st u _ hdp e1 (fun hu => i_if_ge C hd ht hu (fun hn => kf (decide_eq_false (by omega))) (fun hn => kt (decide_eq_true (by omega))))
theorem l_lt_f (C : Ctx l b V cc own nL h) {a c : XI} {off : Int} {tgt : Nat} (h1 : EL V Γ d p a q) (h2 : EL V Γ (d + 2) q c r) (hd : decode cc r = .ok (.lcmp, 1)) (hd2 : decode cc (r + 1) = .ok (.ifCond .ge off, 3)) (ht : ((r + 1 : Nat) : Int) + off = (tgt : Int)) {q9 : Nat} (hq : r + 4 = q9) : EC V Γ d p (cmp2 (fun x y => decide (x < y)) a c) q9 tgt := by
  subst hq
  intro L R σ st y σ' hdp he kt kf
  obtain ⟨u, s, e1, e2⟩ := bn_inv he
  obtain ⟨v, s2, e3, e4⟩ := bn_inv e2
  cases e4
  have hc : (0 < cmpL u v ↔ v < u) ∧ (cmpL u v = 0 ↔ u = v) := by
    unfold cmpL
    split
    · omega
    · split <;> omega
  exact h1 L R σ st u s hdp e1 (fun hu => h2 L R s (vL u :: st) v _ (by rw [dep_l]; omega) e3 (fun hv => i_lcmp C hd hu hv (i_if_ge C hd2 ht (inI_cmpL _ _) (fun hn => kf (decide_eq_false (by omega))) (fun hn => kt (decide_eq_true (by omega))))))
theorem c_lt_t (C : Ctx l b V cc own nL h) {a c : XI} {off : Int} {tgt : Nat} (h1 : EI V Γ d p a q) (h2 : EI V Γ (d + 1) q c r) (hd : decode cc r = .ok (.if_icmp .lt off, 3)) (ht : (r : Int) + off = (tgt : Int)) {q9 : Nat} (hq : r + 3 = q9) : EC V Γ d p (cmp2 (fun x y => decide (x < y)) a c) tgt q9 := by
  subst hq
  intro L R σ st y σ' hdp he kt kf
  obtain ⟨u, s, e1, e2⟩ := bn_inv he
  obtain ⟨v, s2, e3, e4⟩ := bn_inv e2
  cases e4
  exact h1 L R σ st u s hdp e1 (fun hu => h2 L R s (vI u :: st) v _ (by rw [dep_i]; omega) e3 (fun hv => i_icmp_lt C hd ht hu hv (fun hn => kt (decide_eq_true (by omega))) (fun hn => kf (decide_eq_false (by omega)))))
theorem z_lt_t (C : Ctx l b V cc own nL h) {a : XI} {off : Int} {tgt : Nat} (h1 : EI V Γ d p a r) (hd : decode cc r = .ok (.ifCond .lt off, 3)) (ht : (r : Int) + off = (tgt : Int)) {q9 : Nat} (hq : r + 3 = q9) : EC V Γ d p (cmp1 (fun x => decide (x < 0)) a) tgt q9 := by
  subst hq
  intro L R σ st y σ' hdp he kt kf
  obtain ⟨u, s, e1, e2⟩ := bn_inv he
  cases e2
  exact h1 L R σ st u _ hdp e1 (fun hu => i_if_lt C hd ht hu (fun hn => kt (decide_eq_true (by omega))) (fun hn => kf (decide_eq_false (by omega))))
theorem l_lt_t (C : Ctx l b V cc own nL h) {a c : XI} {off : Int} {tgt : Nat} (h1 : EL V Γ d p a q) (h2 : EL V Γ (d + 2) q c r) (hd : decode cc r = .ok (.lcmp, 1)) (hd2 : decode cc (r + 1) = .ok (.ifCond .lt off, 3)) (ht : ((r + 1 : Nat) : Int) + off = (tgt : Int)) {q9 : Nat} (hq : r + 4 = q9) : EC V Γ d p (cmp2 (fun x y => decide (x < y)) a c) tgt q9 := by
  subst hq
  intro L R σ st y σ' hdp he kt kf
  obtain ⟨u, s, e1, e2⟩ := bn_inv he
  obtain ⟨v, s2, e3, e4⟩ := bn_inv e2
  cases e4
  have hc : (0 < cmpL u v ↔ v < u) ∧ (cmpL u v = 0 ↔ u = v) := by
    unfold cmpL
    split
    · omega
    · split <;> omega
  exact h1 L R σ st u s hdp e1 (fun hu => h2 L R s (vL u :: st) v _ (by rw [dep_l]; omega) e3 (fun hv => i_lcmp C hd hu hv (i_if_lt C hd2 ht (inI_cmpL _ _) (fun hn => kt (decide_eq_true (by omega))) (fun hn => kf (decide_eq_false (by omega))))))
theorem c_ge_f (C : Ctx l b V cc own nL h) {a c : XI} {off : Int} {tgt : Nat} (h1 : EI V Γ d p a q) (h2 : EI V Γ (d + 1) q c r) (hd : decode cc r = .ok (.if_icmp .lt off, 3)) (ht : (r : Int) + off = (tgt : Int)) {q9 : Nat} (hq : r + 3 = q9) : EC V Γ d p (cmp2 (fun x y => decide (y ≤ x)) a c) q9 tgt := by
  subst hq
  intro L R σ st y σ' hdp he kt kf
  obtain ⟨u, s, e1, e2⟩ := bn_inv he
  obtain ⟨v, s2, e3, e4⟩ := bn_inv e2
  cases e4
  exact h1 L R σ st u s hdp e1 (fun hu => h2 L R s (vI u :: st) v _ (by rw [dep_i]; omega) e3 (fun hv => i_icmp_lt C hd ht hu hv (fun hn => kf (decide_eq_false (by omega))) (fun hn => kt (decide_eq_true (by omega)))))
theorem z_ge_f (C : Ctx l b V cc own nL h) {a : XI} {off : Int} {tgt : Nat} (h1 : EI V Γ d p a r) (hd : decode cc r = .ok (.ifCond .lt off, 3)) (ht : (r : Int) + off = (tgt : Int)) {q9 : Nat} (hq : r + 3 = q9) : EC V Γ d p (cmp1 (fun x => decide (0 ≤ x)) a) q9 tgt := by
  subst hq
  intro L R σ st y σ' hdp he kt kf
  obtain ⟨u, s, e1, e2⟩ := bn_inv he
  cases e2
  exact h1 L R σ st u _ hdp e1 (fun hu => i_if_lt C hd ht hu (fun hn => kf (decide_eq_false (by omega))) (fun hn => kt (decide_eq_true (by omega))))
theorem l_ge_f (C : Ctx l b V cc own nL h) {a c : XI} {off : Int} {tgt : Nat} (h1 : EL V Γ d p a q) (h2 : EL V Γ (d + 2) q c r) (hd : decode cc r = .ok (.lcmp, 1)) (hd2 : decode cc (r + 1) = .ok (.ifCond .lt off, 3)) (ht : ((r + 1 : Nat) : Int) + off = (tgt : Int)) {q9 : Nat} (hq : r + 4 = q9) : EC V Γ d p (cmp2 (fun x y => decide (y ≤ x)) a c) q9 tgt := by
  subst hq
  intro L R σ st y σ' hdp he kt kf
  obtain ⟨u, s, e1, e2⟩ := bn_inv he
  obtain ⟨v, s2, e3, e4⟩ := bn_inv e2
  cases e4
  have hc : (0 < cmpL u v ↔ v < u) ∧ (cmpL u v = 0 ↔ u = v) := by
    unfold cmpL
    split
    · omega
    · split <;> omega
  exact h1 L R σ st u s hdp e1 (fun hu => h2 L R s (vL u :: st) v _ (by rw [dep_l]; omega) e3 (fun hv => i_lcmp C hd hu hv (i_if_lt C hd2 ht (inI_cmpL _ _) (fun hn => kf (decide_eq_false (by omega))) (fun hn => kt (decide_eq_true (by omega))))))
theorem c_ge_t (C : Ctx l b V cc own nL h) {a c : XI} {off : Int} {tgt : Nat} (h1 : EI V Γ d p a q) (h2 : EI V Γ (d + 1) q c r) (hd : decode cc r = .ok (.if_icmp .ge off, 3)) (ht : (r : Int) + off = (tgt : Int)) {q9 : Nat} (hq : r + 3 = q9) : EC V Γ d p (cmp2 (fun x y => decide (y ≤ x)) a c) tgt q9 := by
  subst hq
  intro L R σ st y σ' hdp he kt kf
  obtain ⟨u, s, e1, e2⟩ := bn_inv he
  obtain ⟨v, s2, e3, e4⟩ := bn_inv e2
  cases e4
  exact h1 L R σ st u s hdp e1 (fun hu => h2 L R s (vI u :: st) v _ (by rw [dep_i]; omega) e3 (fun hv => i_icmp_ge C hd ht hu hv (fun hn => kt (decide_eq_true (by omega))) (fun hn => kf (decide_eq_false (by omega)))))
theorem z_ge_t (C : Ctx l b V cc own nL h) {a : XI} {off : Int} {tgt : Nat} (h1 : EI V Γ d p a r) (hd : decode cc r = .ok (.ifCond .ge off, 3)) (ht : (r : Int) + off = (tgt : Int)) {q9 : Nat} (hq : r + 3 = q9) : EC V Γ d p (cmp1 (fun x => decide (0 ≤ x)) a) tgt q9 := by
  subst hq
  intro L R σ st y σ' hdp he kt kf
  obtain ⟨u, s, e1, e2⟩ := bn_inv he
  cases e2
  exact h1 L R σ st u _ hdp e1 (fun hu => i_if_ge C hd ht hu (fun hn => kt (decide_eq_true (by omega))) (fun hn => kf (decide_eq_false (by omega))))
theorem l_ge_t (C : Ctx l b V cc own nL h) {a c : XI} {off : Int} {tgt : Nat} (h1 : EL V Γ d p a q) (h2 : EL V Γ (d + 2) q c r) (hd : decode cc r = .ok (.lcmp, 1)) (hd2 : decode cc (r + 1) = .ok (.ifCond .ge off, 3)) (ht : ((r + 1 : Nat) : Int) + off = (tgt : Int)) {q9 : Nat} (hq : r + 4 = q9) : EC V Γ d p (cmp2 (fun x y => decide (y ≤ x)) a c) tgt q9 := by
  subst hq
  intro L R σ st y σ' hdp he kt kf
  obtain ⟨u, s, e1, e2⟩ := bn_inv he
  obtain ⟨v, s2, e3, e4⟩ := bn_inv e2
  cases e4
  have hc : (0 < cmpL u v ↔ v < u) ∧ (cmpL u v = 0 ↔ u = v) := by
    unfold cmpL
    split
    · omega
    · split <;> omega
  exact h1 L R σ st u s hdp e1 (fun hu => h2 L R s (vL u :: st) v _ (by rw [dep_l]; omega) e3 (fun hv => i_lcmp C hd hu hv (i_if_ge C hd2 ht (inI_cmpL _ _) (fun hn => kt (decide_eq_true (by omega))) (fun hn => kf (decide_eq_false (by omega))))))
theorem c_gt_f (C : Ctx l b V cc own nL h) {a c : XI} {off : Int} {tgt : Nat} (h1 : EI V Γ d p a q) (h2 : EI V Γ (d + 1) q c r) (hd : decode cc r = .ok (.if_icmp .le off, 3)) (ht : (r : Int) + off = (tgt : Int)) {q9 : Nat} (hq : r + 3 = q9) : EC V Γ d p (cmp2 (fun x y => decide (y < x)) a c) q9 tgt := by
  subst hq
  intro L R σ st y σ' hdp he kt kf
  obtain ⟨u, s, e1, e2⟩ := bn_inv he
  obtain ⟨v, s2, e3, e4⟩ := bn_inv e2
  cases e4
  exact h1 L R σ st u s hdp e1 (fun hu => h2 L R s (vI u :: st) v _ (by rw [dep_i]; omega) e3 (fun hv => i_icmp_le C hd ht hu hv (fun hn => kf (decide_eq_false (by omega))) (fun hn => kt (decide_eq_true (by omega)))))
theorem z_gt_f (C : Ctx l b V cc own nL h) {a : XI} {off : Int} {tgt : Nat} (h1 : EI V Γ d p a r) (hd : decode cc r = .ok (.ifCond .le off, 3)) (ht : (r : Int) + off = (tgt : Int)) {q9 : Nat} (hq : r + 3 = q9) : EC V Γ d p (cmp1 (fun x => decide (0 < x)) a) q9 tgt := by
  subst hq
  intro L R σ st y σ' hdp he kt kf
  obtain ⟨u, s, e1, e2⟩ := bn_inv he
  cases e2
  exact h1 L R σ st u _ hdp e1 (fun hu => i_if_le C hd ht hu (fun hn => kf (decide_eq_false (by omega))) (fun hn => kt (decide_eq_true (by omega))))
theorem l_gt_f (C : Ctx l b V cc own nL h) {a c : XI} {off : Int} {tgt : Nat} (h1 : EL V Γ d p a q) (h2 : EL V Γ (d + 2) q c r) (hd : decode cc r = .ok (.lcmp, 1)) (hd2 : decode cc (r + 1) = .ok (.ifCond .le off, 3)) (ht : ((r + 1 : Nat) : Int) + off = (tgt : Int)) {q9 : Nat} (hq : r + 4 = q9) : EC V Γ d p (cmp2 (fun x y => decide (y < x)) a c) q9 tgt := by
  subst hq
  intro L R σ st y σ' hdp he kt kf
  obtain ⟨u, s, e1, e2⟩ := bn_inv he
  obtain ⟨v, s2, e3, e4⟩ := bn_inv e2
  cases e4
  have hc : (0 < cmpL u v ↔ v < u) ∧ (cmpL u v = 0 ↔ u = v) := by
    unfold cmpL
    split
    · omega
    · split <;> omega
  exact h1 L R σ st u s hdp e1 (fun hu => h2 L R s (vL u :: st) v _ (by rw [dep_l]; omega) e3 (fun hv => i_lcmp C hd hu hv (i_if_le C hd2 ht (inI_cmpL _ _) (fun hn => kf (decide_eq_false (by omega))) (fun hn => kt (decide_eq_true (by omega))))))
theorem c_gt_t (C : Ctx l b V cc own nL h) {a c : XI} {off : Int} {tgt : Nat} (h1 : EI V Γ d p a q) (h2 : EI V Γ (d + 1) q c r) (hd : decode cc r = .ok (.if_icmp .gt off, 3)) (ht : (r : Int) + off = (tgt : Int)) {q9 : Nat} (hq : r + 3 = q9) : EC V Γ d p (cmp2 (fun x y => decide (y < x)) a c) tgt q9 := by
  subst hq
  intro L R σ st y σ' hdp he kt kf
  obtain ⟨u, s, e1, e2⟩ := bn_inv he
  obtain ⟨v, s2, e3, e4⟩ := bn_inv e2
  cases e4
  exact h1 L R σ st u s hdp e1 (fun hu => h2 L R s (vI u :: st) v _ (by rw [dep_i]; omega) e3 (fun hv => i_icmp_gt C hd ht hu hv (fun hn => kt (decide_eq_true (by omega))) (fun hn => kf (decide_eq_false (by omega)))))
theorem z_gt_t (C : Ctx l b V cc own nL h) {a : XI} {off : Int} {tgt : Nat} (h1 : EI V Γ d p a r) (hd : decode cc r = .ok (.ifCond .gt off, 3)) (ht : (r : Int) + off = (tgt : Int)) {q9 : Nat} (hq : r + 3 = q9) : EC V Γ d p (cmp1 (fun x => decide (0 < x)) a) tgt q9 := by
  subst hq
  intro L R σ st y σ' hdp he kt kf
  obtain ⟨u, s, e1, e2⟩ := bn_inv he
  cases e2
  exact h1 L R σ st u _ hdp e1 (fun hu => i_if_gt C hd ht hu (fun hn => kt (decide_eq_true (by omega))) (fun hn => kf (decide_eq_false (by omega))))
theorem l_gt_t (C : Ctx l b V cc own nL h) {a c : XI} {off : Int} {tgt : Nat} (h1 : EL V Γ d p a q) (h2 : EL V Γ (d + 2) q c r) (hd : decode cc r = .ok (.lcmp, 1)) (hd2 : decode cc (r + 1) = .ok (.ifCond .gt off, 3)) (ht : ((r + 1 : Nat) : Int) + off = (tgt : Int)) {q9 : Nat} (hq : r + 4 = q9) : EC V Γ d p (cmp2 (fun x y => decide (y < x)) a c) tgt q9 := by
  subst hq
  intro L R σ st y σ' hdp he kt kf
  obtain ⟨u, s, e1, e2⟩ := bn_inv he
  obtain ⟨v, s2, e3, e4⟩ := bn_inv e2
  cases e4
  have hc : (0 < cmpL u v ↔ v < u) ∧ (cmpL u v = 0 ↔ u = v) := by
    unfold cmpL
    split
    · omega
    · split <;> omega
  exact h1 L R σ st u s hdp e1 (fun hu => h2 L R s (vL u :: st) v _ (by rw [dep_l]; omega) e3 (fun hv => i_lcmp C hd hu hv (i_if_gt C hd2 ht (inI_cmpL _ _) (fun hn => kt (decide_eq_true (by omega))) (fun hn => kf (decide_eq_false (by omega))))))
theorem c_le_f (C : Ctx l b V cc own nL h) {a c : XI} {off : Int} {tgt : Nat} (h1 : EI V Γ d p a q) (h2 : EI V Γ (d + 1) q c r) (hd : decode cc r = .ok (.if_icmp .gt off, 3)) (ht : (r : Int) + off = (tgt : Int)) {q9 : Nat} (hq : r + 3 = q9) : EC V Γ d p (cmp2 (fun x y => decide (x ≤ y)) a c) q9 tgt := by
  subst hq
  intro L R σ st y σ' hdp he kt kf
  obtain ⟨u, s, e1, e2⟩ := bn_inv he
  obtain ⟨v, s2, e3, e4⟩ := bn_inv e2
  cases e4
  exact h1 L R σ st u s hdp e1 (fun hu => h2 L R s (vI u :: st) v _ (by rw [dep_i]; omega) e3 (fun hv => i_icmp_gt C hd ht hu hv (fun hn => kf (decide_eq_false (by omega))) (fun hn => kt (decide_eq_true (by omega)))))
theorem z_le_f (C : Ctx l b V cc own nL h) {a : XI} {off : Int} {tgt : Nat} (h1 : EI V Γ d p a r) (hd : decode cc r = .ok (.ifCond .gt off, 3)) (ht : (r : Int) + off = (tgt : Int)) {q9 : Nat} (hq : r + 3 = q9) : EC V Γ d p (cmp1 (fun x => decide (x ≤ 0)) a) q9 tgt := by
  subst hq
  intro L R σ st y σ' hdp he kt kf
  obtain ⟨u, s, e1, e2⟩ := bn_inv he
  cases e2
  exact h1 L R σ st u _ hdp e1 (fun hu => i_if_gt C hd ht hu (fun hn => kf (decide_eq_false (by omega))) (fun hn => kt (decide_eq_true (by omega))))
theorem l_le_f (C : Ctx l b V cc own nL h) {a c : XI} {off : Int} {tgt : Nat} (h1 : EL V Γ d p a q) (h2 : EL V Γ (d + 2) q c r) (hd : decode cc r = .ok (.lcmp, 1)) (hd2 : decode cc (r + 1) = .ok (.ifCond .gt off, 3)) (ht : ((r + 1 : Nat) : Int) + off = (tgt : Int)) {q9 : Nat} (hq : r + 4 = q9) : EC V Γ d p (cmp2 (fun x y => decide (x ≤ y)) a c) q9 tgt := by
  subst hq
  intro L R σ st y σ' hdp he kt kf
  obtain ⟨u, s, e1, e2⟩ := bn_inv he
  obtain ⟨v, s2, e3, e4⟩ := bn_inv e2
  cases e4
  have hc : (0 < cmpL u v ↔ v < u) ∧ (cmpL u v = 0 ↔ u = v) := by
    unfold cmpL
    split
    · omega
    · split <;> omega
  exact h1 L R σ st u s hdp e1 (fun hu => h2 L R s (vL u :: st) v _ (by rw [dep_l]; omega) e3 (fun hv => i_lcmp C hd hu hv (i_if_gt C hd2 ht (inI_cmpL _ _) (fun hn => kf (decide_eq_false (by omega))) (fun hn => kt (decide_eq_true (by omega))))))
theorem c_le_t (C : Ctx l b V cc own nL h) {a c : XI} {off : Int} {tgt : Nat} (h1 : EI V Γ d p a q) (h2 : EI V Γ (d + 1) q c r) (hd : decode cc r = .ok (.if_icmp .le off, 3)) (ht : (r : Int) + off = (tgt : Int)) {q9 : Nat} (hq : r + 3 = q9) : EC V Γ d p (cmp2 (fun x y => decide (x ≤ y)) a c) tgt q9 := by
  subst hq
  intro L R σ st y σ' hdp he kt kf
  obtain ⟨u, s, e1, e2⟩ := bn_inv he
  obtain ⟨v, s2, e3, e4⟩ := bn_inv e2
  cases e4
  exact h1 L R σ st u s hdp e1 (fun hu => h2 L R s (vI u :: st) v _ (by rw [dep_i]; omega) e3 (fun hv => i_icmp_le C hd ht hu hv (fun hn => kt (decide_eq_true (by omega))) (fun hn => kf (decide_eq_false (by omega)))))
theorem z_le_t (C : Ctx l b V cc own nL h) {a : XI} {off : Int} {tgt : Nat} (h1 : EI V Γ d p a r) (hd : decode cc r = .ok (.ifCond .le off, 3)) (ht : (r : Int) + off = (tgt : Int)) {q9 : Nat} (hq : r + 3 = q9) : EC V Γ d p (cmp1 (fun x => decide (x ≤ 0)) a) tgt q9 := by
  subst hq
  intro L R σ st y σ' hdp he kt kf
  obtain ⟨u, s, e1, e2⟩ := bn_inv he
  cases e2
  exact h1 L R σ st u _ hdp e1 (fun hu => i_if_le C hd ht hu (fun hn => kt (decide_eq_true (by omega))) (fun hn => kf (decide_eq_false (by omega))))
theorem l_le_t (C : Ctx l b V cc own nL h) {a c : XI} {off : Int} {tgt : Nat} (h1 : EL V Γ d p a q) (h2 : EL V Γ (d + 2) q c r) (hd : decode cc r = .ok (.lcmp, 1)) (hd2 : decode cc (r + 1) = .ok (.ifCond .le off, 3)) (ht : ((r + 1 : Nat) : Int) + off = (tgt : Int)) {q9 : Nat} (hq : r + 4 = q9) : EC V Γ d p (cmp2 (fun x y => decide (x ≤ y)) a c) tgt q9 := by
  subst hq
  intro L R σ st y σ' hdp he kt kf
  obtain ⟨u, s, e1, e2⟩ := bn_inv he
  obtain ⟨v, s2, e3, e4⟩ := bn_inv e2
  cases e4
  have hc : (0 < cmpL u v ↔ v < u) ∧ (cmpL u v = 0 ↔ u = v) := by
    unfold cmpL
    split
    · omega
    · split <;> omega
  exact h1 L R σ st u s hdp e1 (fun hu => h2 L R s (vL u :: st) v _ (by rw [dep_l]; omega) e3 (fun hv => i_lcmp C hd hu hv (i_if_le C hd2 ht (inI_cmpL _ _) (fun hn => kt (decide_eq_true (by omega))) (fun hn => kf (decide_eq_false (by omega))))))
def cTern (c a e : XC) : XC := fun z => bn (c z) fun y s => if y = true then a (z.1, z.2.1, s) else e (z.1, z.2.1, s)
theorem c_tern {c a e : XC} {t f t1 e1 : Nat} (hc : EC V Γ d p c t1 e1) (h1 : EC V Γ d t1 a t f) (h2 : EC V Γ d e1 e t f) : EC V Γ d p (cTern c a e) t f := by
  intro L R σ st y σ' hdp he kt kf
  obtain ⟨u, s, e1, e2⟩ := bn_inv he
  refine hc L R σ st u s hdp e1 (fun hu => ?_) (fun hu => ?_)
  · rw [if_pos hu] at e2
    exact h1 L R s st y σ' hdp e2 kt kf
  · rw [if_neg (by rw [hu]; decide)] at e2
    exact h2 L R s st y σ' hdp e2 kt kf
theorem c_and {a c : XC} {t f : Nat} (h1 : EC V Γ d p a q f) (h2 : EC V Γ d q c t f) : EC V Γ d p (cAnd a c) t f := by
  intro L R σ st y σ' hdp he kt kf
  obtain ⟨u, s, e1, e2⟩ := bn_inv he
  refine h1 L R σ st u s hdp e1 (fun hu => ?_) (fun hu => ?_)
  · rw [if_pos hu] at e2
    exact h2 L R s st y σ' hdp e2 kt kf
  · rw [if_neg (by rw [hu]; decide)] at e2
    cases e2
    exact kf rfl
theorem c_or {a c : XC} {t f : Nat} (h1 : EC V Γ d p a t q) (h2 : EC V Γ d q c t f) : EC V Γ d p (cOr a c) t f := by
  intro L R σ st y σ' hdp he kt kf
  obtain ⟨u, s, e1, e2⟩ := bn_inv he
  refine h1 L R σ st u s hdp e1 (fun hu => ?_) (fun hu => ?_)
  · rw [if_pos hu] at e2
    cases e2
    exact kt rfl
  · rw [if_neg (by rw [hu]; decide)] at e2
    exact h2 L R s st y σ' hdp e2 kt kf
theorem c_not {a : XC} {t f : Nat} (h1 : EC V Γ d p a f t) : EC V Γ d p (cNot a) t f := by
  intro L R σ st y σ' hdp he kt kf
  obtain ⟨u, s, e1, e2⟩ := bn_inv he
  cases e2
  exact h1 L R σ st u _ hdp e1 (fun hu => kf (by rw [hu]; rfl)) (fun hu => kt (by rw [hu]; rfl))
theorem c_gotoT (C : Ctx l b V cc own nL h) {a : XC} {t f t2 : Nat} {off : Int} (h1 : EC V Γ d p a t f) (hd : decode cc t = .ok (.goto off, 3)) (ht : (t : Int) + off = (t2 : Int)) : EC V Γ d p a t2 f := by
  intro L R σ st y σ' hdp he kt kf
  exact h1 L R σ st y σ' hdp he (fun hu => i_goto C hd ht (kt hu)) kf
theorem c_goto (C : Ctx l b V cc own nL h) {a : XC} {t f t2 : Nat} {off : Int} (h1 : EC V Γ d p a t f) (hd : decode cc f = .ok (.goto off, 3)) (ht : (f : Int) + off = (t2 : Int)) : EC V Γ d p a t t2 := by
  intro L R σ st y σ' hdp he kt kf
  exact h1 L R σ st y σ' hdp he kt (fun hu => i_goto C hd ht (kf hu))
theorem e_goto (C : Ctx l b V cc own nL h) {a : XI} {q2 : Nat} {off : Int} (h1 : EI V Γ d p a q) (hd : decode cc q = .ok (.goto off, 3)) (ht : (q : Int) + off = (q2 : Int)) : EI V Γ d p a q2 := by
  intro L R σ st x σ' hdp he k
  exact h1 L R σ st x σ' hdp he (fun hx => i_goto C hd ht (k hx))
theorem e_gotoL (C : Ctx l b V cc own nL h) {a : XI} {q2 : Nat} {off : Int} (h1 : EL V Γ d p a q) (hd : decode cc q = .ok (.goto off, 3)) (ht : (q : Int) + off = (q2 : Int)) : EL V Γ d p a q2 := by
  intro L R σ st x σ' hdp he k
  exact h1 L R σ st x σ' hdp he (fun hx => i_goto C hd ht (k hx))
theorem e_tern2 {c : XC} {a e : XI} {t f : Nat} (hc : EC V Γ d p c t f) (h1 : EI V Γ d t a q) (h2 : EI V Γ d f e q) : EI V Γ d p (tern c a e) q := by
  intro L R σ st x σ' hdp he k
  obtain ⟨u, s, e1, e2⟩ := bn_inv he
  refine hc L R σ st u s hdp e1 (fun hu => ?_) (fun hu => ?_)
  · rw [if_pos hu] at e2
    exact h1 L R s st x σ' hdp e2 k
  · rw [if_neg (by rw [hu]; decide)] at e2
    exact h2 L R s st x σ' hdp e2 k
theorem e_tern2L {c : XC} {a e : XI} {t f : Nat} (hc : EC V Γ d p c t f) (h1 : EL V Γ d t a q) (h2 : EL V Γ d f e q) : EL V Γ d p (tern c a e) q := by
  intro L R σ st x σ' hdp he k
  obtain ⟨u, s, e1, e2⟩ := bn_inv he
  refine hc L R σ st u s hdp e1 (fun hu => ?_) (fun hu => ?_)
  · rw [if_pos hu] at e2
    exact h1 L R s st x σ' hdp e2 k
  · rw [if_neg (by rw [hu]; decide)] at e2
    exact h2 L R s st x σ' hdp e2 k
theorem e_tern (C : Ctx l b V cc own nL h) {c : XC} {a e : XI} {t f q1 : Nat} {off : Int} (hc : EC V Γ d p c t f) (h1 : EI V Γ d t a q1) (hd : decode cc q1 = .ok (.goto off, 3)) (ht : (q1 : Int) + off = (q : Int)) (h2 : EI V Γ d f e q) : EI V Γ d p (tern c a e) q := by
  intro L R σ st x σ' hdp he k
  obtain ⟨u, s, e1, e2⟩ := bn_inv he
  refine hc L R σ st u s hdp e1 (fun hu => ?_) (fun hu => ?_)
  · rw [if_pos hu] at e2
    exact h1 L R s st x σ' hdp e2 (fun hx => i_goto C hd ht (k hx))
  · rw [if_neg (by rw [hu]; decide)] at e2
    exact h2 L R s st x σ' hdp e2 k
theorem e_ternL (C : Ctx l b V cc own nL h) {c : XC} {a e : XI} {t f q1 : Nat} {off : Int} (hc : EC V Γ d p c t f) (h1 : EL V Γ d t a q1) (hd : decode cc q1 = .ok (.goto off, 3)) (ht : (q1 : Int) + off = (q : Int)) (h2 : EL V Γ d f e q) : EL V Γ d p (tern c a e) q := by
  intro L R σ st x σ' hdp he k
  obtain ⟨u, s, e1, e2⟩ := bn_inv he
  refine hc L R σ st u s hdp e1 (fun hu => ?_) (fun hu => ?_)
  · rw [if_pos hu] at e2
    exact h1 L R s st x σ' hdp e2 (fun hx => i_goto C hd ht (k hx))
  · rw [if_neg (by rw [hu]; decide)] at e2
    exact h2 L R s st x σ' hdp e2 k
end SEG
