/-! while the objects are made: references as options, N cells so far -/
abbrev PP : Type := Nat → Nat → Option Nat
abbrev Z2 : Type := List Int × List Nat × SS × PP × Nat
def rv (b : Nat) (o : Option Nat) : Value := match o with
  | some r => .ref (b + r)
  | none => .null
def cE2 (tc : Nat → ClassId) (b : Nat) (σ : SS) (ρ : PP) (a : Nat) : Option va_E :=
  if (sh a).1 = 1 then some (.inr ((sh a).2.1, (fkX (sh a).2.1).mapIdx fun k kd => if kd = 2 then rv b (ρ a k) else vK b kd (σ a k) 0))
  else if (sh a).1 = 6 then some (.inl (tc (sh a).2.1, (sh a).2.2, .inr (.inr (.inr (.inr fun j => (ρ a j).map fun r => b + r)))))
  else cE tc b σ a
def Hp2 (D : va_G) (tc : Nat → ClassId) (b : Nat) (σ : SS) (ρ : PP) (N : Nat) (H : Heap) : Prop := H.size = b + N ∧ ∀ (a : Nat) (e : va_E), a < N → cE2 tc b σ ρ a = some e → va_at D vwCl (b + a, e) H
def szc (a : Nat) : Nat := if (sh a).1 = 1 then (fkX (sh a).2.1).length else (sh a).2.2
def szN : Nat → Nat
  | 0 => 0
  | n + 1 => szN n + szc n
theorem szN_mono {m n : Nat} (h : m ≤ n) : szN m ≤ szN n := by
  induction n with
  | zero => have : m = 0 := by omega
            subst this; exact Nat.le_refl _
  | succ n ih =>
    rcases Nat.lt_or_ge m (n + 1) with q | q
    · exact Nat.le_trans (ih (by omega)) (Nat.le_add_right _ _)
    · have : m = n + 1 := by omega
      subst this; exact Nat.le_refl _
def upP (ρ : PP) (a : Nat) (f : Nat → Option Nat) : PP := fun a' => if a' = a then f else ρ a'
def upr (ρ : PP) (a k : Nat) (v : Option Nat) : PP := fun a' k' => if a' = a ∧ k' = k then v else ρ a' k'
def isAr (comp : ClassId) (x : Class) : Bool := match x.kind with
  | .array component _ => component == comp
  | _ => false
theorem isAr_bare (vm : Vm) (comp : ClassId) : vm.bare.classes.findIdx? (isAr comp) = vm.classes.findIdx? (isAr comp) := by
  simp only [Vm.bare, Array.findIdx?_map]
  rfl
def AOI (U : State) : Prop := (Cond.arrayOver (.array .int)).before #[] U = true
theorem aoi_spec {U : State} (h : AOI U) : ∃ comp c k, U.vm.findClass (FieldType.array FieldType.int).toString = some comp ∧ U.vm.classes.findIdx? (isAr comp) = some c ∧ U.vm.classes[c]? = some k ∧ k.kind = .array comp (.array .int) ∧ U.vm.findClass ("[" ++ (FieldType.array FieldType.int).toString) = some c := by
  unfold AOI Cond.before at h
  simp only [Cond.holds, Cond.value, beq_iff_eq] at h
  cases hc : U.vm.findClass (FieldType.array FieldType.int).toString with
  | none => simp [hc] at h
  | some comp =>
    simp only [hc, Option.bind_some, Option.bind_eq_some_iff, Option.map_eq_some_iff] at h
    obtain ⟨c, hi, k, hk, hb⟩ := h
    obtain ⟨hlt, hp, -⟩ := Array.findIdx?_eq_some_iff_getElem.mp hi
    have hkk : U.vm.classes[c] = k := (Array.getElem?_eq_some_iff.mp hk).2
    rw [hkk] at hp
    cases hkind : k.kind with
    | array component ty =>
      rw [hkind] at hb hp
      simp at hb hp
      exact ⟨comp, c, k, rfl, hi, hk, by rw [hkind, hp, hb.1], hb.2⟩
    | _ => rw [hkind] at hp; simp at hp
theorem AOI.moved {u U : State} (hvm : u.vm.Alike U.vm) (h : AOI u) : AOI U := by
  obtain ⟨comp, c, k, h1, h2, h3, h4, h5⟩ := aoi_spec h
  obtain ⟨k', hk', he⟩ := hvm.2.2 _ _ h3
  have hi : U.vm.classes.findIdx? (isAr comp) = some c := by
    rw [← isAr_bare]
    first | rw [hvm.bare_eq] | rw [← hvm.bare_eq]
    rw [isAr_bare]
    exact h2
  have hkind : k'.kind = .array comp (.array .int) := by rw [he]; exact h4
  have f1 : U.vm.findClass (FieldType.array FieldType.int).toString = some comp := by rw [hvm.findClass]; exact h1
  have f2 : U.vm.findClass ("[" ++ (FieldType.array FieldType.int).toString) = some c := by rw [hvm.findClass]; exact h5
  unfold AOI Cond.before Cond.holds
  simp only [Cond.value]
  rw [f1, Option.bind_some]
  refine (congrArg (fun o : Option Nat => (o.bind (fun c => (U.vm.classes[c]?).map fun (k : Class) => match k.kind with | .array _ ty => decide (ty = FieldType.array .int) && decide (U.vm.findClass ("[" ++ (FieldType.array .int).toString) = some c) | _ => false) == some true)) hi).trans ?_
  simp [hk', hkind, f2]
/-- what strings and array classes must be like; it stays, whatever is made -/
def Ext (tc : Nat → ClassId) (U : State) : Prop := va_AO RX9 U ∧ va_AO RX3 U ∧ va_AO RX10 U ∧ va_AO RX0 U ∧ AOI U
theorem Ext.moved {tc : Nat → ClassId} {u U : State} (hvm : u.vm.Alike U.vm) (h : Ext tc u) : Ext tc U := ⟨va_AO.moved hvm h.1, va_AO.moved hvm h.2.1, va_AO.moved hvm h.2.2.1, va_AO.moved hvm h.2.2.2.1, AOI.moved hvm h.2.2.2.2⟩
abbrev BB (b : Nat) : Nat → Prop := fun q => b ≤ q
def At2 (p : Program) (l : Launch) (e : Env) (R : Room) (s : State) (m : MethodId) (args : Array Value) (below : List Frame) (meth : Method) (c : Code) (Q : State → Prop) (nL : Nat) (D : va_G) (tc : Nat → ClassId) (b N0 : Nat) : Nat → GG → Z2 → List Value → Prop := fun pc Γ z st =>
  okS z.2.2.1 → okL nL Γ (z.1, z.2.1, z.2.2.1) → N0 ≤ z.2.2.2.2 → ∀ (ls : Array Slot) (H : Heap) (locs : List Loc), lv_has ls nL (lvG b Γ (z.1, z.2.1, z.2.2.1)) → Hp2 D tc b z.2.2.1 z.2.2.2.1 z.2.2.2.2 H → va_S (BB b) s.heap H locs → W p l e R s m args below meth c H locs (z.2.2.2.2 - N0) (szN z.2.2.2.2 - szN N0) Q (F0 m pc ls st)
abbrev V2 : Type := Nat → GG → Z2 → List Value → Prop
def Ctx2 (l : Launch) (b : Nat) (V : V2) (cc : ByteArray) (own : String) (nL h N0 N1 : Nat) : Prop :=
  ∃ (p : Program) (e : Env) (R : Room) (s : State) (m : MethodId) (args : Array Value) (below : List Frame) (meth : Method) (c : Code) (Q : State → Prop) (D : va_G) (tc : Nat → ClassId),
    V = At2 p l e R s m args below meth c Q nL D tc b N0 ∧ p.tables.exec = Jvm.exec ∧ c.code = cc ∧ c.maxLocals = nL ∧ s.vm.findClass own = some m.cls ∧ (∀ w ∈ gtb, w.before args s = true) ∧ va_K D vwCl (tysL tc) s ∧ Ext tc s ∧ h ≤ R.frames ∧ 48 * h ≤ R.locals ∧ N1 - N0 ≤ R.cells ∧ szN N1 - szN N0 ≤ R.slots ∧ b ≤ s.heap.size ∧ (meth.name = "<init>" ∨ own = RL) ∧ ∃ ad, XX b ad s
theorem cE2_cong {tc : Nat → ClassId} {b a : Nat} {σ τ : SS} {ρ π : PP} (h : σ a = τ a) (h2 : ρ a = π a) : cE2 tc b σ ρ a = cE2 tc b τ π a := by
  unfold cE2
  rw [h, h2, cE_cong h]
theorem Hp2_upd {D : va_G} {tc : Nat → ClassId} {b a N : Nat} {σ τ : SS} {ρ π : PP} {H H1 : Heap} (hH : Hp2 D tc b σ ρ N H) (hs : ∀ a', a' ≠ a → τ a' = σ a' ∧ π a' = ρ a') (hn : ∀ e, cE2 tc b τ π a = some e → va_at D vwCl (b + a, e) H1) (hz : H1.size = H.size) (ho : ∀ q : Nat, q ≠ b + a → H1[q]? = H[q]?) : Hp2 D tc b τ π N H1 := by
  refine ⟨hz.trans hH.1, fun a' e ha he => ?_⟩
  by_cases h : a' = a
  · subst h
    exact hn e he
  · rw [cE2_cong (hs a' h).1 (hs a' h).2] at he
    exact (hH.2 a' e ha he).kept (ho _ (fun q => h (by omega)))
theorem Hp2_new {D : va_G} {tc : Nat → ClassId} {b N : Nat} {σ τ : SS} {ρ π : PP} {H H1 : Heap} (hH : Hp2 D tc b σ ρ N H) (hs : ∀ a', a' ≠ N → τ a' = σ a' ∧ π a' = ρ a') (hn : ∀ e, cE2 tc b τ π N = some e → va_at D vwCl (b + N, e) H1) (hz : H1.size = H.size + 1) (ho : ∀ q : Nat, q < H.size → H1[q]? = H[q]?) : Hp2 D tc b τ π (N + 1) H1 := by
  refine ⟨by rw [hz, hH.1]; omega, fun a' e ha he => ?_⟩
  by_cases h : a' = N
  · subst h
    exact hn e he
  · rw [cE2_cong (hs a' h).1 (hs a' h).2] at he
    exact (hH.2 a' e (by omega) he).kept (ho _ (by rw [hH.1]; omega))
theorem upP_ne {ρ : PP} {a a' : Nat} {f : Nat → Option Nat} (h : a' ≠ a) : upP ρ a f a' = ρ a' := if_neg h
theorem upP_same (ρ : PP) (a : Nat) (f : Nat → Option Nat) : upP ρ a f a = f := if_pos rfl
theorem upr_ne {ρ : PP} {a k a' : Nat} {v : Option Nat} (h : a' ≠ a) : upr ρ a k v a' = ρ a' := by
  funext k'
  simp [upr, h]
theorem upr_same {ρ : PP} {a k k' : Nat} {v : Option Nat} : upr ρ a k v a k' = if k' = k then v else ρ a k' := by simp [upr]
theorem okS_clr {σ : SS} {a : Nat} (h : okS σ) : okS (upA σ a (fun _ => 0)) := by
  intro a' k
  unfold upA
  split
  · show rng (kd a' k) 0
    unfold rng
    split
    · unfold inL; omega
    · trivial
    · trivial
    · exact inI_0
  · exact h a' k
def dflt (kd : Nat) : Value := if kd = 2 then .null else if kd = 1 then vL 0 else vI 0
def CI (ci : Nat) (C : String) (T : u_T) (Nf : Nat) (ty : Nat → FieldType) : Prop := vwCl[ci]? = some (C, T, Nf) ∧ (∀ w ∈ u_ws C T Nf, w ∈ gtb) ∧ (∀ k, k < Nf → parseFieldDescriptor (T k).2.2.1 = some (ty k)) ∧ (∀ a, a < Nf → ∀ b, b < Nf → a ≠ b → (T a).2.1 ≠ (T b).2.1) ∧ (fkX ci).length = Nf ∧ Cond.instantiable C Nf ∈ gtb ∧ Cond.initialized C ∈ gtb ∧ (∀ k, k < Nf → dflt ((fkX ci).getD k 0) = defaultValue (ty k)) ∧ (∀ k ∈ fkX ci, k = 0 ∨ k = 1 ∨ k = 2 ∨ k = 3)
theorem dflt_of (b : Nat) {kd : Nat} (h : kd = 0 ∨ kd = 1 ∨ kd = 2 ∨ kd = 3) : (if kd = 2 then rv b none else vK b kd 0 0) = dflt kd := by
  rcases h with rfl | rfl | rfl | rfl <;> rfl
section CON
variable {l : Launch} {b : Nat} {V : V2} {cc : ByteArray} {own : String} {nL h N0 N1 pc : Nat} {Γ : GG} {L : List Int} {R : List Nat} {σ : SS} {ρ : PP} {N : Nat} {st : List Value}
theorem j_iconst (C : Ctx2 l b V cc own nL h N0 N1) {n : Int} (hd : decode cc pc = .ok (.iconst n, 1)) (k : V (pc + 1) Γ ((L, R, σ, ρ, N) : Z2) (vI n :: st)) : V pc Γ ((L, R, σ, ρ, N) : Z2) st := by
  obtain ⟨p, e, Rm, s, m, args, below, meth, c, Q, D, tc, rfl, hx, hb, hml, hown, hts, hK, hE, hfr, hlo, hce, hsl, hbs⟩ := C
  intro okσ okl hN ls H locs hl hH hA
  exact lv_iconst hx hb hd rfl (k okσ okl hN ls H locs hl hH hA)
theorem j_bipush (C : Ctx2 l b V cc own nL h N0 N1) {n : Int} (hd : decode cc pc = .ok (.bipush n, 2)) (hn : i8b n = true) (k : V (pc + 2) Γ ((L, R, σ, ρ, N) : Z2) (vI n :: st)) : V pc Γ ((L, R, σ, ρ, N) : Z2) st := by
  obtain ⟨p, e, Rm, s, m, args, below, meth, c, Q, D, tc, rfl, hx, hb, hml, hown, hts, hK, hE, hfr, hlo, hce, hsl, hbs⟩ := C
  intro okσ okl hN ls H locs hl hH hA
  exact lv_bipush hx hb hd (i8_of hn) (k okσ okl hN ls H locs hl hH hA)
theorem j_sipush (C : Ctx2 l b V cc own nL h N0 N1) {n : Int} (hd : decode cc pc = .ok (.sipush n, 3)) (hn : i16b n = true) (k : V (pc + 3) Γ ((L, R, σ, ρ, N) : Z2) (vI n :: st)) : V pc Γ ((L, R, σ, ρ, N) : Z2) st := by
  obtain ⟨p, e, Rm, s, m, args, below, meth, c, Q, D, tc, rfl, hx, hb, hml, hown, hts, hK, hE, hfr, hlo, hce, hsl, hbs⟩ := C
  intro okσ okl hN ls H locs hl hH hA
  exact lv_sipush hx hb hd (i16_of hn) (k okσ okl hN ls H locs hl hH hA)
theorem j_lconst (C : Ctx2 l b V cc own nL h N0 N1) {n : Fin 2} {x : Int} (hd : decode cc pc = .ok (.lconst n, 1)) (hn : Int64.ofNat (n : Nat) = Int64.ofInt x) (k : V (pc + 1) Γ ((L, R, σ, ρ, N) : Z2) (vL x :: st)) : V pc Γ ((L, R, σ, ρ, N) : Z2) st := by
  obtain ⟨p, e, Rm, s, m, args, below, meth, c, Q, D, tc, rfl, hx, hb, hml, hown, hts, hK, hE, hfr, hlo, hce, hsl, hbs⟩ := C
  intro okσ okl hN ls H locs hl hH hA
  exact lv_lconst hx hb hd hn (k okσ okl hN ls H locs hl hH hA)
theorem j_aload_n (C : Ctx2 l b V cc own nL h N0 N1) {j : Fin 4} {i g : Nat} (hd : decode cc pc = .ok (.aload_n j, 1)) (hj : (j : Nat) = i) (hg : Γ[g]? = some (i, 2)) (k : V (pc + 1) Γ ((L, R, σ, ρ, N) : Z2) (.ref (b + R.getD i 0) :: st)) : V pc Γ ((L, R, σ, ρ, N) : Z2) st := by
  obtain ⟨p, e, Rm, s, m, args, below, meth, c, Q, D, tc, rfl, hx, hb, hml, hown, hts, hK, hE, hfr, hlo, hce, hsl, hbs⟩ := C
  intro okσ okl hN ls H locs hl hH hA
  exact lv_aload_n hx hb hd hj (lv_at hl g (lvG_at hg)) (k okσ okl hN ls H locs hl hH hA)
theorem j_iload_n (C : Ctx2 l b V cc own nL h N0 N1) {j : Fin 4} {i g : Nat} (hd : decode cc pc = .ok (.iload_n j, 1)) (hj : (j : Nat) = i) (hg : Γ[g]? = some (i, 0)) (k : V (pc + 1) Γ ((L, R, σ, ρ, N) : Z2) (vI (L.getD i 0) :: st)) : V pc Γ ((L, R, σ, ρ, N) : Z2) st := by
  obtain ⟨p, e, Rm, s, m, args, below, meth, c, Q, D, tc, rfl, hx, hb, hml, hown, hts, hK, hE, hfr, hlo, hce, hsl, hbs⟩ := C
  intro okσ okl hN ls H locs hl hH hA
  exact lv_iload_n hx hb hd hj (lv_at hl g (lvG_at hg)) (k okσ okl hN ls H locs hl hH hA)
theorem j_dup (C : Ctx2 l b V cc own nL h N0 N1) {v : Value} (hd : decode cc pc = .ok (.dup, 1)) (hv : v.category = 1) (k : V (pc + 1) Γ ((L, R, σ, ρ, N) : Z2) (v :: v :: st)) : V pc Γ ((L, R, σ, ρ, N) : Z2) (v :: st) := by
  obtain ⟨p, e, Rm, s, m, args, below, meth, c, Q, D, tc, rfl, hx, hb, hml, hown, hts, hK, hE, hfr, hlo, hce, hsl, hbs⟩ := C
  intro okσ okl hN ls H locs hl hH hA
  exact lv_dup hx hb hd hv (k okσ okl hN ls H locs hl hH hA)
theorem j_goto (C : Ctx2 l b V cc own nL h N0 N1) {off : Int} {tgt : Nat} (hd : decode cc pc = .ok (.goto off, 3)) (ht : (pc : Int) + off = (tgt : Int)) (k : V tgt Γ ((L, R, σ, ρ, N) : Z2) st) : V pc Γ ((L, R, σ, ρ, N) : Z2) st := by
  obtain ⟨p, e, Rm, s, m, args, below, meth, c, Q, D, tc, rfl, hx, hb, hml, hown, hts, hK, hE, hfr, hlo, hce, hsl, hbs⟩ := C
  intro okσ okl hN ls H locs hl hH hA
  exact lv_goto hx hb hd ht (k okσ okl hN ls H locs hl hH hA)
theorem j_icmp_ge (C : Ctx2 l b V cc own nL h N0 N1) {x y off : Int} {tgt : Nat} (hd : decode cc pc = .ok (.if_icmp .ge off, 3)) (ht : (pc : Int) + off = (tgt : Int)) (hxi : inI x) (hyi : inI y) (kt : y ≤ x → V tgt Γ ((L, R, σ, ρ, N) : Z2) st) (kf : ¬ y ≤ x → V (pc + 3) Γ ((L, R, σ, ρ, N) : Z2) st) : V pc Γ ((L, R, σ, ρ, N) : Z2) (vI y :: vI x :: st) := by
  obtain ⟨p, e, Rm, s, m, args, below, meth, c, Q, D, tc, rfl, hx, hb, hml, hown, hts, hK, hE, hfr, hlo, hce, hsl, hbs⟩ := C
  intro okσ okl hN ls H locs hl hH hA
  refine lv_icmp_ge hx hb hd ht (fun q => kt ((ofI_le hyi hxi).mp q) okσ okl hN ls H locs hl hH hA) (fun q => kf (fun r => q ((ofI_le hyi hxi).mpr r)) okσ okl hN ls H locs hl hH hA)
theorem j_istore_n (C : Ctx2 l b V cc own nL h N0 N1) {j : Fin 4} {i : Nat} {x : Int} (hd : decode cc pc = .ok (.istore_n j, 1)) (hj : (j : Nat) = i) (hi : i < nL) (hxr : inI x) (k : V (pc + 1) (stI i Γ) ((L.set i x, R, σ, ρ, N) : Z2) st) : V pc Γ ((L, R, σ, ρ, N) : Z2) (vI x :: st) := by
  obtain ⟨p, e, Rm, s, m, args, below, meth, c, Q, D, tc, rfl, hx, hb, hml, hown, hts, hK, hE, hfr, hlo, hce, hsl, hbs⟩ := C
  intro okσ okl hN ls H locs hl hH hA
  have hlen : i < L.length := by
    have := okl.1
    simp only at this
    omega
  have hne : ∀ j, j ≠ i → (((L.set i x, R, σ) : ZZ).1.getD j 0 = ((L, R, σ) : ZZ).1.getD j 0) ∧ (((L.set i x, R, σ) : ZZ).2.1.getD j 0 = ((L, R, σ) : ZZ).2.1.getD j 0) := fun j hj => by
    constructor <;> first | rfl | exact getD_set_ne hj
  refine lv_istore_n hx hb hd hj hl hi rfl (fun ls' hl' => ?_)
  refine k okσ (okL_st (k := i) (kn := 0) okl (by simp only [List.length_set]; exact okl.1) (by simp only [List.length_set]; exact okl.2.1) (by show rng 0 ((L.set i x).getD i 0); rw [getD_set_self hlen]; exact hxr) (fun j hj => (hne j hj).1) stI_mem) hN ls' H locs (lv_has_le hl' (lvG_st1 ?_ hne)) hH hA
  show vK b 0 _ _ = _
  rw [getD_set_self hlen]; rfl
theorem j_iinc (C : Ctx2 l b V cc own nL h N0 N1) {i g : Nat} {n : Int} (hd : decode cc pc = .ok (.iinc i n, 3)) (hg : Γ[g]? = some (i, 0)) (hi : i < nL) (k : V (pc + 3) (stI i Γ) ((L.set i (wI (L.getD i 0 + n)), R, σ, ρ, N) : Z2) st) : V pc Γ ((L, R, σ, ρ, N) : Z2) st := by
  obtain ⟨p, e, Rm, s, m, args, below, meth, c, Q, D, tc, rfl, hx, hb, hml, hown, hts, hK, hE, hfr, hlo, hce, hsl, hbs⟩ := C
  intro okσ okl hN ls H locs hl hH hA
  have hlen : i < L.length := by
    have := okl.1
    simp only at this
    omega
  have hne : ∀ j, j ≠ i → (((L.set i (wI (L.getD i 0 + n)), R, σ) : ZZ).1.getD j 0 = ((L, R, σ) : ZZ).1.getD j 0) ∧ (((L.set i (wI (L.getD i 0 + n)), R, σ) : ZZ).2.1.getD j 0 = ((L, R, σ) : ZZ).2.1.getD j 0) := fun j hj => by
    constructor <;> first | rfl | exact getD_set_ne hj
  refine lv_iinc hx hb hd hl (k := g) (lvG_at hg) rfl hi rfl (fun ls' hl' => ?_)
  refine k okσ (okL_st (k := i) (kn := 0) okl (by simp only [List.length_set]; exact okl.1) (by simp only [List.length_set]; exact okl.2.1) (by show rng 0 ((L.set i _).getD i 0); rw [getD_set_self hlen]; exact inI_w _) (fun j hj => (hne j hj).1) stI_mem) hN ls' H locs (lv_has_le hl' (lvG_st1 ?_ hne)) hH hA
  show vK b 0 _ _ = _
  rw [getD_set_self hlen]
  show Value.int (Int32.ofInt (wI _)) = _
  rw [ofI_w, Int32.ofInt_add]
theorem j_objInit (C : Ctx2 l b V cc own nL h N0 N1) {idx a : Nat} (hl1 : Cond.methodLink own idx objectInit ∈ gtb) (hw : Cond.instanceMethod objectInit ∈ gtb ∧ Cond.code objectInit ⟨#[0xb1]⟩ 1 none ∈ gtb) (hh : 1 ≤ h) (hst : dep st ≤ 8) (hd : decode cc pc = .ok (.invokespecial idx, 3)) (k : V (pc + 3) Γ ((L, R, σ, ρ, N) : Z2) st) : V pc Γ ((L, R, σ, ρ, N) : Z2) (.ref a :: st) := by
  obtain ⟨p, e, Rm, s, m, args, below, meth, c, Q, D, tc, rfl, hx, hb, hml, hown, hts, hK, hE, hfr, hlo, hce, hsl, hbs⟩ := C
  intro okσ okl hN ls H locs hl hH hA
  have hst : (st.map fun v => v.category).sum ≤ 8 := hst
  exact W.objInit hx hb hown (hts _ hl1) (hts _ hw.1) (hts _ hw.2) rfl (by rw [hml]; exact hl.1) rfl hd (by omega) (by show 2 * 0 + _ + 12 ≤ _; omega) (k okσ okl hN ls H locs hl hH hA)
theorem j_new (C : Ctx2 l b V cc own nL h N0 N1) {ci Nf index : Nat} {Cn : String} {T : u_T} {ty : Nat → FieldType} (hI : CI ci Cn T Nf ty) (hl1 : Cond.classLink own index Cn ∈ gtb) (h1 : (sh N).1 = 1) (h2 : (sh N).2.1 = ci) (hN1 : N + 1 ≤ N1) (hd : decode cc pc = .ok (.new index, 3)) (k : V (pc + 3) Γ ((L, R, upA σ N (fun _ => 0), upP ρ N (fun _ => none), N + 1) : Z2) (.ref (b + N) :: st)) : V pc Γ ((L, R, σ, ρ, N) : Z2) st := by
  obtain ⟨p, e, Rm, s, m, args, below, meth, c, Q, D, tc, rfl, hx, hb, hml, hown, hts, hK, hE, hfr, hlo, hce, hsl, hbs⟩ := C
  intro okσ okl hN ls H locs hl hH hA
  obtain ⟨hc, hin, hty, hnm, hlen, hins, hini, hdf, hkk⟩ := hI
  have hsz : H.size = b + N := hH.1
  have hN : N0 ≤ N := hN
  have m1 := szN_mono hN1
  have m2 := szN_mono hN
  have e1 : szc N = Nf := by unfold szc; rw [if_pos h1, h2, hlen]
  have e2 : szN (N + 1) = szN N + Nf := by show szN N + szc N = _; rw [e1]
  refine W.newc hx hb hown (hts _ hl1) (hts _ hins) (hts _ hini) rfl hd (by show N - N0 + 1 ≤ _; omega) (by show szN N - szN N0 + Nf ≤ _; omega) (fun cC kC f1 f2 f3 f4 => ?_)
  have c1 : N - N0 + 1 = N + 1 - N0 := by omega
  have c2 : szN N - szN N0 + Nf = szN (N + 1) - szN N0 := by omega
  show W _ _ _ _ _ _ _ _ _ _ _ _ (N - N0 + 1) (szN N - szN N0 + Nf) _ (F0 m (pc + 3) ls (.ref H.size :: st))
  rw [c1, c2, hsz]
  generalize hH1 : H.push ({ cls := cC, slots := kC.instanceTypes.map defaultValue, vm := .none } : Cell) = H1
  have z1 : H1.size = H.size + 1 := by rw [← hH1, Array.size_push]
  have g1 : H1[H.size]? = some (blank cC kC) := by rw [← hH1, Array.getElem?_push_size]; rfl
  have o1 : ∀ q : Nat, q < H.size → H1[q]? = H[q]? := fun q hq => by rw [← hH1, Array.getElem?_push, if_neg (Nat.ne_of_lt hq)]
  have hkn := hK.1 ci _ hc
  have ecC : cC = D.1 ci := Option.some.inj (f1.symm.trans hkn.2.1)
  subst ecC
  refine k (okS_clr okσ) okl (Nat.le_succ_of_le hN) ls H1 locs hl (Hp2_new hH (fun a' ha => ⟨upA_ne ha, upP_ne ha⟩) (fun e' he' => ?_) z1 o1) ⟨Nat.le_trans hA.1 (by omega), fun q q1 q2 => (o1 q (Nat.lt_of_lt_of_le q1 hA.1)).trans (hA.2.1 q q1 q2), hA.2.2⟩
  unfold cE2 at he'
  rw [if_pos h1, h2] at he'
  cases he'
  rw [hsz] at g1
  refine ⟨_, hc, t_OB.to (u_born ty hts hin hkn f2 g1 hty) (fun j hj => ?_)⟩
  have hj2 : j < (fkX ci).length := by rw [hlen]; exact hj
  show defaultValue (ty j) = vp_V _ j
  unfold vp_V
  rw [List.getD_eq_getElem?_getD, List.getElem?_mapIdx, List.getElem?_eq_getElem hj2]
  have h9 := hdf j hj
  rw [List.getD_eq_getElem?_getD, List.getElem?_eq_getElem hj2] at h9
  simp only [Option.map_some, Option.getD_some] at h9 ⊢
  rw [upP_same, upA_same, dflt_of b (hkk _ (List.getElem_mem hj2))]
  exact h9.symm
theorem j_newaInt (C : Ctx2 l b V cc own nL h N0 N1) {n : Int} (hw : Cond.arrayClass .int ∈ gtb) (h1 : (sh N).1 = 2) (h2 : ((sh N).2.2 : Int) = n) (hn : 0 ≤ n ∧ n < 3000) (hN1 : N + 1 ≤ N1) (hd : decode cc pc = .ok (.newarray .int, 2)) (k : V (pc + 2) Γ ((L, R, upA σ N (fun _ => 0), upP ρ N (fun _ => none), N + 1) : Z2) (.ref (b + N) :: st)) : V pc Γ ((L, R, σ, ρ, N) : Z2) (vI n :: st) := by
  obtain ⟨p, e, Rm, s, m, args, below, meth, c, Q, D, tc, rfl, hx, hb, hml, hown, hts, hK, hE, hfr, hlo, hce, hsl, hbs⟩ := C
  intro okσ okl hN ls H locs hl hH hA
  have hsz : H.size = b + N := hH.1
  have hN : N0 ≤ N := hN
  have hni : inI n := by unfold inI; omega
  have m1 := szN_mono hN1
  have m2 := szN_mono hN
  have e1 : szc N = n.toNat := by unfold szc; rw [if_neg (by rw [h1]; decide)]; omega
  have e2 : szN (N + 1) = szN N + n.toNat := by show szN N + szc N = _; rw [e1]
  have hcl : (Int32.ofInt n).toNatClampNeg = n.toNat := ofI_cl hni
  refine W.newa (atype := .int) hx hb (hts _ hw) rfl hd rfl (by rw [ofI_0, ofI_lt hni inI_0]; omega) (by rw [hcl]; show n.toNat * 4 ≤ _; omega) (by show N - N0 + 1 ≤ _; omega) (by rw [hcl]; show szN N - szN N0 + n.toNat ≤ _; omega) (fun cA kA comp f1 f2 f3 => ?_)
  have c1 : N - N0 + 1 = N + 1 - N0 := by omega
  have c2 : szN N - szN N0 + n.toNat = szN (N + 1) - szN N0 := by omega
  show W _ _ _ _ _ _ _ _ _ _ _ _ (N - N0 + 1) (szN N - szN N0 + (Int32.ofInt n).toNatClampNeg) _ (F0 m (pc + 2) ls (.ref H.size :: st))
  rw [hcl, c1, c2, hsz]
  have eA : cA = tc 0 := Option.some.inj (f1.symm.trans (hK.2 0 _ rfl).2)
  subst eA
  rw [arrV_new]
  generalize hH1 : H.push (arrV (tc 0) n.toNat (fun _ => defaultValue (newarray.typeOf .int))) = H1
  have z1 : H1.size = H.size + 1 := by rw [← hH1, Array.size_push]
  have g1 : H1[H.size]? = some (arrV (tc 0) n.toNat (fun _ => defaultValue (newarray.typeOf .int))) := by rw [← hH1, Array.getElem?_push_size]
  have o1 : ∀ q : Nat, q < H.size → H1[q]? = H[q]? := fun q hq => by rw [← hH1, Array.getElem?_push, if_neg (Nat.ne_of_lt hq)]
  refine k (okS_clr okσ) okl (Nat.le_succ_of_le hN) ls H1 locs hl (Hp2_new hH (fun a' ha => ⟨upA_ne ha, upP_ne ha⟩) (fun e' he' => ?_) z1 o1) ⟨Nat.le_trans hA.1 (by omega), fun q q1 q2 => (o1 q (Nat.lt_of_lt_of_le q1 hA.1)).trans (hA.2.1 q q1 q2), hA.2.2⟩
  unfold cE2 at he'
  rw [if_neg (by rw [h1]; decide), if_neg (by rw [h1]; decide), cE_2 h1] at he'
  cases he'
  rw [hsz] at g1
  show H1[b + N]? = some (vp_cell _ _)
  have e9 : (sh N).2.2 = n.toNat := by omega
  rw [g1, vp_cell_i]
  simp only [upA_same, e9]
  rfl
theorem j_newaLong (C : Ctx2 l b V cc own nL h N0 N1) {n : Int} (hw : Cond.arrayClass .long ∈ gtb) (h1 : (sh N).1 = 3) (h2 : ((sh N).2.2 : Int) = n) (hn : 0 ≤ n ∧ n < 3000) (hN1 : N + 1 ≤ N1) (hd : decode cc pc = .ok (.newarray .long, 2)) (k : V (pc + 2) Γ ((L, R, upA σ N (fun _ => 0), upP ρ N (fun _ => none), N + 1) : Z2) (.ref (b + N) :: st)) : V pc Γ ((L, R, σ, ρ, N) : Z2) (vI n :: st) := by
  obtain ⟨p, e, Rm, s, m, args, below, meth, c, Q, D, tc, rfl, hx, hb, hml, hown, hts, hK, hE, hfr, hlo, hce, hsl, hbs⟩ := C
  intro okσ okl hN ls H locs hl hH hA
  have hsz : H.size = b + N := hH.1
  have hN : N0 ≤ N := hN
  have hni : inI n := by unfold inI; omega
  have m1 := szN_mono hN1
  have m2 := szN_mono hN
  have e1 : szc N = n.toNat := by unfold szc; rw [if_neg (by rw [h1]; decide)]; omega
  have e2 : szN (N + 1) = szN N + n.toNat := by show szN N + szc N = _; rw [e1]
  have hcl : (Int32.ofInt n).toNatClampNeg = n.toNat := ofI_cl hni
  refine W.newa (atype := .long) hx hb (hts _ hw) rfl hd rfl (by rw [ofI_0, ofI_lt hni inI_0]; omega) (by rw [hcl]; show n.toNat * 8 ≤ _; omega) (by show N - N0 + 1 ≤ _; omega) (by rw [hcl]; show szN N - szN N0 + n.toNat ≤ _; omega) (fun cA kA comp f1 f2 f3 => ?_)
  have c1 : N - N0 + 1 = N + 1 - N0 := by omega
  have c2 : szN N - szN N0 + n.toNat = szN (N + 1) - szN N0 := by omega
  show W _ _ _ _ _ _ _ _ _ _ _ _ (N - N0 + 1) (szN N - szN N0 + (Int32.ofInt n).toNatClampNeg) _ (F0 m (pc + 2) ls (.ref H.size :: st))
  rw [hcl, c1, c2, hsz]
  have eA : cA = tc 1 := Option.some.inj (f1.symm.trans (hK.2 1 _ rfl).2)
  subst eA
  rw [arrV_new]
  generalize hH1 : H.push (arrV (tc 1) n.toNat (fun _ => defaultValue (newarray.typeOf .long))) = H1
  have z1 : H1.size = H.size + 1 := by rw [← hH1, Array.size_push]
  have g1 : H1[H.size]? = some (arrV (tc 1) n.toNat (fun _ => defaultValue (newarray.typeOf .long))) := by rw [← hH1, Array.getElem?_push_size]
  have o1 : ∀ q : Nat, q < H.size → H1[q]? = H[q]? := fun q hq => by rw [← hH1, Array.getElem?_push, if_neg (Nat.ne_of_lt hq)]
  refine k (okS_clr okσ) okl (Nat.le_succ_of_le hN) ls H1 locs hl (Hp2_new hH (fun a' ha => ⟨upA_ne ha, upP_ne ha⟩) (fun e' he' => ?_) z1 o1) ⟨Nat.le_trans hA.1 (by omega), fun q q1 q2 => (o1 q (Nat.lt_of_lt_of_le q1 hA.1)).trans (hA.2.1 q q1 q2), hA.2.2⟩
  unfold cE2 at he'
  rw [if_neg (by rw [h1]; decide), if_neg (by rw [h1]; decide), cE_3 h1] at he'
  cases he'
  rw [hsz] at g1
  show H1[b + N]? = some (vp_cell _ _)
  have e9 : (sh N).2.2 = n.toNat := by omega
  rw [g1, vp_cell_l]
  simp only [upA_same, e9]
  rfl
theorem j_newaByte (C : Ctx2 l b V cc own nL h N0 N1) {n : Int} (hw : Cond.arrayClass .byte ∈ gtb) (h1 : (sh N).1 = 4) (h2 : ((sh N).2.2 : Int) = n) (hn : 0 ≤ n ∧ n < 3000) (hN1 : N + 1 ≤ N1) (hd : decode cc pc = .ok (.newarray .byte, 2)) (k : V (pc + 2) Γ ((L, R, upA σ N (fun _ => 0), upP ρ N (fun _ => none), N + 1) : Z2) (.ref (b + N) :: st)) : V pc Γ ((L, R, σ, ρ, N) : Z2) (vI n :: st) := by
  obtain ⟨p, e, Rm, s, m, args, below, meth, c, Q, D, tc, rfl, hx, hb, hml, hown, hts, hK, hE, hfr, hlo, hce, hsl, hbs⟩ := C
  intro okσ okl hN ls H locs hl hH hA
  have hsz : H.size = b + N := hH.1
  have hN : N0 ≤ N := hN
  have hni : inI n := by unfold inI; omega
  have m1 := szN_mono hN1
  have m2 := szN_mono hN
  have e1 : szc N = n.toNat := by unfold szc; rw [if_neg (by rw [h1]; decide)]; omega
  have e2 : szN (N + 1) = szN N + n.toNat := by show szN N + szc N = _; rw [e1]
  have hcl : (Int32.ofInt n).toNatClampNeg = n.toNat := ofI_cl hni
  refine W.newa (atype := .byte) hx hb (hts _ hw) rfl hd rfl (by rw [ofI_0, ofI_lt hni inI_0]; omega) (by rw [hcl]; show n.toNat * 1 ≤ _; omega) (by show N - N0 + 1 ≤ _; omega) (by rw [hcl]; show szN N - szN N0 + n.toNat ≤ _; omega) (fun cA kA comp f1 f2 f3 => ?_)
  have c1 : N - N0 + 1 = N + 1 - N0 := by omega
  have c2 : szN N - szN N0 + n.toNat = szN (N + 1) - szN N0 := by omega
  show W _ _ _ _ _ _ _ _ _ _ _ _ (N - N0 + 1) (szN N - szN N0 + (Int32.ofInt n).toNatClampNeg) _ (F0 m (pc + 2) ls (.ref H.size :: st))
  rw [hcl, c1, c2, hsz]
  have eA : cA = tc 2 := Option.some.inj (f1.symm.trans (hK.2 2 _ rfl).2)
  subst eA
  rw [arrV_new]
  generalize hH1 : H.push (arrV (tc 2) n.toNat (fun _ => defaultValue (newarray.typeOf .byte))) = H1
  have z1 : H1.size = H.size + 1 := by rw [← hH1, Array.size_push]
  have g1 : H1[H.size]? = some (arrV (tc 2) n.toNat (fun _ => defaultValue (newarray.typeOf .byte))) := by rw [← hH1, Array.getElem?_push_size]
  have o1 : ∀ q : Nat, q < H.size → H1[q]? = H[q]? := fun q hq => by rw [← hH1, Array.getElem?_push, if_neg (Nat.ne_of_lt hq)]
  refine k (okS_clr okσ) okl (Nat.le_succ_of_le hN) ls H1 locs hl (Hp2_new hH (fun a' ha => ⟨upA_ne ha, upP_ne ha⟩) (fun e' he' => ?_) z1 o1) ⟨Nat.le_trans hA.1 (by omega), fun q q1 q2 => (o1 q (Nat.lt_of_lt_of_le q1 hA.1)).trans (hA.2.1 q q1 q2), hA.2.2⟩
  unfold cE2 at he'
  rw [if_neg (by rw [h1]; decide), if_neg (by rw [h1]; decide), cE_4 h1] at he'
  cases he'
  rw [hsz] at g1
  show H1[b + N]? = some (vp_cell _ _)
  have e9 : (sh N).2.2 = n.toNat := by omega
  rw [g1, vp_cell_i]
  simp only [upA_same, e9]
  rfl
theorem j_newaBool (C : Ctx2 l b V cc own nL h N0 N1) {n : Int} (hw : Cond.arrayClass .boolean ∈ gtb) (h1 : (sh N).1 = 5) (h2 : ((sh N).2.2 : Int) = n) (hn : 0 ≤ n ∧ n < 3000) (hN1 : N + 1 ≤ N1) (hd : decode cc pc = .ok (.newarray .boolean, 2)) (k : V (pc + 2) Γ ((L, R, upA σ N (fun _ => 0), upP ρ N (fun _ => none), N + 1) : Z2) (.ref (b + N) :: st)) : V pc Γ ((L, R, σ, ρ, N) : Z2) (vI n :: st) := by
  obtain ⟨p, e, Rm, s, m, args, below, meth, c, Q, D, tc, rfl, hx, hb, hml, hown, hts, hK, hE, hfr, hlo, hce, hsl, hbs⟩ := C
  intro okσ okl hN ls H locs hl hH hA
  have hsz : H.size = b + N := hH.1
  have hN : N0 ≤ N := hN
  have hni : inI n := by unfold inI; omega
  have m1 := szN_mono hN1
  have m2 := szN_mono hN
  have e1 : szc N = n.toNat := by unfold szc; rw [if_neg (by rw [h1]; decide)]; omega
  have e2 : szN (N + 1) = szN N + n.toNat := by show szN N + szc N = _; rw [e1]
  have hcl : (Int32.ofInt n).toNatClampNeg = n.toNat := ofI_cl hni
  refine W.newa (atype := .boolean) hx hb (hts _ hw) rfl hd rfl (by rw [ofI_0, ofI_lt hni inI_0]; omega) (by rw [hcl]; show n.toNat * 1 ≤ _; omega) (by show N - N0 + 1 ≤ _; omega) (by rw [hcl]; show szN N - szN N0 + n.toNat ≤ _; omega) (fun cA kA comp f1 f2 f3 => ?_)
  have c1 : N - N0 + 1 = N + 1 - N0 := by omega
  have c2 : szN N - szN N0 + n.toNat = szN (N + 1) - szN N0 := by omega
  show W _ _ _ _ _ _ _ _ _ _ _ _ (N - N0 + 1) (szN N - szN N0 + (Int32.ofInt n).toNatClampNeg) _ (F0 m (pc + 2) ls (.ref H.size :: st))
  rw [hcl, c1, c2, hsz]
  have eA : cA = tc 3 := Option.some.inj (f1.symm.trans (hK.2 3 _ rfl).2)
  subst eA
  rw [arrV_new]
  generalize hH1 : H.push (arrV (tc 3) n.toNat (fun _ => defaultValue (newarray.typeOf .boolean))) = H1
  have z1 : H1.size = H.size + 1 := by rw [← hH1, Array.size_push]
  have g1 : H1[H.size]? = some (arrV (tc 3) n.toNat (fun _ => defaultValue (newarray.typeOf .boolean))) := by rw [← hH1, Array.getElem?_push_size]
  have o1 : ∀ q : Nat, q < H.size → H1[q]? = H[q]? := fun q hq => by rw [← hH1, Array.getElem?_push, if_neg (Nat.ne_of_lt hq)]
  refine k (okS_clr okσ) okl (Nat.le_succ_of_le hN) ls H1 locs hl (Hp2_new hH (fun a' ha => ⟨upA_ne ha, upP_ne ha⟩) (fun e' he' => ?_) z1 o1) ⟨Nat.le_trans hA.1 (by omega), fun q q1 q2 => (o1 q (Nat.lt_of_lt_of_le q1 hA.1)).trans (hA.2.1 q q1 q2), hA.2.2⟩
  unfold cE2 at he'
  rw [if_neg (by rw [h1]; decide), if_neg (by rw [h1]; decide), cE_5 h1] at he'
  cases he'
  rw [hsz] at g1
  show H1[b + N]? = some (vp_cell _ _)
  have e9 : (sh N).2.2 = n.toNat := by omega
  rw [g1, vp_cell_i]
  simp only [upA_same, e9]
  rfl
end CON
