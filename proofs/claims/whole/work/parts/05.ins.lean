/-! the links among nest mates: words that stay, but are none of gtb -/
def nestL : List (String × Nat × MethodName × String) := [("BandPark", 24, yX7_init, "BandPark"), ("BandPark$Park", 61, yX1_init, "BandPark"), ("BandPark$Park", 69, yX10_init, "BandPark"), ("BandPark$Park", 70, yX0_init, "BandPark"), ("BandPark$EveningsReader", 11, yX1_init, "BandPark"), ("BandPark", 56, yX5_init, "BandPark"), ("BandPark", 95, yX9_init, "BandPark"), ("BandPark", 443, yX7_doSteps, "BandPark")]
def NW (U : State) : Prop := ∀ q ∈ nestL, va_Nw (.methodLinkNest q.1 q.2.1 q.2.2.1 q.2.2.2) U
theorem NW.warm {s U : State} (hW : s.WarmedH U.vm) (h : NW s) : NW U := fun q hq => va_Nw.warmM hW (h q hq)
theorem NW.calling {U : State} {g : JFrame} {mk : MethodId} {a : Array Value} (h : NW U) : NW (U.calling g mk a) := fun q hq => va_Nw.same rfl rfl (h q hq)
/-! one row an instruction, over states of integers -/
abbrev VV : Type := Nat → GG → ZZ → List Value → Prop
def Ctx (l : Launch) (b : Nat) (V : VV) (cc : ByteArray) (own : String) (nL h : Nat) : Prop :=
  ∃ (p : Program) (e : Env) (R : Room) (s : State) (m : MethodId) (args : Array Value) (below : List Frame) (meth : Method) (c : Code) (cells slots : Nat) (Q : State → Prop) (D : va_G) (tc : Nat → ClassId),
    V = At p l e R s m args below meth c cells slots Q nL D tc b ∧ p.tables.exec = Jvm.exec ∧ c.code = cc ∧ c.maxLocals = nL ∧ s.vm.findClass own = some m.cls ∧ (∀ w ∈ gtb, w.before args s = true) ∧ va_K D vwCl (tysL tc) s ∧ (h ≤ R.frames ∧ NW s) ∧ 48 * h ≤ R.locals ∧ cells ≤ R.cells ∧ slots ≤ R.slots
theorem cE_cong {tc : Nat → ClassId} {b a : Nat} {σ τ : SS} (h : σ a = τ a) : cE tc b σ a = cE tc b τ a := by
  unfold cE
  rw [h]
theorem ups_ne {σ : SS} {a k a' : Nat} {v : Int} (h : a' ≠ a) : ups σ a k v a' = σ a' := by
  funext k'
  simp [ups, h]
theorem ups_same {σ : SS} {a k k' : Nat} {v : Int} : ups σ a k v a k' = if k' = k then v else σ a k' := by
  simp [ups]
theorem Hp_upd {D : va_G} {tc : Nat → ClassId} {b a k : Nat} {v : Int} {σ : SS} {H H1 : Heap} (hH : Hp D tc b σ H) (hn : ∀ e, cE tc b (ups σ a k v) a = some e → va_at D vwCl (b + a, e) H1) (ho : ∀ q : Nat, q ≠ b + a → H1[q]? = H[q]?) : Hp D tc b (ups σ a k v) H1 := by
  intro a' e he
  by_cases h : a' = a
  · subst h
    exact hn e he
  · rw [cE_cong (ups_ne h)] at he
    exact (hH a' e he).kept (ho _ (fun q => h (by omega)))
theorem okS_upd {σ : SS} {a k : Nat} {v : Int} (h : okS σ) (hv : rng (kd a k) v) : okS (ups σ a k v) := by
  intro a' k'
  unfold ups
  split
  · rename_i hq
    rw [hq.1, hq.2]
    exact hv
  · exact h a' k'
theorem va_P1 {D : va_G} {cl : List vw_C} {q : Nat × va_E} {H : Heap} (h : va_at D cl q H) : va_P D cl [q] H := by
  intro k x hx
  have h0 : k < 1 := (List.getElem?_eq_some_iff.mp hx).1
  rw [show k = 0 by omega] at hx
  cases hx
  exact h
def FL (own : String) (index ci k kn : Nat) : Prop := ∃ (Cn : String) (T : u_T) (N : Nat), vwCl[ci]? = some (Cn, T, N) ∧ k < N ∧ (∀ w ∈ u_ws Cn T N, w ∈ gtb) ∧ Cond.fieldLink own index (T k).1 (T k).2.1 (T k).2.2.1 ∈ gtb ∧ (fkX ci)[k]? = some kn
/-- a field that may be written -/
def PL (own : String) (index ci k kn : Nat) : Prop := ∃ (Cn : String) (T : u_T) (N : Nat) (ty : Nat → FieldType), vwCl[ci]? = some (Cn, T, N) ∧ k < N ∧ (∀ w ∈ u_ws Cn T N, w ∈ gtb) ∧ Cond.fieldLink own index (T k).1 (T k).2.1 (T k).2.2.1 ∈ gtb ∧ (fkX ci)[k]? = some kn ∧ (fkX ci).length = N ∧
  (∀ k, k < N → parseFieldDescriptor (T k).2.2.1 = some (ty k)) ∧ (∀ a, a < N → ∀ b, b < N → a ≠ b → (T a).2.1 ≠ (T b).2.1) ∧ (T k).2.2.2 = false ∧ ty k = (match kn with | 1 => FieldType.long | 3 => .boolean | _ => .int)
def stI (k : Nat) (Γ : GG) : GG := (k, 0) :: Γ.filter fun q => !(q.1 == k) && !(q.1 + 1 == k && q.2 == 1)
def stR (k : Nat) (Γ : GG) : GG := (k, 2) :: Γ.filter fun q => !(q.1 == k) && !(q.1 + 1 == k && q.2 == 1)
def stL (k : Nat) (Γ : GG) : GG := (k, 1) :: Γ.filter fun q => !(q.1 == k) && (!(q.1 == k + 1) && !(q.1 + 1 == k && q.2 == 1))
theorem vK_cat (b k : Nat) (x : Int) (r : Nat) : (vK b k x r).category = 2 ↔ k = 1 := by
  unfold vK
  split
  · simp [vL, Value.category]
  · simp [Value.category]
  · simp [Value.category]
  · rename_i h1 h2 h5
    constructor
    · intro h
      simp [vI, Value.category] at h
    · intro h
      exact absurd h h1
theorem lvG_at {b i k kn : Nat} {Γ : GG} {z : ZZ} (h : Γ[i]? = some (k, kn)) : (lvG b Γ z)[i]? = some (k, vK b kn (z.1.getD k 0) (z.2.1.getD k 0)) := by
  unfold lvG
  rw [List.getElem?_map, h]
  rfl
theorem getD_set_ne {α : Type} {l : List α} {i j : Nat} {x d : α} (h : j ≠ i) : (l.set i x).getD j d = l.getD j d := by
  rw [List.getD_eq_getElem?_getD, List.getD_eq_getElem?_getD, List.getElem?_set_ne (fun q => h q.symm)]
theorem getD_set_self {α : Type} {l : List α} {i : Nat} {x d : α} (h : i < l.length) : (l.set i x).getD i d = x := by
  rw [List.getD_eq_getElem?_getD, List.getElem?_set_self h]
  rfl
/-- the locals behind a store of one slot -/
theorem lvG_st1 {b k kn : Nat} {Γ : GG} {z z' : ZZ} {v : Value} (hv : vK b kn (z'.1.getD k 0) (z'.2.1.getD k 0) = v) (hn : ∀ j, j ≠ k → z'.1.getD j 0 = z.1.getD j 0 ∧ z'.2.1.getD j 0 = z.2.1.getD j 0) :
    ∀ q ∈ lvG b ((k, kn) :: Γ.filter fun q => !(q.1 == k) && !(q.1 + 1 == k && q.2 == 1)) z', q ∈ (k, v) :: (lvG b Γ z).filter (fun q => !(q.1 == k) && !(q.1 + 1 == k && q.2.category == 2)) := by
  intro q hq
  unfold lvG at hq
  rw [List.map_cons, hv] at hq
  rcases List.mem_cons.mp hq with rfl | hq
  · exact List.mem_cons_self
  · obtain ⟨g, hg, rfl⟩ := List.mem_map.mp hq
    obtain ⟨hg1, hg2⟩ := List.mem_filter.mp hg
    simp only [Bool.and_eq_true, Bool.not_eq_true', beq_eq_false_iff_ne, ne_eq, Bool.and_eq_false_iff] at hg2
    refine List.mem_cons_of_mem _ (List.mem_filter.mpr ⟨?_, ?_⟩)
    · rw [(hn g.1 hg2.1).1, (hn g.1 hg2.1).2]
      exact List.mem_map.mpr ⟨g, hg1, rfl⟩
    · simp only [Bool.and_eq_true, Bool.not_eq_true', beq_eq_false_iff_ne, ne_eq, Bool.and_eq_false_iff]
      refine ⟨hg2.1, ?_⟩
      rcases hg2.2 with h | h
      · exact Or.inl h
      · exact Or.inr (fun q => h ((vK_cat _ _ _ _).mp q))
theorem lvG_st2 {b k : Nat} {Γ : GG} {z z' : ZZ} {v : Value} (hv : vK b 1 (z'.1.getD k 0) (z'.2.1.getD k 0) = v) (hn : ∀ j, j ≠ k → z'.1.getD j 0 = z.1.getD j 0 ∧ z'.2.1.getD j 0 = z.2.1.getD j 0) :
    ∀ q ∈ lvG b (stL k Γ) z', q ∈ (k, v) :: (lvG b Γ z).filter (fun q => !(q.1 == k) && (!(q.1 == k + 1) && !(q.1 + 1 == k && q.2.category == 2))) := by
  intro q hq
  unfold lvG stL at hq
  rw [List.map_cons, hv] at hq
  rcases List.mem_cons.mp hq with rfl | hq
  · exact List.mem_cons_self
  · obtain ⟨g, hg, rfl⟩ := List.mem_map.mp hq
    obtain ⟨hg1, hg2⟩ := List.mem_filter.mp hg
    simp only [Bool.and_eq_true, Bool.not_eq_true', beq_eq_false_iff_ne, ne_eq, Bool.and_eq_false_iff] at hg2
    refine List.mem_cons_of_mem _ (List.mem_filter.mpr ⟨?_, ?_⟩)
    · rw [(hn g.1 hg2.1).1, (hn g.1 hg2.1).2]
      exact List.mem_map.mpr ⟨g, hg1, rfl⟩
    · simp only [Bool.and_eq_true, Bool.not_eq_true', beq_eq_false_iff_ne, ne_eq, Bool.and_eq_false_iff]
      refine ⟨hg2.1, hg2.2.1, ?_⟩
      rcases hg2.2.2 with h | h
      · exact Or.inl h
      · exact Or.inr (fun q => h ((vK_cat _ _ _ _).mp q))
theorem lv_has_le {ls : Array Slot} {n : Nat} {l l' : List (Nat × Value)} (h : lv_has ls n l) (hs : ∀ q ∈ l', q ∈ l) : lv_has ls n l' := ⟨h.1, h.2.1, fun q hq => h.2.2 q (hs q hq)⟩
section INS
variable {l : Launch} {b : Nat} {V : VV} {cc : ByteArray} {own : String} {nL h pc : Nat} {Γ : GG} {z : ZZ} {L : List Int} {R : List Nat} {σ : SS} {st : List Value}

theorem i_iconst (C : Ctx l b V cc own nL h) {n : Int} (hd : decode cc pc = .ok (.iconst n, 1)) (k : V (pc + 1) Γ z (vI n :: st)) : V pc Γ z st := by
  obtain ⟨p, e, Rm, s, m, args, below, meth, c, cells, slots, Q, D, tc, rfl, hx, hb, hml, hown, hts, hK, hfr, hlo, hce, hsl⟩ := C
  intro okσ okl ls H locs hl hH hA
  exact lv_iconst hx hb hd rfl (k okσ okl ls H locs hl hH hA)
theorem i_bipush (C : Ctx l b V cc own nL h) {n : Int} (hd : decode cc pc = .ok (.bipush n, 2)) (hn : (Int8.ofInt n).toInt32 = Int32.ofInt n) (k : V (pc + 2) Γ z (vI n :: st)) : V pc Γ z st := by
  obtain ⟨p, e, Rm, s, m, args, below, meth, c, cells, slots, Q, D, tc, rfl, hx, hb, hml, hown, hts, hK, hfr, hlo, hce, hsl⟩ := C
  intro okσ okl ls H locs hl hH hA
  exact lv_bipush hx hb hd hn (k okσ okl ls H locs hl hH hA)
theorem i_sipush (C : Ctx l b V cc own nL h) {n : Int} (hd : decode cc pc = .ok (.sipush n, 3)) (hn : (Int16.ofInt n).toInt32 = Int32.ofInt n) (k : V (pc + 3) Γ z (vI n :: st)) : V pc Γ z st := by
  obtain ⟨p, e, Rm, s, m, args, below, meth, c, cells, slots, Q, D, tc, rfl, hx, hb, hml, hown, hts, hK, hfr, hlo, hce, hsl⟩ := C
  intro okσ okl ls H locs hl hH hA
  exact lv_sipush hx hb hd hn (k okσ okl ls H locs hl hH hA)
theorem i_lconst (C : Ctx l b V cc own nL h) {n : Fin 2} {x : Int} (hd : decode cc pc = .ok (.lconst n, 1)) (hn : Int64.ofNat (n : Nat) = Int64.ofInt x) (k : V (pc + 1) Γ z (vL x :: st)) : V pc Γ z st := by
  obtain ⟨p, e, Rm, s, m, args, below, meth, c, cells, slots, Q, D, tc, rfl, hx, hb, hml, hown, hts, hK, hfr, hlo, hce, hsl⟩ := C
  intro okσ okl ls H locs hl hH hA
  exact lv_lconst hx hb hd hn (k okσ okl ls H locs hl hH hA)
theorem i_ldc (C : Ctx l b V cc own nL h) {i : Nat} {n : Int} (hd : decode cc pc = .ok (.ldc i, 2)) (hn : Cond.constant own i (Int32.ofInt n) ∈ gtb) (k : V (pc + 2) Γ z (vI n :: st)) : V pc Γ z st := by
  obtain ⟨p, e, Rm, s, m, args, below, meth, c, cells, slots, Q, D, tc, rfl, hx, hb, hml, hown, hts, hK, hfr, hlo, hce, hsl⟩ := C
  intro okσ okl ls H locs hl hH hA
  exact lv_ldc hx hb hown (hts _ hn) hd (k okσ okl ls H locs hl hH hA)
theorem i_ldcw (C : Ctx l b V cc own nL h) {i : Nat} {n : Int} (hd : decode cc pc = .ok (.ldc_w i, 3)) (hn : Cond.constant own i (Int32.ofInt n) ∈ gtb) (k : V (pc + 3) Γ z (vI n :: st)) : V pc Γ z st := by
  obtain ⟨p, e, Rm, s, m, args, below, meth, c, cells, slots, Q, D, tc, rfl, hx, hb, hml, hown, hts, hK, hfr, hlo, hce, hsl⟩ := C
  intro okσ okl ls H locs hl hH hA
  exact lv_ldcw hx hb hown (hts _ hn) hd (k okσ okl ls H locs hl hH hA)
theorem i_ldc2 (C : Ctx l b V cc own nL h) {i : Nat} {n : Int} (hd : decode cc pc = .ok (.ldc2_w i, 3)) (hn : Cond.constantLong own i (Int64.ofInt n) ∈ gtb) (k : V (pc + 3) Γ z (vL n :: st)) : V pc Γ z st := by
  obtain ⟨p, e, Rm, s, m, args, below, meth, c, cells, slots, Q, D, tc, rfl, hx, hb, hml, hown, hts, hK, hfr, hlo, hce, hsl⟩ := C
  intro okσ okl ls H locs hl hH hA
  exact lv_ldc2 hx hb hown (hts _ hn) hd (k okσ okl ls H locs hl hH hA)
theorem i_iload_n (C : Ctx l b V cc own nL h) {j : Fin 4} {i g : Nat} (hd : decode cc pc = .ok (.iload_n j, 1)) (hj : (j : Nat) = i) (hg : Γ[g]? = some (i, 0)) (k : V (pc + 1) Γ z (vI (z.1.getD i 0) :: st)) : V pc Γ z st := by
  obtain ⟨p, e, Rm, s, m, args, below, meth, c, cells, slots, Q, D, tc, rfl, hx, hb, hml, hown, hts, hK, hfr, hlo, hce, hsl⟩ := C
  intro okσ okl ls H locs hl hH hA
  exact lv_iload_n hx hb hd hj (lv_at hl g (lvG_at hg)) (k okσ okl ls H locs hl hH hA)
theorem i_iload (C : Ctx l b V cc own nL h) {i g : Nat} (hd : decode cc pc = .ok (.iload i, 2)) (hg : Γ[g]? = some (i, 0)) (k : V (pc + 2) Γ z (vI (z.1.getD i 0) :: st)) : V pc Γ z st := by
  obtain ⟨p, e, Rm, s, m, args, below, meth, c, cells, slots, Q, D, tc, rfl, hx, hb, hml, hown, hts, hK, hfr, hlo, hce, hsl⟩ := C
  intro okσ okl ls H locs hl hH hA
  exact lv_iload hx hb hd (lv_at hl g (lvG_at hg)) (k okσ okl ls H locs hl hH hA)
theorem i_lload_n (C : Ctx l b V cc own nL h) {j : Fin 4} {i g : Nat} (hd : decode cc pc = .ok (.lload_n j, 1)) (hj : (j : Nat) = i) (hg : Γ[g]? = some (i, 1)) (k : V (pc + 1) Γ z (vL (z.1.getD i 0) :: st)) : V pc Γ z st := by
  obtain ⟨p, e, Rm, s, m, args, below, meth, c, cells, slots, Q, D, tc, rfl, hx, hb, hml, hown, hts, hK, hfr, hlo, hce, hsl⟩ := C
  intro okσ okl ls H locs hl hH hA
  exact lv_lload_n hx hb hd hj (lv_at hl g (lvG_at hg)) (k okσ okl ls H locs hl hH hA)
theorem i_lload (C : Ctx l b V cc own nL h) {i g : Nat} (hd : decode cc pc = .ok (.lload i, 2)) (hg : Γ[g]? = some (i, 1)) (k : V (pc + 2) Γ z (vL (z.1.getD i 0) :: st)) : V pc Γ z st := by
  obtain ⟨p, e, Rm, s, m, args, below, meth, c, cells, slots, Q, D, tc, rfl, hx, hb, hml, hown, hts, hK, hfr, hlo, hce, hsl⟩ := C
  intro okσ okl ls H locs hl hH hA
  exact lv_lload hx hb hd (lv_at hl g (lvG_at hg)) (k okσ okl ls H locs hl hH hA)
theorem i_aload_n (C : Ctx l b V cc own nL h) {j : Fin 4} {i g : Nat} (hd : decode cc pc = .ok (.aload_n j, 1)) (hj : (j : Nat) = i) (hg : Γ[g]? = some (i, 2)) (k : V (pc + 1) Γ z (.ref (b + z.2.1.getD i 0) :: st)) : V pc Γ z st := by
  obtain ⟨p, e, Rm, s, m, args, below, meth, c, cells, slots, Q, D, tc, rfl, hx, hb, hml, hown, hts, hK, hfr, hlo, hce, hsl⟩ := C
  intro okσ okl ls H locs hl hH hA
  exact lv_aload_n hx hb hd hj (lv_at hl g (lvG_at hg)) (k okσ okl ls H locs hl hH hA)
theorem i_aload (C : Ctx l b V cc own nL h) {i g : Nat} (hd : decode cc pc = .ok (.aload i, 2)) (hg : Γ[g]? = some (i, 2)) (k : V (pc + 2) Γ z (.ref (b + z.2.1.getD i 0) :: st)) : V pc Γ z st := by
  obtain ⟨p, e, Rm, s, m, args, below, meth, c, cells, slots, Q, D, tc, rfl, hx, hb, hml, hown, hts, hK, hfr, hlo, hce, hsl⟩ := C
  intro okσ okl ls H locs hl hH hA
  exact lv_aload hx hb hd (lv_at hl g (lvG_at hg)) (k okσ okl ls H locs hl hH hA)
end INS
theorem okL_st {nL k kn : Nat} {Γ Γ' : GG} {z z' : ZZ} (h : okL nL Γ z) (h1 : z'.1.length = nL) (h2 : z'.2.1.length = nL) (hx : rng kn (z'.1.getD k 0)) (hn : ∀ j, j ≠ k → z'.1.getD j 0 = z.1.getD j 0) (hΓ : ∀ q ∈ Γ', q = (k, kn) ∨ (q ∈ Γ ∧ q.1 ≠ k)) : okL nL Γ' z' := by
  refine ⟨h1, h2, fun q hq => ?_⟩
  rcases hΓ q hq with rfl | ⟨h3, h4⟩
  · exact hx
  · rw [hn _ h4]
    exact h.2.2 q h3
theorem stI_mem {k : Nat} {Γ : GG} : ∀ q ∈ stI k Γ, q = (k, 0) ∨ (q ∈ Γ ∧ q.1 ≠ k) := by
  intro q hq
  rcases List.mem_cons.mp hq with h | h
  · exact Or.inl h
  · obtain ⟨h1, h2⟩ := List.mem_filter.mp h
    simp only [Bool.and_eq_true, Bool.not_eq_true', beq_eq_false_iff_ne, ne_eq] at h2
    exact Or.inr ⟨h1, h2.1⟩
theorem stR_mem {k : Nat} {Γ : GG} : ∀ q ∈ stR k Γ, q = (k, 2) ∨ (q ∈ Γ ∧ q.1 ≠ k) := by
  intro q hq
  rcases List.mem_cons.mp hq with h | h
  · exact Or.inl h
  · obtain ⟨h1, h2⟩ := List.mem_filter.mp h
    simp only [Bool.and_eq_true, Bool.not_eq_true', beq_eq_false_iff_ne, ne_eq] at h2
    exact Or.inr ⟨h1, h2.1⟩
theorem stL_mem {k : Nat} {Γ : GG} : ∀ q ∈ stL k Γ, q = (k, 1) ∨ (q ∈ Γ ∧ q.1 ≠ k) := by
  intro q hq
  rcases List.mem_cons.mp hq with h | h
  · exact Or.inl h
  · obtain ⟨h1, h2⟩ := List.mem_filter.mp h
    simp only [Bool.and_eq_true, Bool.not_eq_true', beq_eq_false_iff_ne, ne_eq] at h2
    exact Or.inr ⟨h1, h2.1⟩
section INS2
variable {l : Launch} {b : Nat} {V : VV} {cc : ByteArray} {own : String} {nL h pc : Nat} {Γ : GG} {z : ZZ} {L : List Int} {R : List Nat} {σ : SS} {st : List Value}

theorem i_istore_n (C : Ctx l b V cc own nL h) {j : Fin 4} {i : Nat} {x : Int} (hd : decode cc pc = .ok (.istore_n j, 1)) (hj : (j : Nat) = i) (hi : i < nL) (hxr : rng 0 x) (k : V (pc + 1) (stI i Γ) ((L.set i x, R, σ) : ZZ) st) : V pc Γ (L, R, σ) (vI x :: st) := by
  obtain ⟨p, e, Rm, s, m, args, below, meth, c, cells, slots, Q, D, tc, rfl, hx, hb, hml, hown, hts, hK, hfr, hlo, hce, hsl⟩ := C
  intro okσ okl ls H locs hl hH hA
  have hlen : i < (L).length := by
    have := okl.1
    simp only at this
    omega
  have hne : ∀ j, j ≠ i → (((L.set i x, R, σ) : ZZ).1.getD j 0 = ((L, R, σ) : ZZ).1.getD j 0) ∧ (((L.set i x, R, σ) : ZZ).2.1.getD j 0 = ((L, R, σ) : ZZ).2.1.getD j 0) := fun j hj => by
    constructor <;> first | rfl | exact getD_set_ne hj
  refine lv_istore_n hx hb hd hj hl hi rfl (fun ls' hl' => ?_)
  refine k okσ (okL_st (k := i) (kn := 0) okl (by simp only [List.length_set]; exact okl.1) (by simp only [List.length_set]; exact okl.2.1) (by show rng 0 ((L.set i x).getD i 0); rw [getD_set_self hlen]; exact hxr) (fun j hj => (hne j hj).1) stI_mem) ls' H locs (lv_has_le hl' (lvG_st1 ?_ hne)) hH hA
  show vK b 0 _ _ = _
  rw [getD_set_self hlen]; rfl
theorem i_istore (C : Ctx l b V cc own nL h) {i : Nat} {x : Int} (hd : decode cc pc = .ok (.istore i, 2)) (hi : i < nL) (hxr : rng 0 x) (k : V (pc + 2) (stI i Γ) ((L.set i x, R, σ) : ZZ) st) : V pc Γ (L, R, σ) (vI x :: st) := by
  obtain ⟨p, e, Rm, s, m, args, below, meth, c, cells, slots, Q, D, tc, rfl, hx, hb, hml, hown, hts, hK, hfr, hlo, hce, hsl⟩ := C
  intro okσ okl ls H locs hl hH hA
  have hlen : i < (L).length := by
    have := okl.1
    simp only at this
    omega
  have hne : ∀ j, j ≠ i → (((L.set i x, R, σ) : ZZ).1.getD j 0 = ((L, R, σ) : ZZ).1.getD j 0) ∧ (((L.set i x, R, σ) : ZZ).2.1.getD j 0 = ((L, R, σ) : ZZ).2.1.getD j 0) := fun j hj => by
    constructor <;> first | rfl | exact getD_set_ne hj
  refine lv_istore hx hb hd hl hi rfl (fun ls' hl' => ?_)
  refine k okσ (okL_st (k := i) (kn := 0) okl (by simp only [List.length_set]; exact okl.1) (by simp only [List.length_set]; exact okl.2.1) (by show rng 0 ((L.set i x).getD i 0); rw [getD_set_self hlen]; exact hxr) (fun j hj => (hne j hj).1) stI_mem) ls' H locs (lv_has_le hl' (lvG_st1 ?_ hne)) hH hA
  show vK b 0 _ _ = _
  rw [getD_set_self hlen]; rfl
theorem i_lstore_n (C : Ctx l b V cc own nL h) {j : Fin 4} {i : Nat} {x : Int} (hd : decode cc pc = .ok (.lstore_n j, 1)) (hj : (j : Nat) = i) (hi : i + 1 < nL) (hxr : rng 1 x) (k : V (pc + 1) (stL i Γ) ((L.set i x, R, σ) : ZZ) st) : V pc Γ (L, R, σ) (vL x :: st) := by
  obtain ⟨p, e, Rm, s, m, args, below, meth, c, cells, slots, Q, D, tc, rfl, hx, hb, hml, hown, hts, hK, hfr, hlo, hce, hsl⟩ := C
  intro okσ okl ls H locs hl hH hA
  have hlen : i < (L).length := by
    have := okl.1
    simp only at this
    omega
  have hne : ∀ j, j ≠ i → (((L.set i x, R, σ) : ZZ).1.getD j 0 = ((L, R, σ) : ZZ).1.getD j 0) ∧ (((L.set i x, R, σ) : ZZ).2.1.getD j 0 = ((L, R, σ) : ZZ).2.1.getD j 0) := fun j hj => by
    constructor <;> first | rfl | exact getD_set_ne hj
  refine lv_lstore_n hx hb hd hj hl hi rfl (fun ls' hl' => ?_)
  refine k okσ (okL_st (k := i) (kn := 1) okl (by simp only [List.length_set]; exact okl.1) (by simp only [List.length_set]; exact okl.2.1) (by show rng 1 ((L.set i x).getD i 0); rw [getD_set_self hlen]; exact hxr) (fun j hj => (hne j hj).1) stL_mem) ls' H locs (lv_has_le hl' (lvG_st2 ?_ hne)) hH hA
  show vK b 1 _ _ = _
  rw [getD_set_self hlen]; rfl
theorem i_lstore (C : Ctx l b V cc own nL h) {i : Nat} {x : Int} (hd : decode cc pc = .ok (.lstore i, 2)) (hi : i + 1 < nL) (hxr : rng 1 x) (k : V (pc + 2) (stL i Γ) ((L.set i x, R, σ) : ZZ) st) : V pc Γ (L, R, σ) (vL x :: st) := by
  obtain ⟨p, e, Rm, s, m, args, below, meth, c, cells, slots, Q, D, tc, rfl, hx, hb, hml, hown, hts, hK, hfr, hlo, hce, hsl⟩ := C
  intro okσ okl ls H locs hl hH hA
  have hlen : i < (L).length := by
    have := okl.1
    simp only at this
    omega
  have hne : ∀ j, j ≠ i → (((L.set i x, R, σ) : ZZ).1.getD j 0 = ((L, R, σ) : ZZ).1.getD j 0) ∧ (((L.set i x, R, σ) : ZZ).2.1.getD j 0 = ((L, R, σ) : ZZ).2.1.getD j 0) := fun j hj => by
    constructor <;> first | rfl | exact getD_set_ne hj
  refine lv_lstore hx hb hd hl hi rfl (fun ls' hl' => ?_)
  refine k okσ (okL_st (k := i) (kn := 1) okl (by simp only [List.length_set]; exact okl.1) (by simp only [List.length_set]; exact okl.2.1) (by show rng 1 ((L.set i x).getD i 0); rw [getD_set_self hlen]; exact hxr) (fun j hj => (hne j hj).1) stL_mem) ls' H locs (lv_has_le hl' (lvG_st2 ?_ hne)) hH hA
  show vK b 1 _ _ = _
  rw [getD_set_self hlen]; rfl
theorem i_astore_n (C : Ctx l b V cc own nL h) {j : Fin 4} {i : Nat} {x : Nat} (hd : decode cc pc = .ok (.astore_n j, 1)) (hj : (j : Nat) = i) (hi : i < nL) (k : V (pc + 1) (stR i Γ) ((L, R.set i x, σ) : ZZ) st) : V pc Γ (L, R, σ) (.ref (b + x) :: st) := by
  obtain ⟨p, e, Rm, s, m, args, below, meth, c, cells, slots, Q, D, tc, rfl, hx, hb, hml, hown, hts, hK, hfr, hlo, hce, hsl⟩ := C
  intro okσ okl ls H locs hl hH hA
  have hlen : i < (R).length := by
    have := okl.2.1
    simp only at this
    omega
  have hne : ∀ j, j ≠ i → (((L, R.set i x, σ) : ZZ).1.getD j 0 = ((L, R, σ) : ZZ).1.getD j 0) ∧ (((L, R.set i x, σ) : ZZ).2.1.getD j 0 = ((L, R, σ) : ZZ).2.1.getD j 0) := fun j hj => by
    constructor <;> first | rfl | exact getD_set_ne hj
  refine lv_astore_n hx hb hd hj hl hi rfl (fun ls' hl' => ?_)
  refine k okσ (okL_st (k := i) (kn := 2) okl (by simp only [List.length_set]; exact okl.1) (by simp only [List.length_set]; exact okl.2.1) trivial (fun j hj => (hne j hj).1) stR_mem) ls' H locs (lv_has_le hl' (lvG_st1 ?_ hne)) hH hA
  show vK b 2 _ _ = _
  rw [getD_set_self hlen]; rfl
theorem i_astore (C : Ctx l b V cc own nL h) {i : Nat} {x : Nat} (hd : decode cc pc = .ok (.astore i, 2)) (hi : i < nL) (k : V (pc + 2) (stR i Γ) ((L, R.set i x, σ) : ZZ) st) : V pc Γ (L, R, σ) (.ref (b + x) :: st) := by
  obtain ⟨p, e, Rm, s, m, args, below, meth, c, cells, slots, Q, D, tc, rfl, hx, hb, hml, hown, hts, hK, hfr, hlo, hce, hsl⟩ := C
  intro okσ okl ls H locs hl hH hA
  have hlen : i < (R).length := by
    have := okl.2.1
    simp only at this
    omega
  have hne : ∀ j, j ≠ i → (((L, R.set i x, σ) : ZZ).1.getD j 0 = ((L, R, σ) : ZZ).1.getD j 0) ∧ (((L, R.set i x, σ) : ZZ).2.1.getD j 0 = ((L, R, σ) : ZZ).2.1.getD j 0) := fun j hj => by
    constructor <;> first | rfl | exact getD_set_ne hj
  refine lv_astore hx hb hd hl hi rfl (fun ls' hl' => ?_)
  refine k okσ (okL_st (k := i) (kn := 2) okl (by simp only [List.length_set]; exact okl.1) (by simp only [List.length_set]; exact okl.2.1) trivial (fun j hj => (hne j hj).1) stR_mem) ls' H locs (lv_has_le hl' (lvG_st1 ?_ hne)) hH hA
  show vK b 2 _ _ = _
  rw [getD_set_self hlen]; rfl
theorem i_iinc (C : Ctx l b V cc own nL h) {i g : Nat} {n : Int} (hd : decode cc pc = .ok (.iinc i n, 3)) (hg : Γ[g]? = some (i, 0)) (hi : i < nL) (k : V (pc + 3) (stI i Γ) ((L.set i (wI (L.getD i 0 + n)), R, σ) : ZZ) st) : V pc Γ (L, R, σ) st := by
  obtain ⟨p, e, Rm, s, m, args, below, meth, c, cells, slots, Q, D, tc, rfl, hx, hb, hml, hown, hts, hK, hfr, hlo, hce, hsl⟩ := C
  intro okσ okl ls H locs hl hH hA
  have hlen : i < (L).length := by
    have := okl.1
    simp only at this
    omega
  have hne : ∀ j, j ≠ i → (((L.set i (wI (L.getD i 0 + n)), R, σ) : ZZ).1.getD j 0 = ((L, R, σ) : ZZ).1.getD j 0) ∧ (((L.set i (wI (L.getD i 0 + n)), R, σ) : ZZ).2.1.getD j 0 = ((L, R, σ) : ZZ).2.1.getD j 0) := fun j hj => by
    constructor <;> first | rfl | exact getD_set_ne hj
  refine lv_iinc hx hb hd hl (k := g) (lvG_at hg) rfl hi rfl (fun ls' hl' => ?_)
  refine k okσ (okL_st (k := i) (kn := 0) okl (by simp only [List.length_set]; exact okl.1) (by simp only [List.length_set]; exact okl.2.1) (by show rng 0 ((L.set i _).getD i 0); rw [getD_set_self hlen]; exact inI_w _) (fun j hj => (hne j hj).1) stI_mem) ls' H locs (lv_has_le hl' (lvG_st1 ?_ hne)) hH hA
  show vK b 0 _ _ = _
  rw [getD_set_self hlen]
  show Value.int (Int32.ofInt (wI _)) = _
  rw [ofI_w, Int32.ofInt_add]
theorem i_iadd (C : Ctx l b V cc own nL h) {x y : Int} (hd : decode cc pc = .ok (.iadd, 1)) (k : V (pc + 1) Γ z (vI (wI (x + y)) :: st)) : V pc Γ z (vI y :: vI x :: st) := by
  obtain ⟨p, e, Rm, s, m, args, below, meth, c, cells, slots, Q, D, tc, rfl, hx, hb, hml, hown, hts, hK, hfr, hlo, hce, hsl⟩ := C
  intro okσ okl ls H locs hl hH hA
  have k' := k okσ okl ls H locs hl hH hA
  rw [vI, ofI_w, Int32.ofInt_add] at k'
  exact lv_iadd hx hb hd k'
theorem i_isub (C : Ctx l b V cc own nL h) {x y : Int} (hd : decode cc pc = .ok (.isub, 1)) (k : V (pc + 1) Γ z (vI (wI (x - y)) :: st)) : V pc Γ z (vI y :: vI x :: st) := by
  obtain ⟨p, e, Rm, s, m, args, below, meth, c, cells, slots, Q, D, tc, rfl, hx, hb, hml, hown, hts, hK, hfr, hlo, hce, hsl⟩ := C
  intro okσ okl ls H locs hl hH hA
  have k' := k okσ okl ls H locs hl hH hA
  rw [vI, ofI_w, Int32.ofInt_sub] at k'
  exact lv_isub hx hb hd k'
theorem i_imul (C : Ctx l b V cc own nL h) {x y : Int} (hd : decode cc pc = .ok (.imul, 1)) (k : V (pc + 1) Γ z (vI (wI (x * y)) :: st)) : V pc Γ z (vI y :: vI x :: st) := by
  obtain ⟨p, e, Rm, s, m, args, below, meth, c, cells, slots, Q, D, tc, rfl, hx, hb, hml, hown, hts, hK, hfr, hlo, hce, hsl⟩ := C
  intro okσ okl ls H locs hl hH hA
  have k' := k okσ okl ls H locs hl hH hA
  rw [vI, ofI_w, Int32.ofInt_mul] at k'
  exact lv_imul hx hb hd k'
theorem i_iand (C : Ctx l b V cc own nL h) {x y : Int} (hd : decode cc pc = .ok (.iand, 1)) (k : V (pc + 1) Γ z (vI (andI x y) :: st)) : V pc Γ z (vI y :: vI x :: st) := by
  obtain ⟨p, e, Rm, s, m, args, below, meth, c, cells, slots, Q, D, tc, rfl, hx, hb, hml, hown, hts, hK, hfr, hlo, hce, hsl⟩ := C
  intro okσ okl ls H locs hl hH hA
  have k' := k okσ okl ls H locs hl hH hA
  rw [vI, andI, Int32.ofInt_toInt] at k'
  exact lv_iand hx hb hd k'
theorem i_ior (C : Ctx l b V cc own nL h) {x y : Int} (hd : decode cc pc = .ok (.ior, 1)) (k : V (pc + 1) Γ z (vI (orI x y) :: st)) : V pc Γ z (vI y :: vI x :: st) := by
  obtain ⟨p, e, Rm, s, m, args, below, meth, c, cells, slots, Q, D, tc, rfl, hx, hb, hml, hown, hts, hK, hfr, hlo, hce, hsl⟩ := C
  intro okσ okl ls H locs hl hH hA
  have k' := k okσ okl ls H locs hl hH hA
  rw [vI, orI, Int32.ofInt_toInt] at k'
  exact lv_ior hx hb hd k'
theorem i_ixor (C : Ctx l b V cc own nL h) {x y : Int} (hd : decode cc pc = .ok (.ixor, 1)) (k : V (pc + 1) Γ z (vI (xorI x y) :: st)) : V pc Γ z (vI y :: vI x :: st) := by
  obtain ⟨p, e, Rm, s, m, args, below, meth, c, cells, slots, Q, D, tc, rfl, hx, hb, hml, hown, hts, hK, hfr, hlo, hce, hsl⟩ := C
  intro okσ okl ls H locs hl hH hA
  have k' := k okσ okl ls H locs hl hH hA
  rw [vI, xorI, Int32.ofInt_toInt] at k'
  exact lv_ixor hx hb hd k'
theorem i_ishl (C : Ctx l b V cc own nL h) {x y : Int} (hd : decode cc pc = .ok (.ishl, 1)) (k : V (pc + 1) Γ z (vI (shlI x y) :: st)) : V pc Γ z (vI y :: vI x :: st) := by
  obtain ⟨p, e, Rm, s, m, args, below, meth, c, cells, slots, Q, D, tc, rfl, hx, hb, hml, hown, hts, hK, hfr, hlo, hce, hsl⟩ := C
  intro okσ okl ls H locs hl hH hA
  have k' := k okσ okl ls H locs hl hH hA
  rw [vI, shlI, Int32.ofInt_toInt] at k'
  exact lv_ishl hx hb hd k'
theorem i_ishr (C : Ctx l b V cc own nL h) {x y : Int} (hd : decode cc pc = .ok (.ishr, 1)) (k : V (pc + 1) Γ z (vI (shrI x y) :: st)) : V pc Γ z (vI y :: vI x :: st) := by
  obtain ⟨p, e, Rm, s, m, args, below, meth, c, cells, slots, Q, D, tc, rfl, hx, hb, hml, hown, hts, hK, hfr, hlo, hce, hsl⟩ := C
  intro okσ okl ls H locs hl hH hA
  have k' := k okσ okl ls H locs hl hH hA
  rw [vI, shrI, Int32.ofInt_toInt] at k'
  exact lv_ishr hx hb hd k'
theorem i_iushr (C : Ctx l b V cc own nL h) {x y : Int} (hd : decode cc pc = .ok (.iushr, 1)) (k : V (pc + 1) Γ z (vI (ushrI x y) :: st)) : V pc Γ z (vI y :: vI x :: st) := by
  obtain ⟨p, e, Rm, s, m, args, below, meth, c, cells, slots, Q, D, tc, rfl, hx, hb, hml, hown, hts, hK, hfr, hlo, hce, hsl⟩ := C
  intro okσ okl ls H locs hl hH hA
  have k' := k okσ okl ls H locs hl hH hA
  rw [vI, ushrI, Int32.ofInt_toInt] at k'
  exact lv_iushr hx hb hd rfl k'
theorem i_idiv (C : Ctx l b V cc own nL h) {x y : Int} (hd : decode cc pc = .ok (.idiv, 1)) (hxi : inI x) (hyi : inI y) (hy : y ≠ 0) (k : V (pc + 1) Γ z (vI (wI (x.tdiv y)) :: st)) : V pc Γ z (vI y :: vI x :: st) := by
  obtain ⟨p, e, Rm, s, m, args, below, meth, c, cells, slots, Q, D, tc, rfl, hx, hb, hml, hown, hts, hK, hfr, hlo, hce, hsl⟩ := C
  intro okσ okl ls H locs hl hH hA
  have k' := k okσ okl ls H locs hl hH hA
  rw [vI, ofI_div hxi hyi] at k'
  exact lv_idiv hx hb hd (fun q => hy ((ofI_inj hyi inI_0).mp (q.trans ofI_0))) k'
theorem i_irem (C : Ctx l b V cc own nL h) {x y : Int} (hd : decode cc pc = .ok (.irem, 1)) (hxi : inI x) (hyi : inI y) (hy : y ≠ 0) (k : V (pc + 1) Γ z (vI (wI (x.tmod y)) :: st)) : V pc Γ z (vI y :: vI x :: st) := by
  obtain ⟨p, e, Rm, s, m, args, below, meth, c, cells, slots, Q, D, tc, rfl, hx, hb, hml, hown, hts, hK, hfr, hlo, hce, hsl⟩ := C
  intro okσ okl ls H locs hl hH hA
  have k' := k okσ okl ls H locs hl hH hA
  rw [vI, ofI_rem hxi hyi] at k'
  exact lv_irem hx hb hd (fun q => hy ((ofI_inj hyi inI_0).mp (q.trans ofI_0))) k'
theorem i_ineg (C : Ctx l b V cc own nL h) {x : Int} (hd : decode cc pc = .ok (.ineg, 1)) (k : V (pc + 1) Γ z (vI (wI (-x)) :: st)) : V pc Γ z (vI x :: st) := by
  obtain ⟨p, e, Rm, s, m, args, below, meth, c, cells, slots, Q, D, tc, rfl, hx, hb, hml, hown, hts, hK, hfr, hlo, hce, hsl⟩ := C
  intro okσ okl ls H locs hl hH hA
  have k' := k okσ okl ls H locs hl hH hA
  rw [vI, ofI_w, Int32.ofInt_neg] at k'
  exact lv_ineg hx hb hd k'
theorem i_ladd (C : Ctx l b V cc own nL h) {x y : Int} (hd : decode cc pc = .ok (.ladd, 1)) (k : V (pc + 1) Γ z (vL (wL (x + y)) :: st)) : V pc Γ z (vL y :: vL x :: st) := by
  obtain ⟨p, e, Rm, s, m, args, below, meth, c, cells, slots, Q, D, tc, rfl, hx, hb, hml, hown, hts, hK, hfr, hlo, hce, hsl⟩ := C
  intro okσ okl ls H locs hl hH hA
  have k' := k okσ okl ls H locs hl hH hA
  rw [vL, ofL_w, Int64.ofInt_add] at k'
  exact lv_ladd hx hb hd k'
theorem i_lsub (C : Ctx l b V cc own nL h) {x y : Int} (hd : decode cc pc = .ok (.lsub, 1)) (k : V (pc + 1) Γ z (vL (wL (x - y)) :: st)) : V pc Γ z (vL y :: vL x :: st) := by
  obtain ⟨p, e, Rm, s, m, args, below, meth, c, cells, slots, Q, D, tc, rfl, hx, hb, hml, hown, hts, hK, hfr, hlo, hce, hsl⟩ := C
  intro okσ okl ls H locs hl hH hA
  have k' := k okσ okl ls H locs hl hH hA
  rw [vL, ofL_w, Int64.ofInt_sub] at k'
  exact lv_lsub hx hb hd k'
theorem i_lmul (C : Ctx l b V cc own nL h) {x y : Int} (hd : decode cc pc = .ok (.lmul, 1)) (k : V (pc + 1) Γ z (vL (wL (x * y)) :: st)) : V pc Γ z (vL y :: vL x :: st) := by
  obtain ⟨p, e, Rm, s, m, args, below, meth, c, cells, slots, Q, D, tc, rfl, hx, hb, hml, hown, hts, hK, hfr, hlo, hce, hsl⟩ := C
  intro okσ okl ls H locs hl hH hA
  have k' := k okσ okl ls H locs hl hH hA
  rw [vL, ofL_w, Int64.ofInt_mul] at k'
  exact lv_lmul hx hb hd k'
theorem i_ldiv (C : Ctx l b V cc own nL h) {x y : Int} (hd : decode cc pc = .ok (.ldiv, 1)) (hxi : inL x) (hyi : inL y) (hy : y ≠ 0) (k : V (pc + 1) Γ z (vL (wL (x.tdiv y)) :: st)) : V pc Γ z (vL y :: vL x :: st) := by
  obtain ⟨p, e, Rm, s, m, args, below, meth, c, cells, slots, Q, D, tc, rfl, hx, hb, hml, hown, hts, hK, hfr, hlo, hce, hsl⟩ := C
  intro okσ okl ls H locs hl hH hA
  have k' := k okσ okl ls H locs hl hH hA
  rw [vL, ofL_div hxi hyi] at k'
  exact lv_ldiv hx hb hd (fun q => hy ((ofL_inj hyi (by unfold inL; omega)).mp (q.trans (by decide +kernel)))) k'
theorem i_lrem (C : Ctx l b V cc own nL h) {x y : Int} (hd : decode cc pc = .ok (.lrem, 1)) (hxi : inL x) (hyi : inL y) (hy : y ≠ 0) (k : V (pc + 1) Γ z (vL (wL (x.tmod y)) :: st)) : V pc Γ z (vL y :: vL x :: st) := by
  obtain ⟨p, e, Rm, s, m, args, below, meth, c, cells, slots, Q, D, tc, rfl, hx, hb, hml, hown, hts, hK, hfr, hlo, hce, hsl⟩ := C
  intro okσ okl ls H locs hl hH hA
  have k' := k okσ okl ls H locs hl hH hA
  rw [vL, ofL_rem hxi hyi] at k'
  exact lv_lrem hx hb hd (fun q => hy ((ofL_inj hyi (by unfold inL; omega)).mp (q.trans (by decide +kernel)))) k'
theorem i_i2l (C : Ctx l b V cc own nL h) {x : Int} (hd : decode cc pc = .ok (.i2l, 1)) (hxi : inI x) (k : V (pc + 1) Γ z (vL x :: st)) : V pc Γ z (vI x :: st) := by
  obtain ⟨p, e, Rm, s, m, args, below, meth, c, cells, slots, Q, D, tc, rfl, hx, hb, hml, hown, hts, hK, hfr, hlo, hce, hsl⟩ := C
  intro okσ okl ls H locs hl hH hA
  exact lv_i2l hx hb hd (i2l_of hxi) (k okσ okl ls H locs hl hH hA)
theorem i_l2i (C : Ctx l b V cc own nL h) {x : Int} (hd : decode cc pc = .ok (.l2i, 1)) (k : V (pc + 1) Γ z (vI (wI x) :: st)) : V pc Γ z (vL x :: st) := by
  obtain ⟨p, e, Rm, s, m, args, below, meth, c, cells, slots, Q, D, tc, rfl, hx, hb, hml, hown, hts, hK, hfr, hlo, hce, hsl⟩ := C
  intro okσ okl ls H locs hl hH hA
  have k' := k okσ okl ls H locs hl hH hA
  rw [vI, ofI_w] at k'
  exact lv_l2i hx hb hd Int64.toInt32_ofInt k'
theorem i_i2b (C : Ctx l b V cc own nL h) {x : Int} (hd : decode cc pc = .ok (.i2b, 1)) (k : V (pc + 1) Γ z (vI (i2b x) :: st)) : V pc Γ z (vI x :: st) := by
  obtain ⟨p, e, Rm, s, m, args, below, meth, c, cells, slots, Q, D, tc, rfl, hx, hb, hml, hown, hts, hK, hfr, hlo, hce, hsl⟩ := C
  intro okσ okl ls H locs hl hH hA
  have k' := k okσ okl ls H locs hl hH hA
  rw [vI, i2b, Int32.ofInt_toInt] at k'
  exact lv_i2b hx hb hd rfl k'
theorem i_i2s (C : Ctx l b V cc own nL h) {x : Int} (hd : decode cc pc = .ok (.i2s, 1)) (k : V (pc + 1) Γ z (vI (i2s x) :: st)) : V pc Γ z (vI x :: st) := by
  obtain ⟨p, e, Rm, s, m, args, below, meth, c, cells, slots, Q, D, tc, rfl, hx, hb, hml, hown, hts, hK, hfr, hlo, hce, hsl⟩ := C
  intro okσ okl ls H locs hl hH hA
  have k' := k okσ okl ls H locs hl hH hA
  rw [vI, i2s, Int32.ofInt_toInt] at k'
  exact lv_i2s hx hb hd rfl k'
theorem i_lcmp (C : Ctx l b V cc own nL h) {x y : Int} (hd : decode cc pc = .ok (.lcmp, 1)) (hxi : inL x) (hyi : inL y) (k : V (pc + 1) Γ z (vI (cmpL x y) :: st)) : V pc Γ z (vL y :: vL x :: st) := by
  obtain ⟨p, e, Rm, s, m, args, below, meth, c, cells, slots, Q, D, tc, rfl, hx, hb, hml, hown, hts, hK, hfr, hlo, hce, hsl⟩ := C
  intro okσ okl ls H locs hl hH hA
  have k' := k okσ okl ls H locs hl hH hA
  rw [vI, ← cmpL_of hxi hyi] at k'
  exact W.lcmp hx hb hd k'
theorem i_dup (C : Ctx l b V cc own nL h) {v : Value} (hd : decode cc pc = .ok (.dup, 1)) (hv : v.category = 1) (k : V (pc + 1) Γ z (v :: v :: st)) : V pc Γ z (v :: st) := by
  obtain ⟨p, e, Rm, s, m, args, below, meth, c, cells, slots, Q, D, tc, rfl, hx, hb, hml, hown, hts, hK, hfr, hlo, hce, hsl⟩ := C
  intro okσ okl ls H locs hl hH hA
  exact lv_dup hx hb hd hv (k okσ okl ls H locs hl hH hA)
theorem i_pop (C : Ctx l b V cc own nL h) {v : Value} (hd : decode cc pc = .ok (.pop, 1)) (hv : v.category = 1) (k : V (pc + 1) Γ z st) : V pc Γ z (v :: st) := by
  obtain ⟨p, e, Rm, s, m, args, below, meth, c, cells, slots, Q, D, tc, rfl, hx, hb, hml, hown, hts, hK, hfr, hlo, hce, hsl⟩ := C
  intro okσ okl ls H locs hl hH hA
  exact lv_pop hx hb hd hv (k okσ okl ls H locs hl hH hA)
theorem i_dup2 (C : Ctx l b V cc own nL h) {v u : Value} (hd : decode cc pc = .ok (.dup2, 1)) (hv : v.category = 1) (hu : u.category = 1) (k : V (pc + 1) Γ z (v :: u :: v :: u :: st)) : V pc Γ z (v :: u :: st) := by
  obtain ⟨p, e, Rm, s, m, args, below, meth, c, cells, slots, Q, D, tc, rfl, hx, hb, hml, hown, hts, hK, hfr, hlo, hce, hsl⟩ := C
  intro okσ okl ls H locs hl hH hA
  exact lv_dup2_11 hx hb hd hv hu (k okσ okl ls H locs hl hH hA)
theorem i_icmp_eq (C : Ctx l b V cc own nL h) {x y off : Int} {tgt : Nat} (hd : decode cc pc = .ok (.if_icmp .eq off, 3)) (ht : (pc : Int) + off = (tgt : Int)) (hxi : inI x) (hyi : inI y) (kt : x = y → V tgt Γ z st) (kf : ¬ (x = y) → V (pc + 3) Γ z st) : V pc Γ z (vI y :: vI x :: st) := by
  obtain ⟨p, e, Rm, s, m, args, below, meth, c, cells, slots, Q, D, tc, rfl, hx, hb, hml, hown, hts, hK, hfr, hlo, hce, hsl⟩ := C
  intro okσ okl ls H locs hl hH hA
  refine lv_icmp_eq hx hb hd ht (fun q => kt ((ofI_inj hxi hyi).mp q) okσ okl ls H locs hl hH hA) (fun q => kf (fun r => q ((ofI_inj hxi hyi).mpr r)) okσ okl ls H locs hl hH hA)
theorem i_if_eq (C : Ctx l b V cc own nL h) {x off : Int} {tgt : Nat} (hd : decode cc pc = .ok (.ifCond .eq off, 3)) (ht : (pc : Int) + off = (tgt : Int)) (hxi : inI x) (kt : x = 0 → V tgt Γ z st) (kf : ¬ (x = 0) → V (pc + 3) Γ z st) : V pc Γ z (vI x :: st) := by
  obtain ⟨p, e, Rm, s, m, args, below, meth, c, cells, slots, Q, D, tc, rfl, hx, hb, hml, hown, hts, hK, hfr, hlo, hce, hsl⟩ := C
  intro okσ okl ls H locs hl hH hA
  refine lv_if_eq hx hb hd ht (fun q => kt ((ofI_inj hxi inI_0).mp (by rw [← ofI_0]; exact q)) okσ okl ls H locs hl hH hA) (fun q => kf (fun r => q (by have r := (ofI_inj hxi inI_0).mpr r; rw [← ofI_0] at r; exact r)) okσ okl ls H locs hl hH hA)
theorem i_icmp_ne (C : Ctx l b V cc own nL h) {x y off : Int} {tgt : Nat} (hd : decode cc pc = .ok (.if_icmp .ne off, 3)) (ht : (pc : Int) + off = (tgt : Int)) (hxi : inI x) (hyi : inI y) (kt : ¬ x = y → V tgt Γ z st) (kf : ¬ (¬ x = y) → V (pc + 3) Γ z st) : V pc Γ z (vI y :: vI x :: st) := by
  obtain ⟨p, e, Rm, s, m, args, below, meth, c, cells, slots, Q, D, tc, rfl, hx, hb, hml, hown, hts, hK, hfr, hlo, hce, hsl⟩ := C
  intro okσ okl ls H locs hl hH hA
  refine lv_icmp_ne hx hb hd ht (fun q => kt (fun r => q ((ofI_inj hxi hyi).mpr r)) okσ okl ls H locs hl hH hA) (fun q => kf (fun r => r ((ofI_inj hxi hyi).mp q)) okσ okl ls H locs hl hH hA)
theorem i_if_ne (C : Ctx l b V cc own nL h) {x off : Int} {tgt : Nat} (hd : decode cc pc = .ok (.ifCond .ne off, 3)) (ht : (pc : Int) + off = (tgt : Int)) (hxi : inI x) (kt : ¬ x = 0 → V tgt Γ z st) (kf : ¬ (¬ x = 0) → V (pc + 3) Γ z st) : V pc Γ z (vI x :: st) := by
  obtain ⟨p, e, Rm, s, m, args, below, meth, c, cells, slots, Q, D, tc, rfl, hx, hb, hml, hown, hts, hK, hfr, hlo, hce, hsl⟩ := C
  intro okσ okl ls H locs hl hH hA
  refine lv_if_ne hx hb hd ht (fun q => kt (fun r => q (((ofI_inj hxi inI_0).mpr r).trans ofI_0.symm)) okσ okl ls H locs hl hH hA) (fun q => kf (fun r => r ((ofI_inj hxi inI_0).mp (q.trans ofI_0))) okσ okl ls H locs hl hH hA)
theorem i_icmp_lt (C : Ctx l b V cc own nL h) {x y off : Int} {tgt : Nat} (hd : decode cc pc = .ok (.if_icmp .lt off, 3)) (ht : (pc : Int) + off = (tgt : Int)) (hxi : inI x) (hyi : inI y) (kt : x < y → V tgt Γ z st) (kf : ¬ (x < y) → V (pc + 3) Γ z st) : V pc Γ z (vI y :: vI x :: st) := by
  obtain ⟨p, e, Rm, s, m, args, below, meth, c, cells, slots, Q, D, tc, rfl, hx, hb, hml, hown, hts, hK, hfr, hlo, hce, hsl⟩ := C
  intro okσ okl ls H locs hl hH hA
  refine lv_icmp_lt hx hb hd ht (fun q => kt ((ofI_lt hxi hyi).mp q) okσ okl ls H locs hl hH hA) (fun q => kf (fun r => q ((ofI_lt hxi hyi).mpr r)) okσ okl ls H locs hl hH hA)
theorem i_if_lt (C : Ctx l b V cc own nL h) {x off : Int} {tgt : Nat} (hd : decode cc pc = .ok (.ifCond .lt off, 3)) (ht : (pc : Int) + off = (tgt : Int)) (hxi : inI x) (kt : x < 0 → V tgt Γ z st) (kf : ¬ (x < 0) → V (pc + 3) Γ z st) : V pc Γ z (vI x :: st) := by
  obtain ⟨p, e, Rm, s, m, args, below, meth, c, cells, slots, Q, D, tc, rfl, hx, hb, hml, hown, hts, hK, hfr, hlo, hce, hsl⟩ := C
  intro okσ okl ls H locs hl hH hA
  refine lv_if_lt hx hb hd ht (fun q => kt ((ofI_lt hxi inI_0).mp (by rw [← ofI_0]; exact q)) okσ okl ls H locs hl hH hA) (fun q => kf (fun r => q (by have r := (ofI_lt hxi inI_0).mpr r; rw [← ofI_0] at r; exact r)) okσ okl ls H locs hl hH hA)
theorem i_icmp_ge (C : Ctx l b V cc own nL h) {x y off : Int} {tgt : Nat} (hd : decode cc pc = .ok (.if_icmp .ge off, 3)) (ht : (pc : Int) + off = (tgt : Int)) (hxi : inI x) (hyi : inI y) (kt : y ≤ x → V tgt Γ z st) (kf : ¬ (y ≤ x) → V (pc + 3) Γ z st) : V pc Γ z (vI y :: vI x :: st) := by
  obtain ⟨p, e, Rm, s, m, args, below, meth, c, cells, slots, Q, D, tc, rfl, hx, hb, hml, hown, hts, hK, hfr, hlo, hce, hsl⟩ := C
  intro okσ okl ls H locs hl hH hA
  refine lv_icmp_ge hx hb hd ht (fun q => kt ((ofI_le hyi hxi).mp q) okσ okl ls H locs hl hH hA) (fun q => kf (fun r => q ((ofI_le hyi hxi).mpr r)) okσ okl ls H locs hl hH hA)
theorem i_if_ge (C : Ctx l b V cc own nL h) {x off : Int} {tgt : Nat} (hd : decode cc pc = .ok (.ifCond .ge off, 3)) (ht : (pc : Int) + off = (tgt : Int)) (hxi : inI x) (kt : 0 ≤ x → V tgt Γ z st) (kf : ¬ (0 ≤ x) → V (pc + 3) Γ z st) : V pc Γ z (vI x :: st) := by
  obtain ⟨p, e, Rm, s, m, args, below, meth, c, cells, slots, Q, D, tc, rfl, hx, hb, hml, hown, hts, hK, hfr, hlo, hce, hsl⟩ := C
  intro okσ okl ls H locs hl hH hA
  refine lv_if_ge hx hb hd ht (fun q => kt ((ofI_le inI_0 hxi).mp (by rw [← ofI_0]; exact q)) okσ okl ls H locs hl hH hA) (fun q => kf (fun r => q (by have r := (ofI_le inI_0 hxi).mpr r; rw [← ofI_0] at r; exact r)) okσ okl ls H locs hl hH hA)
theorem i_icmp_gt (C : Ctx l b V cc own nL h) {x y off : Int} {tgt : Nat} (hd : decode cc pc = .ok (.if_icmp .gt off, 3)) (ht : (pc : Int) + off = (tgt : Int)) (hxi : inI x) (hyi : inI y) (kt : y < x → V tgt Γ z st) (kf : ¬ (y < x) → V (pc + 3) Γ z st) : V pc Γ z (vI y :: vI x :: st) := by
  obtain ⟨p, e, Rm, s, m, args, below, meth, c, cells, slots, Q, D, tc, rfl, hx, hb, hml, hown, hts, hK, hfr, hlo, hce, hsl⟩ := C
  intro okσ okl ls H locs hl hH hA
  refine lv_icmp_gt hx hb hd ht (fun q => kt ((ofI_lt hyi hxi).mp q) okσ okl ls H locs hl hH hA) (fun q => kf (fun r => q ((ofI_lt hyi hxi).mpr r)) okσ okl ls H locs hl hH hA)
theorem i_if_gt (C : Ctx l b V cc own nL h) {x off : Int} {tgt : Nat} (hd : decode cc pc = .ok (.ifCond .gt off, 3)) (ht : (pc : Int) + off = (tgt : Int)) (hxi : inI x) (kt : 0 < x → V tgt Γ z st) (kf : ¬ (0 < x) → V (pc + 3) Γ z st) : V pc Γ z (vI x :: st) := by
  obtain ⟨p, e, Rm, s, m, args, below, meth, c, cells, slots, Q, D, tc, rfl, hx, hb, hml, hown, hts, hK, hfr, hlo, hce, hsl⟩ := C
  intro okσ okl ls H locs hl hH hA
  refine lv_if_gt hx hb hd ht (fun q => kt ((ofI_lt inI_0 hxi).mp (by rw [← ofI_0]; exact q)) okσ okl ls H locs hl hH hA) (fun q => kf (fun r => q (by have r := (ofI_lt inI_0 hxi).mpr r; rw [← ofI_0] at r; exact r)) okσ okl ls H locs hl hH hA)
theorem i_icmp_le (C : Ctx l b V cc own nL h) {x y off : Int} {tgt : Nat} (hd : decode cc pc = .ok (.if_icmp .le off, 3)) (ht : (pc : Int) + off = (tgt : Int)) (hxi : inI x) (hyi : inI y) (kt : x ≤ y → V tgt Γ z st) (kf : ¬ (x ≤ y) → V (pc + 3) Γ z st) : V pc Γ z (vI y :: vI x :: st) := by
  obtain ⟨p, e, Rm, s, m, args, below, meth, c, cells, slots, Q, D, tc, rfl, hx, hb, hml, hown, hts, hK, hfr, hlo, hce, hsl⟩ := C
  intro okσ okl ls H locs hl hH hA
  refine lv_icmp_le hx hb hd ht (fun q => kt ((ofI_le hxi hyi).mp q) okσ okl ls H locs hl hH hA) (fun q => kf (fun r => q ((ofI_le hxi hyi).mpr r)) okσ okl ls H locs hl hH hA)
theorem i_if_le (C : Ctx l b V cc own nL h) {x off : Int} {tgt : Nat} (hd : decode cc pc = .ok (.ifCond .le off, 3)) (ht : (pc : Int) + off = (tgt : Int)) (hxi : inI x) (kt : x ≤ 0 → V tgt Γ z st) (kf : ¬ (x ≤ 0) → V (pc + 3) Γ z st) : V pc Γ z (vI x :: st) := by
  obtain ⟨p, e, Rm, s, m, args, below, meth, c, cells, slots, Q, D, tc, rfl, hx, hb, hml, hown, hts, hK, hfr, hlo, hce, hsl⟩ := C
  intro okσ okl ls H locs hl hH hA
  refine lv_if_le hx hb hd ht (fun q => kt ((ofI_le hxi inI_0).mp (by rw [← ofI_0]; exact q)) okσ okl ls H locs hl hH hA) (fun q => kf (fun r => q (by have r := (ofI_le hxi inI_0).mpr r; rw [← ofI_0] at r; exact r)) okσ okl ls H locs hl hH hA)
theorem i_goto (C : Ctx l b V cc own nL h) {off : Int} {tgt : Nat} (hd : decode cc pc = .ok (.goto off, 3)) (ht : (pc : Int) + off = (tgt : Int)) (k : V tgt Γ z st) : V pc Γ z st := by
  obtain ⟨p, e, Rm, s, m, args, below, meth, c, cells, slots, Q, D, tc, rfl, hx, hb, hml, hown, hts, hK, hfr, hlo, hce, hsl⟩ := C
  intro okσ okl ls H locs hl hH hA
  exact lv_goto hx hb hd ht (k okσ okl ls H locs hl hH hA)
end INS2
