/-! rows of ints, made at once -/
section MU
variable {p : Program} {l : Launch} {e : Env} {R : Room} {s : State} {m : MethodId} {args : Array Value} {below : List Frame} {meth : Method} {c : Code} {T : State} {locs : List Loc} {cells slots : Nat}
def rowI (comp : ClassId) (k : Nat) : Cell := { cls := comp, slots := Array.replicate k (.int 0), vm := .none }
def rowO (cA : ClassId) (n h0 : Nat) : Nat → Cell
  | 0 => { cls := cA, slots := Array.replicate n .null, vm := .none }
  | i + 1 => (rowO cA n h0 i).setSlot i (.ref (h0 + 1 + i))
def rowsT (T : State) (cA comp : ClassId) (n k : Nat) : Nat → State
  | 0 => T.pushCell (rowO cA n T.heap.size 0)
  | i + 1 => ((rowsT T cA comp n k i).pushCell (rowI comp k)).setCell T.heap.size (rowO cA n T.heap.size (i + 1))
theorem rowO_f (cA : ClassId) (n h0 : Nat) : ∀ i, (rowO cA n h0 i).cls = cA ∧ (rowO cA n h0 i).vm = .none ∧ (rowO cA n h0 i).slots.size = n
  | 0 => ⟨rfl, rfl, Array.size_replicate⟩
  | i + 1 => by
    obtain ⟨a, b, d⟩ := rowO_f cA n h0 i
    refine ⟨a, b, ?_⟩
    show ((rowO cA n h0 i).slots.setIfInBounds i _).size = n
    rw [Array.size_setIfInBounds, d]
theorem rowO_s (cA : ClassId) (n h0 : Nat) : ∀ i j, j < n → (rowO cA n h0 i).slots[j]? = some (if j < i then .ref (h0 + 1 + j) else .null)
  | 0, j, h => by
    show (Array.replicate n Value.null)[j]? = _
    rw [Array.getElem?_replicate, if_pos h, if_neg (Nat.not_lt_zero _)]
  | i + 1, j, h => by
    have ih := rowO_s cA n h0 i j h
    have hs := (rowO_f cA n h0 i).2.2
    show ((rowO cA n h0 i).slots.setIfInBounds i (.ref (h0 + 1 + i)))[j]? = _
    rw [Array.getElem?_setIfInBounds]
    by_cases e : i = j
    · subst e
      rw [if_pos rfl, if_pos (by rw [hs]; exact h), if_pos (by omega)]
    · rw [if_neg e, ih]
      by_cases hj : j < i
      · rw [if_pos hj, if_pos (by omega)]
      · rw [if_neg hj, if_neg (by omega)]
theorem rowsT_f (T : State) (cA comp : ClassId) (n k : Nat) : ∀ i, (rowsT T cA comp n k i).heap.size = T.heap.size + 1 + i ∧ (rowsT T cA comp n k i).heap[T.heap.size]? = some (rowO cA n T.heap.size i) ∧ (rowsT T cA comp n k i).vm = T.vm ∧ (rowsT T cA comp n k i).slotsUsed = T.slotsUsed + n + i * k ∧ (∀ a, a < T.heap.size → (rowsT T cA comp n k i).heap[a]? = T.heap[a]?) ∧ ∀ j, j < i → (rowsT T cA comp n k i).heap[T.heap.size + 1 + j]? = some (rowI comp k)
  | 0 => ⟨by simp [rowsT], by simp [rowsT], rfl, by simp [rowsT, rowO], fun a ha => State.heap_pushCell_of_lt _ _ ha, fun j hj => absurd hj (Nat.not_lt_zero _)⟩
  | i + 1 => by
    obtain ⟨a, b, d, u, old, inn⟩ := rowsT_f T cA comp n k i
    have hlt : T.heap.size < (rowsT T cA comp n k i).heap.size := by omega
    have hb' : ((rowsT T cA comp n k i).pushCell (rowI comp k)).heap[T.heap.size]? = some (rowO cA n T.heap.size i) := by rw [State.heap_pushCell_of_lt (h := hlt)]; exact b
    refine ⟨?_, State.heap_setCell_self hb', by simp [rowsT, d], ?_, fun q hq => ?_, fun j hj => ?_⟩
    · simp [rowsT, State.setCell, a]; omega
    · simp [rowsT, u, rowI, Nat.succ_mul]; omega
    · show (((rowsT T cA comp n k i).pushCell (rowI comp k)).setCell T.heap.size _).heap[q]? = _
      rw [State.heap_setCell_other (Nat.ne_of_gt hq), State.heap_pushCell_of_lt (h := by omega)]
      exact old q hq
    · show (((rowsT T cA comp n k i).pushCell (rowI comp k)).setCell T.heap.size _).heap[T.heap.size + 1 + j]? = _
      rw [State.heap_setCell_other (show T.heap.size ≠ T.heap.size + 1 + j by omega)]
      by_cases e : j = i
      · subst e
        rw [← a]
        exact State.heap_pushCell_size _ _
      · rw [State.heap_pushCell_of_lt (h := by omega)]
        exact inn j (by omega)
theorem rowsT_top (T : State) (f : JFrame) (cA comp : ClassId) (n k : Nat) : ∀ i, rowsT (T.setTop f) cA comp n k i = (rowsT T cA comp n k i).setTop f
  | 0 => rfl
  | i + 1 => by simp only [rowsT, rowsT_top T f cA comp n k i, State.heap_setTop, State.pushCell_setTop, State.setCell_setTop]
theorem rowsT_st (X : Stand p l e R s m args below meth c T locs cells slots) (cA comp : ClassId) (n k : Nat) : ∀ i, Stand p l e R s m args below meth c (rowsT T cA comp n k i) (locs ++ (List.range i).map fun j => (⟨T.heap.size, j⟩ : Loc)) (cells + 1 + i) (slots + n + i * k)
  | 0 => by
    have h := X.pushed (rowO cA n T.heap.size 0)
    rw [(rowO_f cA n T.heap.size 0).2.2] at h
    simpa [rowsT] using h
  | i + 1 => by
    have Xi := rowsT_st X cA comp n k i
    obtain ⟨f1, f2, f3, f4, -, -⟩ := rowsT_f T cA comp n k i
    have hlt : T.heap.size < (rowsT T cA comp n k i).heap.size := by omega
    have hcell : ((rowsT T cA comp n k i).pushCell (rowI comp k)).heap[T.heap.size]? = some (rowO cA n T.heap.size i) := by rw [State.heap_pushCell_of_lt (h := hlt)]; exact f2
    have h := (Xi.pushed (rowI comp k)).stored hcell i (.ref (T.heap.size + 1 + i))
    have e1 : (rowI comp k).slots.size = k := by simp [rowI]
    rw [e1] at h
    have e2 : (locs ++ (List.range (i + 1)).map fun j => (⟨T.heap.size, j⟩ : Loc)) = (locs ++ (List.range i).map fun j => (⟨T.heap.size, j⟩ : Loc)) ++ [⟨T.heap.size, i⟩] := by simp [List.range_succ, List.append_assoc]
    have e3 : slots + n + (i + 1) * k = slots + n + i * k + k := by rw [Nat.succ_mul]; omega
    rw [e2, e3]
    exact h
end MU
section MV
variable {E : CtlPost} {e : Env} {d : Bool} {acts : List Action} {s : State}
theorem mk_new {cA comp : ClassId} {kA : Class} {ty : FieldType} {len : Nat} {v : Value} (hk : s.vm.classes[cA]? = some kA) (hkind : kA.kind = .array comp ty) (h1 : ¬ len > e.platform.arrayLengthLimit) (h2 : ¬ len * componentBytes ty > e.platform.maxHeapBytes) (hf : fits ty v = true) (hdv : v.isDefault = true) (h3 : s.heap.size < e.platform.maxCells) (h4 : s.slotsUsed + len ≤ e.platform.maxSlots) {Q : Addr → Pre} (hq : Q s.heap.size d acts (s.pushCell { cls := cA, slots := Array.replicate len v, vm := .none })) : wp (Jvm.newArray cA len v) Q E e d acts s := by
  have hm : ¬ len > e.platform.maxSlots := by omega
  have hfits : ∀ i w, (Array.replicate len v)[i]? = some w → s.fitsSlot cA .none i w = true := by
    intro i w hw
    rw [Array.getElem?_replicate] at hw
    split at hw
    · cases hw
      simp [State.fitsSlot, State.slotType?, hk, hkind, hf]
    · cases hw
  have ha : allocActs (Array.replicate len v) s.heap.size acts = acts := by
    unfold allocActs
    rw [if_pos]
    rw [Array.all_replicate]
    split <;> simp [hdv]
  simp only [Jvm.newArray, Jvm.arrayFits, wp_bind', W.ask, W.ite, h1, if_false, wp_pure', W.theClass, hk, Option.some.injEq, exists_eq_left', hkind, h2, hm, W.alloc, W.stop, Array.size_replicate, ha]
  exact ⟨h3, h4, hfits, hq⟩
theorem mk_rows {cA comp cc : ClassId} {kA kC : Class} {n k : Int32} (hkA : s.vm.classes[cA]? = some kA) (hA : kA.kind = .array comp (.array .int)) (hkC : s.vm.classes[comp]? = some kC) (hC : kC.kind = .array cc .int) (hn : ¬ n < 0) (hk : ¬ k < 0) (l1 : ¬ n.toNatClampNeg > e.platform.arrayLengthLimit) (l2 : ¬ n.toNatClampNeg * 4 > e.platform.maxHeapBytes) (l3 : ¬ k.toNatClampNeg > e.platform.arrayLengthLimit) (l4 : ¬ k.toNatClampNeg * 4 > e.platform.maxHeapBytes) (hc : s.heap.size + 1 + n.toNatClampNeg ≤ e.platform.maxCells) (hs : s.slotsUsed + n.toNatClampNeg + n.toNatClampNeg * k.toNatClampNeg ≤ e.platform.maxSlots) {Q : Addr → Pre} (hq : ∀ d' acts', Q s.heap.size d' acts' (rowsT s cA comp n.toNatClampNeg k.toNatClampNeg n.toNatClampNeg)) : wp (multianewarray.make cA [n, k]) Q E e d acts s := by
  have hfind : ([k].find? (· < 0)) = none := by simp [hk]
  rw [multianewarray.make]
  simp only [wp_bind', W.ite, hn, if_false, wp_pure', W.theClass, hkA, hA, Option.some.injEq, exists_eq_left']
  refine mk_new hkA hA l1 l2 rfl rfl (by omega) (by have := Nat.zero_le (n.toNatClampNeg * k.toNatClampNeg); omega) ?_
  simp only [hfind]
  rw [ite_self, wp_bind', Std.Legacy.Range.forIn_eq_forIn_range']
  have hsz : ([:n.toNatClampNeg] : Std.Legacy.Range).size = n.toNatClampNeg := by simp [Std.Legacy.Range.size]
  rw [hsz]
  show wp (forIn (List.range' 0 n.toNatClampNeg 1) PUnit.unit _) _ E e d acts _
  generalize hN : n.toNatClampNeg = N at *
  generalize hM : k.toNatClampNeg = M at *
  refine wp_forIn_inv (fun rest s' => ∃ i, i ≤ N ∧ rest = List.range' i (N - i) ∧ s' = rowsT s cA comp N M i) _ _ ⟨0, Nat.zero_le _, rfl, rfl⟩ ?_ ?_
  · rintro x rest s' d' acts' Q' ⟨i, hi, hl, rfl⟩ hnext
    have hlt : i < N := by
      by_cases h : i < N
      · exact h
      · rw [show N - i = 0 by omega] at hl
        simp at hl
    rw [show N - i = (N - (i + 1)) + 1 by omega, List.range'_succ] at hl
    obtain ⟨hx, hrest⟩ := List.cons.inj hl
    subst hx
    obtain ⟨f1, f2, f3, f4, -, -⟩ := rowsT_f s cA comp N M x
    obtain ⟨o1, o2, o3⟩ := rowO_f cA N s.heap.size x
    have hmul : x * M + M ≤ N * M := by
      have := Nat.mul_le_mul_right M (show x + 1 ≤ N from hlt)
      rw [Nat.succ_mul] at this
      exact this
    have hlt0 : s.heap.size < (rowsT s cA comp N M x).heap.size := by omega
    simp only [wp_bind']
    rw [multianewarray.make]
    simp only [wp_bind', W.ite, hk, if_false, wp_pure', W.theClass, f3, hkC, hC, Option.some.injEq, exists_eq_left']
    rw [hM]
    refine mk_new (by rw [f3]; exact hkC) hC l3 l4 rfl rfl (by omega) (by rw [f4]; omega) ?_
    simp only [wp_bind', W.writeLoc, wp_pure']
    refine ⟨rowO cA N s.heap.size x, by rw [State.heap_pushCell_of_lt (h := hlt0)]; exact f2, by rw [o2]; simp, by rw [o3]; exact hlt, ?_, hnext _ _ _ ⟨x + 1, hlt, hrest, ?_⟩⟩
    · rw [o1, o2]
      simp [State.fitsSlot, State.slotType?, f3, hkA, hA]
      rfl
    · rw [f1]; rfl
  · rintro s' d' acts' ⟨i, hi, hl, rfl⟩
    have hiN : i = N := by
      by_cases h : i < N
      · rw [show N - i = (N - (i + 1)) + 1 by omega, List.range'_succ] at hl
        cases hl
      · omega
    subst hiN
    simp only [wp_pure']
    exact hq _ _
end MV
section MW
variable {p : Program} {l : Launch} {e : Env} {R : Room} {s : State} {m : MethodId} {args : Array Value} {below : List Frame} {meth : Method} {c : Code} {H : Heap} {locs : List Loc} {cells slots : Nat} {Q : State → Prop}
theorem W_multi {cc : ByteArray} (hexec : p.tables.exec = Jvm.exec) (hb : c.code = cc) {own : String} {index : Nat} (hown : s.vm.findClass own = some m.cls) (hclink : (Cond.classLink own index ("[" ++ (FieldType.array FieldType.int).toString)).before args s = true) (hover : AOI s) (harr : (Cond.arrayClass .int).before args s = true) {g : JFrame} (hg : g.method = m) (hdg : decode cc g.pc = .ok (.multianewarray index 2, 4)) {n k : Int32} {rest : List Value} (hstack : g.stack = .int k :: .int n :: rest) (hn : ¬ n < 0) (hk : ¬ k < 0) (b1 : n.toNatClampNeg * 4 ≤ 536870912) (b2 : k.toNatClampNeg * 4 ≤ 536870912) (hcells : cells + (1 + n.toNatClampNeg) ≤ R.cells) (hslots : slots + (n.toNatClampNeg + n.toNatClampNeg * k.toNatClampNeg) ≤ R.slots)
    (kk : ∀ (cA comp : ClassId) (H1 : Heap), s.vm.findClass ("[" ++ (FieldType.array FieldType.int).toString) = some cA → s.vm.findClass (FieldType.array FieldType.int).toString = some comp → H1.size = H.size + 1 + n.toNatClampNeg → H1[H.size]? = some (rowO cA n.toNatClampNeg H.size n.toNatClampNeg) → (∀ a, a < H.size → H1[a]? = H[a]?) → (∀ j, j < n.toNatClampNeg → H1[H.size + 1 + j]? = some (rowI comp k.toNatClampNeg)) →
      W p l e R s m args below meth c H1 locs (cells + 1 + n.toNatClampNeg) (slots + n.toNatClampNeg + n.toNatClampNeg * k.toNatClampNeg) Q { g with pc := g.pc + 4, stack := .ref H.size :: rest }) : W p l e R s m args below meth c H locs cells slots Q g := by
  intro T hT X
  subst hT; subst hb; subst hg
  have hpl : e.platform.magicAccessors = ({} : Platform).magicAccessors := by rw [X.admits.platform]
  obtain ⟨comp, cA, kA, hcomp, -, hkA, hkindA, hnameA⟩ := aoi_spec hover
  obtain ⟨comp', kC, c3, hcomp', hkC, hkindC⟩ := Cond.arrayClass_spec harr
  have ecomp : comp' = comp := Option.some.inj (hcomp'.symm.trans hcomp)
  subst ecomp
  obtain ⟨c0, hfc0, hcl⟩ := Cond.classLink_spec hown hclink e.platform hpl
  cases hnameA.symm.trans hfc0
  obtain ⟨hg₁, hwarm₁, hready₁⟩ := State.classEntry (e := e) X.warmed hcl
  generalize T.vm.noted g.method.cls index (.cls cA) = vm₁ at hg₁ hwarm₁ hready₁
  have hal : s.vm.Alike vm₁ := hwarm₁.alike
  obtain ⟨kA₁, hkA₁, heA⟩ := hal.2.2 _ _ hkA
  obtain ⟨kC₁, hkC₁, heC⟩ := hal.2.2 _ _ hkC
  have hkindA₁ : kA₁.kind = .array comp' (.array .int) := by rw [heA]; exact hkindA
  have hkindC₁ : kC₁.kind = .array c3 .int := by rw [heC]; exact hkindC
  have X₁ := X.noted hwarm₁
  obtain ⟨hr1, hr2⟩ := X.roomAbove hcells hslots
  have XF := rowsT_st X₁ cA comp' n.toNatClampNeg k.toNatClampNeg n.toNatClampNeg
  have XD : Stand p l e R s g.method args below meth c (rowsT (T.setVm vm₁) cA comp' n.toNatClampNeg k.toNatClampNeg n.toNatClampNeg) locs (cells + 1 + n.toNatClampNeg) (slots + n.toNatClampNeg + n.toNatClampNeg * k.toNatClampNeg) := XF.dropFresh (fun x hx => by
    obtain ⟨j, -, rfl⟩ := List.mem_map.mp hx
    exact X.heapGrown)
  obtain ⟨f1, f2, f3, f4, f5, f6⟩ := rowsT_f (T.setVm vm₁) cA comp' n.toNatClampNeg k.toNatClampNeg n.toNatClampNeg
  obtain ⟨t, a1, a2⟩ := kk cA comp' _ hnameA hcomp f1 f2 f5 f6 _ rfl XD
  refine ⟨t, ?_, a2⟩
  have l1 : ¬ n.toNatClampNeg > e.platform.arrayLengthLimit := by rw [Launch.admits_arrayLengthLimit X.admits]; omega
  have l2 : ¬ n.toNatClampNeg * 4 > e.platform.maxHeapBytes := by rw [Launch.admits_maxHeapBytes X.admits]; omega
  have l3 : ¬ k.toNatClampNeg > e.platform.arrayLengthLimit := by rw [Launch.admits_arrayLengthLimit X.admits]; omega
  have l4 : ¬ k.toNatClampNeg * 4 > e.platform.maxHeapBytes := by rw [Launch.admits_maxHeapBytes X.admits]; omega
  jvm_step X.here [hexec, hdg]
  simp only [multianewarray.sem, wp_bind', W.resolveClassAt_links (State.method?_setTop g X.here.top) hg₁]
  rw [W.popN, if_neg (by decide)]
  refine ⟨g, State.topJava?_setTop' (s := T.setVm vm₁) g X.here.top, [.int n, .int k], rest, rfl, hstack, ?_⟩
  simp only [List.mapM_cons, List.mapM_nil, wp_bind', wp_pure']
  refine mk_rows (kA := kA₁) (kC := kC₁) (comp := comp') (cc := c3) hkA₁ hkindA₁ hkC₁ hkindC₁ hn hk l1 l2 l3 l4 (by show T.heap.size + 1 + _ ≤ _; omega) (by show T.slotsUsed + _ + _ ≤ _; omega) (fun d' acts' => ?_)
  have eS : ((T.setTop g).setVm vm₁).setTop { g with stack := rest } = (T.setVm vm₁).setTop { g with stack := rest } := by
    show ((T.setVm vm₁).setTop g).setTop _ = _
    rw [State.setTop_setTop]
  rw [eS, rowsT_top]
  simp only [wp_bind', W.mark, W.pushRef, State.topJava?_setTop' _ XF.here.top, Option.some.injEq, exists_eq_left', State.setTop_setTop, State.heap_setTop]
  intro acts
  simp [jvm, XF.here.top]
  exact a1
end MW
theorem rowO_a (cA : ClassId) (n h0 : Nat) : rowO cA n h0 n = arrV cA n (fun j => .ref (h0 + 1 + j)) := by
  obtain ⟨a, b, d⟩ := rowO_f cA n h0 n
  have hs : (rowO cA n h0 n).slots = Array.ofFn (n := n) (fun j => Value.ref (h0 + 1 + j.val)) := by
    apply Array.ext_getElem?
    intro i
    by_cases h : i < n
    · rw [rowO_s cA n h0 n i h, if_pos h, Array.getElem?_ofFn, dif_pos h]
    · rw [Array.getElem?_eq_none (by rw [d]; omega), Array.getElem?_eq_none (by rw [Array.size_ofFn]; omega)]
  show rowO cA n h0 n = { cls := cA, slots := Array.ofFn (n := n) (fun j => Value.ref (h0 + 1 + j.val)), vm := .none }
  have e : rowO cA n h0 n = { cls := (rowO cA n h0 n).cls, slots := (rowO cA n h0 n).slots, vm := (rowO cA n h0 n).vm } := rfl
  rw [e, hs, a, b]
theorem rowI_a (comp : ClassId) (k : Nat) : rowI comp k = arrV comp k (fun _ => .int 0) := arrV_new comp k (.int 0)
/-- rows of ints in the cells N .. N + m -/
def mzS (σ : SS) (N m : Nat) : SS := fun a => if N ≤ a ∧ a ≤ N + m then (fun _ => 0) else σ a
def mzP (ρ : PP) (N m : Nat) : PP := fun a => if a = N then (fun j => if j < m then some (N + 1 + j) else none) else if N ≤ a ∧ a ≤ N + m then (fun _ => none) else ρ a
theorem szN_rows {N m k : Nat} (h0 : szc N = m) (hi : ∀ j, j < m → szc (N + 1 + j) = k) : ∀ i, i ≤ m → szN (N + 1 + i) = szN N + m + i * k
  | 0, _ => by
    show szN N + szc N = _
    rw [h0]
    omega
  | i + 1, h => by
    have ih := szN_rows h0 hi i (by omega)
    show szN (N + 1 + i) + szc (N + 1 + i) = _
    rw [ih, hi i (by omega), Nat.succ_mul]
    omega
theorem rng_00 (k : Nat) : rng k 0 := by
  unfold rng
  split
  · unfold inL; omega
  · trivial
  · trivial
  · exact inI_0
theorem arrV_ext {cI : ClassId} {N : Nat} {f g : Nat → Value} (h : ∀ j, j < N → f j = g j) : arrV cI N f = arrV cI N g := by
  unfold arrV
  have e : (Array.ofFn (n := N) fun j => f j.val) = Array.ofFn (n := N) fun j => g j.val := by
    congr 1
    funext j
    exact h j.val j.isLt
  rw [e]
section MX
variable {l : Launch} {b : Nat} {V : V2} {cc : ByteArray} {own : String} {nL h N0 N1 pc : Nat} {Γ : GG} {L : List Int} {R : List Nat} {σ σ' : SS} {ρ ρ' : PP} {N : Nat} {st : List Value}
theorem j_multi (C : Ctx2 l b V cc own nL h N0 N1) {n k : Int} {nm index : Nat} (hl1 : Cond.classLink own index "[[I" ∈ gtb) (hac : Cond.arrayClass .int ∈ gtb) (h1 : (sh N).1 = 6) (h3 : (sh N).2.1 = 8) (h2 : ((sh N).2.2 : Int) = n) (hi : ∀ j, j < nm → (sh (N + 1 + j)).1 = 2 ∧ ((sh (N + 1 + j)).2.2 : Int) = k) (hn : 0 ≤ n ∧ n < 3000) (hk : 0 ≤ k ∧ k < 3000) (hnm : n.toNat = nm) (hN1 : N + 1 + nm ≤ N1) (hd : decode cc pc = .ok (.multianewarray index 2, 4)) (kk : V (pc + 4) Γ ((L, R, mzS σ N nm, mzP ρ N nm, N + 1 + nm) : Z2) (.ref (b + N) :: st)) : V pc Γ ((L, R, σ, ρ, N) : Z2) (vI k :: vI n :: st) := by
  obtain ⟨p, e, Rm, s, m, args, below, meth, c, Q, D, tc, rfl, hx, hb, hml, hown, hts, hK, hE, hfr, hlo, hce, hsl, hbs⟩ := C
  intro okσ okl hN ls H locs hl hH hA
  have hsz : H.size = b + N := hH.1
  have hN : N0 ≤ N := hN
  have hni : inI n := by unfold inI; omega
  have hki : inI k := by unfold inI; omega
  have m1 := szN_mono hN1
  have m2 := szN_mono hN
  have e1 : szc N = nm := by unfold szc; rw [if_neg (by rw [h1]; decide)]; omega
  have ei : ∀ j, j < nm → szc (N + 1 + j) = k.toNat := fun j hj => by
    obtain ⟨q1, q2⟩ := hi j hj
    unfold szc
    rw [if_neg (by rw [q1]; decide)]
    omega
  have e2 := szN_rows e1 ei nm (Nat.le_refl _)
  have hcl : (Int32.ofInt n).toNatClampNeg = nm := by rw [ofI_cl hni]; exact hnm
  have hck : (Int32.ofInt k).toNatClampNeg = k.toNat := ofI_cl hki
  have es : "[" ++ (FieldType.array FieldType.int).toString = "[[I" := by decide +kernel
  have hl2 : (Cond.classLink own index ("[" ++ (FieldType.array FieldType.int).toString)).before args s = true := by rw [es]; exact hts _ hl1
  generalize hkm : k.toNat = km at *
  refine W_multi hx hb hown hl2 hE.2.2.2.2 (hts _ hac) rfl hd rfl (by rw [ofI_0, ofI_lt hni inI_0]; omega) (by rw [ofI_0, ofI_lt hki inI_0]; omega) (by rw [hcl]; omega) (by rw [hck]; omega) (by rw [hcl]; show N - N0 + (1 + nm) ≤ _; omega) (by rw [hcl, hck]; show szN N - szN N0 + (nm + nm * km) ≤ _; omega) (fun cA comp H1 f1 f2 z1 g1 o1 gi => ?_)
  rw [hcl] at z1 g1 gi
  rw [hck] at gi
  have c1 : N - N0 + 1 + nm = N + 1 + nm - N0 := by omega
  have c2 : szN N - szN N0 + nm + nm * km = szN (N + 1 + nm) - szN N0 := by omega
  show W _ _ _ _ _ _ _ _ _ _ _ _ (N - N0 + 1 + (Int32.ofInt n).toNatClampNeg) (szN N - szN N0 + (Int32.ofInt n).toNatClampNeg + (Int32.ofInt n).toNatClampNeg * (Int32.ofInt k).toNatClampNeg) _ (F0 m (pc + 4) ls (.ref H.size :: st))
  rw [hcl, hck, c1, c2, hsz]
  obtain ⟨kA', comp', g1', g2', g3', g4'⟩ := (hK.2 8 _ rfl).2
  have eA : cA = tc 8 := Option.some.inj (f1.symm.trans g4')
  have eI : comp = tc 0 := Option.some.inj (f2.symm.trans (hK.2 0 _ rfl).2)
  subst eA; subst eI
  rw [rowO_a, hsz] at g1
  refine kk ?_ okl (by show N0 ≤ N + 1 + nm; omega) ls H1 locs hl ⟨by rw [z1, hsz]; omega, fun a e' ha he' => ?_⟩ ⟨Nat.le_trans hA.1 (by omega), fun q q1 q2 => (o1 q (Nat.lt_of_lt_of_le q1 hA.1)).trans (hA.2.1 q q1 q2), hA.2.2⟩
  · intro a' k'
    show rng (kd a' k') (mzS σ N nm a' k')
    unfold mzS
    split
    · exact rng_00 _
    · exact okσ a' k'
  · have ha : a < N + 1 + nm := ha
    by_cases q : a < N
    · have s1 : mzS σ N nm a = σ a := by unfold mzS; rw [if_neg (by omega)]
      have s2 : mzP ρ N nm a = ρ a := by unfold mzP; rw [if_neg (by omega), if_neg (by omega)]
      rw [cE2_cong s1 s2] at he'
      exact (hH.2 a e' q he').kept (o1 _ (by rw [hsz]; omega))
    · by_cases q2 : a = N
      · subst q2
        rw [cE2_ref h1 h3] at he'
        cases he'
        show H1[b + a]? = some (vp_cell _ _)
        have e9 : (sh a).2.2 = nm := by omega
        rw [g1, vp_cell_q, e9]
        refine congrArg some (arrV_ext (fun j hj => ?_))
        unfold mzP
        rw [if_pos rfl, if_pos hj]
        show Value.ref (b + a + 1 + j) = va_rf (some (b + (a + 1 + j)))
        rw [show b + a + 1 + j = b + (a + 1 + j) by omega]
        rfl
      · obtain ⟨j, hj⟩ : ∃ j, a = N + 1 + j := ⟨a - (N + 1), by omega⟩
        subst hj
        have hj : j < nm := by omega
        obtain ⟨i1, i2⟩ := hi j hj
        unfold cE2 at he'
        rw [if_neg (by rw [i1]; decide), if_neg (by rw [i1]; decide), cE_2 i1] at he'
        cases he'
        show H1[b + (N + 1 + j)]? = some (vp_cell _ _)
        have gj := gi j hj
        rw [hsz, show b + N + 1 + j = b + (N + 1 + j) by omega, rowI_a] at gj
        have e9 : (sh (N + 1 + j)).2.2 = km := by omega
        have s1 : mzS σ N nm (N + 1 + j) = fun _ => 0 := by unfold mzS; rw [if_pos (by omega)]
        rw [gj, vp_cell_i, e9, s1]
        rfl
end MX
/-! constructors: Sound, Search, Stage -/
theorem mzP_oth {ρ : PP} {N m a k : Nat} (h : a < N ∨ N + m < a) : mzP ρ N m a k = ρ a k := by
  unfold mzP
  rw [if_neg (by omega), if_neg (by omega)]
theorem oi_Search : Cond.methodLink RX5 3 objectInit ∈ gtb := (gq_3 17 (by decide +kernel) rfl)
theorem oi_Sound : Cond.methodLink RX6 3 objectInit ∈ gtb := (gq_2 144 (by decide +kernel) rfl)
set_option maxHeartbeats 8000000 in
theorem ml_Search_21 : Cond.classLink RX5 21 "[[I" ∈ gtb := (gq_3 18 (by decide +kernel) rfl)
set_option maxHeartbeats 8000000 in
theorem ml_Sound_9 : Cond.classLink RX6 9 "[[I" ∈ gtb := (gq_2 145 (by decide +kernel) rfl)
set_option maxRecDepth 20000 in
theorem yc_Sound : YW yX6_init cX6_init 2 none 1 := ⟨(gq_2 143 rfl rfl), (gq_1 12 (by decide +kernel) rfl), by decide +kernel, by decide⟩
theorem ym_Sound : Cond.instanceMethod yX6_init ∈ gtb := (gq_2 142 (by decide +kernel) rfl)
set_option maxRecDepth 20000 in
theorem yc_Search : YW yX5_init cX5_init 1 none 0 := ⟨(gq_3 16 rfl rfl), (gq_1 15 (by decide +kernel) rfl), by decide +kernel, by decide⟩
theorem ym_Search : Cond.instanceMethod yX5_init ∈ gtb := (gq_3 15 (by decide +kernel) rfl)
theorem fr_Search_9 : FR RX5 9 5 0 := ⟨RX5, TX5, 8, tyX5, rfl, by decide, in_X5, (gq_3 19 (by decide +kernel) rfl), rfl, rfl, tyX5_ok, nmX5, rfl, rfl, (Or.inr ⟨_, rfl⟩)⟩
theorem fr_Search_15 : FR RX5 15 5 1 := ⟨RX5, TX5, 8, tyX5, rfl, by decide, in_X5, (gq_3 21 (by decide +kernel) rfl), rfl, rfl, tyX5_ok, nmX5, rfl, rfl, (Or.inr ⟨_, rfl⟩)⟩
theorem fr_Search_18 : FR RX5 18 5 2 := ⟨RX5, TX5, 8, tyX5, rfl, by decide, in_X5, (gq_3 22 (by decide +kernel) rfl), rfl, rfl, tyX5_ok, nmX5, rfl, rfl, (Or.inr ⟨_, rfl⟩)⟩
theorem fr_Search_23 : FR RX5 23 5 3 := ⟨RX5, TX5, 8, tyX5, rfl, by decide, in_X5, (gq_3 23 (by decide +kernel) rfl), rfl, rfl, tyX5_ok, nmX5, rfl, rfl, (Or.inr ⟨_, rfl⟩)⟩
theorem fr_Search_26 : FR RX5 26 5 4 := ⟨RX5, TX5, 8, tyX5, rfl, by decide, in_X5, (gq_3 24 (by decide +kernel) rfl), rfl, rfl, tyX5_ok, nmX5, rfl, rfl, (Or.inr ⟨_, rfl⟩)⟩
theorem fr_Search_29 : FR RX5 29 5 5 := ⟨RX5, TX5, 8, tyX5, rfl, by decide, in_X5, (gq_3 25 (by decide +kernel) rfl), rfl, rfl, tyX5_ok, nmX5, rfl, rfl, (Or.inr ⟨_, rfl⟩)⟩
theorem fr_Search_32 : FR RX5 32 5 6 := ⟨RX5, TX5, 8, tyX5, rfl, by decide, in_X5, (gq_3 26 (by decide +kernel) rfl), rfl, rfl, tyX5_ok, nmX5, rfl, rfl, (Or.inr ⟨_, rfl⟩)⟩
theorem fr_Search_35 : FR RX5 35 5 7 := ⟨RX5, TX5, 8, tyX5, rfl, by decide, in_X5, (gq_3 27 (by decide +kernel) rfl), rfl, rfl, tyX5_ok, nmX5, rfl, rfl, (Or.inr ⟨_, rfl⟩)⟩
theorem fr_Sound_11 : FR RX6 11 6 1 := ⟨RX6, TX6, 6, tyX6, rfl, by decide, in_X6, (gq_2 148 (by decide +kernel) rfl), rfl, rfl, tyX6_ok, nmX6, rfl, rfl, (Or.inr ⟨_, rfl⟩)⟩
theorem fr_Sound_16 : FR RX6 16 6 2 := ⟨RX6, TX6, 6, tyX6, rfl, by decide, in_X6, (gq_2 149 (by decide +kernel) rfl), rfl, rfl, tyX6_ok, nmX6, rfl, rfl, (Or.inr ⟨_, rfl⟩)⟩
theorem fr_Sound_20 : FR RX6 20 6 3 := ⟨RX6, TX6, 6, tyX6, rfl, by decide, in_X6, (gq_2 150 (by decide +kernel) rfl), rfl, rfl, tyX6_ok, nmX6, rfl, rfl, (Or.inr ⟨_, rfl⟩)⟩
theorem fr_Sound_23 : FR RX6 23 6 4 := ⟨RX6, TX6, 6, tyX6, rfl, by decide, in_X6, (gq_2 151 (by decide +kernel) rfl), rfl, rfl, tyX6_ok, nmX6, rfl, rfl, (Or.inr ⟨_, rfl⟩)⟩
theorem fr_Sound_30 : FR RX6 30 6 0 := ⟨RX6, TX6, 6, tyX6, rfl, by decide, in_X6, (gq_2 147 (by decide +kernel) rfl), rfl, rfl, tyX6_ok, nmX6, rfl, rfl, (Or.inl ⟨_, rfl⟩)⟩
def GS_Sound (a : Nat) (σ : SS) : SS := (ups (upA (upA (upA (mzS σ (a + 1) 6) (a + 8) (fun _ => 0)) (a + 9) (fun _ => 0)) (a + 10) (fun _ => 0)) a 5 (-1))
def GP_Sound (a q1 : Nat) (ρ : PP) : PP := (upr (upr (upP (upr (upP (upr (upP (upr (mzP ρ (a + 1) 6) a 1 (some (a + 1))) (a + 8) (fun _ => none)) a 2 (some (a + 8))) (a + 9) (fun _ => none)) a 3 (some (a + 9))) (a + 10) (fun _ => none)) a 4 (some (a + 10))) a 0 (some q1))
set_option maxRecDepth 20000 in
set_option maxHeartbeats 8000000 in
theorem mc_Sound {l : Launch} (a q1 : Nat) (hs0 : sh a = (1, 6, 6)) (hs1 : sh (a + 1) = (6, 8, 6)) (hs2 : sh (a + 2) = (2, 0, 30)) (hs3 : sh (a + 3) = (2, 0, 30)) (hs4 : sh (a + 4) = (2, 0, 30)) (hs5 : sh (a + 5) = (2, 0, 30)) (hs6 : sh (a + 6) = (2, 0, 30)) (hs7 : sh (a + 7) = (2, 0, 30)) (hs8 : sh (a + 8) = (2, 0, 64)) (hs9 : sh (a + 9) = (2, 0, 384)) (hs10 : sh (a + 10) = (2, 0, 384)) (σ : SS) (ρ : PP) : Mt2 l yX6_init cX6_init 2 2 (a + 1) (a + 11) (fun b => [.ref (b + a), .ref (b + q1)]) σ ρ (GS_Sound a σ) (GP_Sound a q1 ρ) := by
  refine Mt2_of (own := RX6) (Γ0 := [(0, 2), (1, 2)]) (L0 := [0, 0]) (R0 := [a, q1]) (by decide +kernel) rfl rfl (fun b => rfl) (fun b => Nat.le_of_ble_eq_true rfl) ⟨rfl, rfl, List.forall_mem_cons.mpr ⟨trivial, List.forall_mem_cons.mpr ⟨trivial, List.forall_mem_nil _⟩⟩⟩ (fun b V C X => ?_)
  refine j_aload_n (pc := 0) (i := 0) (g := 0) C dX6_init_0 rfl rfl ?_
  refine j_objInit (pc := 1) C oi_Sound oi_w (by omega) (by decide) dX6_init_1 ?_
  refine j_aload_n (pc := 4) (i := 0) (g := 0) C dX6_init_4 rfl rfl ?_
  refine j_bipush (pc := 5) C dX6_init_5 rfl ?_
  refine j_bipush (pc := 7) C dX6_init_7 rfl ?_
  refine j_multi (pc := 9) (N := (a + 1)) (n := 6) (k := 30) (nm := 6) C ml_Sound_9 aw_int (by rw [hs1]) (by rw [hs1]) (by rw [hs1]; rfl) (fun j hj => by have q : j = 0 ∨ j = 1 ∨ j = 2 ∨ j = 3 ∨ j = 4 ∨ j = 5 := by omega
    rcases q with e | e | e | e | e | e <;> subst e
    · exact ⟨by rw [show sh ((a + 1) + 1 + 0) = (2, 0, 30) from hs2], by rw [show sh ((a + 1) + 1 + 0) = (2, 0, 30) from hs2]; rfl⟩
    · exact ⟨by rw [show sh ((a + 1) + 1 + 1) = (2, 0, 30) from hs3], by rw [show sh ((a + 1) + 1 + 1) = (2, 0, 30) from hs3]; rfl⟩
    · exact ⟨by rw [show sh ((a + 1) + 1 + 2) = (2, 0, 30) from hs4], by rw [show sh ((a + 1) + 1 + 2) = (2, 0, 30) from hs4]; rfl⟩
    · exact ⟨by rw [show sh ((a + 1) + 1 + 3) = (2, 0, 30) from hs5], by rw [show sh ((a + 1) + 1 + 3) = (2, 0, 30) from hs5]; rfl⟩
    · exact ⟨by rw [show sh ((a + 1) + 1 + 4) = (2, 0, 30) from hs6], by rw [show sh ((a + 1) + 1 + 4) = (2, 0, 30) from hs6]; rfl⟩
    · exact ⟨by rw [show sh ((a + 1) + 1 + 5) = (2, 0, 30) from hs7], by rw [show sh ((a + 1) + 1 + 5) = (2, 0, 30) from hs7]; rfl⟩) (by decide) (by decide) rfl (by omega) dX6_init_9 ?_
  refine j_putR (pc := 13) (a := a) (r := (a + 1)) C fr_Sound_11 (by rw [hs0]) (by rw [hs0]) (by omega) (by decide +kernel) dX6_init_13 ?_
  refine j_aload_n (pc := 16) (i := 0) (g := 0) C dX6_init_16 rfl rfl ?_
  refine j_bipush (pc := 17) C dX6_init_17 rfl ?_
  refine j_newaInt (pc := 19) (N := (a + 8)) C aw_int (by rw [hs8]) (by rw [hs8]; rfl) (by decide) (by omega) dX6_init_19 ?_
  refine j_putR (pc := 21) (a := a) (r := (a + 8)) C fr_Sound_16 (by rw [hs0]) (by rw [hs0]) (by omega) (by decide +kernel) dX6_init_21 ?_
  refine j_aload_n (pc := 24) (i := 0) (g := 0) C dX6_init_24 rfl rfl ?_
  refine j_sipush (pc := 25) C dX6_init_25 rfl ?_
  refine j_newaInt (pc := 28) (N := (a + 9)) C aw_int (by rw [hs9]) (by rw [hs9]; rfl) (by decide) (by omega) dX6_init_28 ?_
  refine j_putR (pc := 30) (a := a) (r := (a + 9)) C fr_Sound_20 (by rw [hs0]) (by rw [hs0]) (by omega) (by decide +kernel) dX6_init_30 ?_
  refine j_aload_n (pc := 33) (i := 0) (g := 0) C dX6_init_33 rfl rfl ?_
  refine j_sipush (pc := 34) C dX6_init_34 rfl ?_
  refine j_newaInt (pc := 37) (N := (a + 10)) C aw_int (by rw [hs10]) (by rw [hs10]; rfl) (by decide) (by omega) dX6_init_37 ?_
  refine j_putR (pc := 39) (a := a) (r := (a + 10)) C fr_Sound_23 (by rw [hs0]) (by rw [hs0]) (by omega) (by decide +kernel) dX6_init_39 ?_
  refine j_aload_n (pc := 42) (i := 0) (g := 0) C dX6_init_42 rfl rfl ?_
  refine j_iconst (pc := 43) C dX6_init_43 ?_
  refine j_putI (pc := 44) (a := a) (kn := 0) (x := (-1)) C pl_Sound_26 (by rw [hs0]) (by rw [hs0]) (by omega) (Or.inl rfl) (show inI (-1) from inIb_of rfl) dX6_init_44 ?_
  refine j_aload_n (pc := 47) (i := 0) (g := 0) C dX6_init_47 rfl rfl ?_
  refine j_aload_n (pc := 48) (i := 1) (g := 1) C dX6_init_48 rfl rfl ?_
  refine j_putR (pc := 49) (a := a) (r := q1) C fr_Sound_30 (by rw [hs0]) (by rw [hs0]) (by omega) (by decide +kernel) dX6_init_49 ?_
  exact X 52 _ _ _ dX6_init_52
def GS_Search (a : Nat) (σ : SS) : SS := (upA (upA (upA (upA (mzS (upA (upA (upA σ (a + 1) (fun _ => 0)) (a + 2) (fun _ => 0)) (a + 3) (fun _ => 0)) (a + 4) 5) (a + 10) (fun _ => 0)) (a + 11) (fun _ => 0)) (a + 12) (fun _ => 0)) (a + 13) (fun _ => 0))
def GP_Search (a : Nat) (ρ : PP) : PP := (upr (upP (upr (upP (upr (upP (upr (upP (upr (mzP (upr (upP (upr (upP (upr (upP ρ (a + 1) (fun _ => none)) a 0 (some (a + 1))) (a + 2) (fun _ => none)) a 1 (some (a + 2))) (a + 3) (fun _ => none)) a 2 (some (a + 3))) (a + 4) 5) a 3 (some (a + 4))) (a + 10) (fun _ => none)) a 4 (some (a + 10))) (a + 11) (fun _ => none)) a 5 (some (a + 11))) (a + 12) (fun _ => none)) a 6 (some (a + 12))) (a + 13) (fun _ => none)) a 7 (some (a + 13)))
set_option maxRecDepth 20000 in
set_option maxHeartbeats 8000000 in
theorem mc_Search {l : Launch} (a : Nat) (hs0 : sh a = (1, 5, 8)) (hs1 : sh (a + 1) = (2, 0, 4)) (hs2 : sh (a + 2) = (2, 0, 4)) (hs3 : sh (a + 3) = (2, 0, 7)) (hs4 : sh (a + 4) = (6, 8, 5)) (hs5 : sh (a + 5) = (2, 0, 100)) (hs6 : sh (a + 6) = (2, 0, 100)) (hs7 : sh (a + 7) = (2, 0, 100)) (hs8 : sh (a + 8) = (2, 0, 100)) (hs9 : sh (a + 9) = (2, 0, 100)) (hs10 : sh (a + 10) = (2, 0, 6)) (hs11 : sh (a + 11) = (2, 0, 30)) (hs12 : sh (a + 12) = (2, 0, 30)) (hs13 : sh (a + 13) = (2, 0, 30)) (σ : SS) (ρ : PP) : Mt2 l yX5_init cX5_init 1 2 (a + 1) (a + 14) (fun b => [.ref (b + a)]) σ ρ (GS_Search a σ) (GP_Search a ρ) := by
  refine Mt2_of (own := RX5) (Γ0 := [(0, 2)]) (L0 := [0]) (R0 := [a]) (by decide +kernel) rfl rfl (fun b => rfl) (fun b => Nat.le_of_ble_eq_true rfl) ⟨rfl, rfl, List.forall_mem_cons.mpr ⟨trivial, List.forall_mem_nil _⟩⟩ (fun b V C X => ?_)
  refine j_aload_n (pc := 0) (i := 0) (g := 0) C dX5_init_0 rfl rfl ?_
  refine j_objInit (pc := 1) C oi_Search oi_w (by omega) (by decide) dX5_init_1 ?_
  refine j_aload_n (pc := 4) (i := 0) (g := 0) C dX5_init_4 rfl rfl ?_
  refine j_iconst (pc := 5) C dX5_init_5 ?_
  refine j_newaInt (pc := 6) (N := (a + 1)) C aw_int (by rw [hs1]) (by rw [hs1]; rfl) (by decide) (by omega) dX5_init_6 ?_
  refine j_putR (pc := 8) (a := a) (r := (a + 1)) C fr_Search_9 (by rw [hs0]) (by rw [hs0]) (by omega) (by decide +kernel) dX5_init_8 ?_
  refine j_aload_n (pc := 11) (i := 0) (g := 0) C dX5_init_11 rfl rfl ?_
  refine j_iconst (pc := 12) C dX5_init_12 ?_
  refine j_newaInt (pc := 13) (N := (a + 2)) C aw_int (by rw [hs2]) (by rw [hs2]; rfl) (by decide) (by omega) dX5_init_13 ?_
  refine j_putR (pc := 15) (a := a) (r := (a + 2)) C fr_Search_15 (by rw [hs0]) (by rw [hs0]) (by omega) (by decide +kernel) dX5_init_15 ?_
  refine j_aload_n (pc := 18) (i := 0) (g := 0) C dX5_init_18 rfl rfl ?_
  refine j_bipush (pc := 19) C dX5_init_19 rfl ?_
  refine j_newaInt (pc := 21) (N := (a + 3)) C aw_int (by rw [hs3]) (by rw [hs3]; rfl) (by decide) (by omega) dX5_init_21 ?_
  refine j_putR (pc := 23) (a := a) (r := (a + 3)) C fr_Search_18 (by rw [hs0]) (by rw [hs0]) (by omega) (by decide +kernel) dX5_init_23 ?_
  refine j_aload_n (pc := 26) (i := 0) (g := 0) C dX5_init_26 rfl rfl ?_
  refine j_iconst (pc := 27) C dX5_init_27 ?_
  refine j_bipush (pc := 28) C dX5_init_28 rfl ?_
  refine j_multi (pc := 30) (N := (a + 4)) (n := 5) (k := 100) (nm := 5) C ml_Search_21 aw_int (by rw [hs4]) (by rw [hs4]) (by rw [hs4]; rfl) (fun j hj => by have q : j = 0 ∨ j = 1 ∨ j = 2 ∨ j = 3 ∨ j = 4 := by omega
    rcases q with e | e | e | e | e <;> subst e
    · exact ⟨by rw [show sh ((a + 4) + 1 + 0) = (2, 0, 100) from hs5], by rw [show sh ((a + 4) + 1 + 0) = (2, 0, 100) from hs5]; rfl⟩
    · exact ⟨by rw [show sh ((a + 4) + 1 + 1) = (2, 0, 100) from hs6], by rw [show sh ((a + 4) + 1 + 1) = (2, 0, 100) from hs6]; rfl⟩
    · exact ⟨by rw [show sh ((a + 4) + 1 + 2) = (2, 0, 100) from hs7], by rw [show sh ((a + 4) + 1 + 2) = (2, 0, 100) from hs7]; rfl⟩
    · exact ⟨by rw [show sh ((a + 4) + 1 + 3) = (2, 0, 100) from hs8], by rw [show sh ((a + 4) + 1 + 3) = (2, 0, 100) from hs8]; rfl⟩
    · exact ⟨by rw [show sh ((a + 4) + 1 + 4) = (2, 0, 100) from hs9], by rw [show sh ((a + 4) + 1 + 4) = (2, 0, 100) from hs9]; rfl⟩) (by decide) (by decide) rfl (by omega) dX5_init_30 ?_
  refine j_putR (pc := 34) (a := a) (r := (a + 4)) C fr_Search_23 (by rw [hs0]) (by rw [hs0]) (by omega) (by decide +kernel) dX5_init_34 ?_
  refine j_aload_n (pc := 37) (i := 0) (g := 0) C dX5_init_37 rfl rfl ?_
  refine j_bipush (pc := 38) C dX5_init_38 rfl ?_
  refine j_newaInt (pc := 40) (N := (a + 10)) C aw_int (by rw [hs10]) (by rw [hs10]; rfl) (by decide) (by omega) dX5_init_40 ?_
  refine j_putR (pc := 42) (a := a) (r := (a + 10)) C fr_Search_26 (by rw [hs0]) (by rw [hs0]) (by omega) (by decide +kernel) dX5_init_42 ?_
  refine j_aload_n (pc := 45) (i := 0) (g := 0) C dX5_init_45 rfl rfl ?_
  refine j_bipush (pc := 46) C dX5_init_46 rfl ?_
  refine j_newaInt (pc := 48) (N := (a + 11)) C aw_int (by rw [hs11]) (by rw [hs11]; rfl) (by decide) (by omega) dX5_init_48 ?_
  refine j_putR (pc := 50) (a := a) (r := (a + 11)) C fr_Search_29 (by rw [hs0]) (by rw [hs0]) (by omega) (by decide +kernel) dX5_init_50 ?_
  refine j_aload_n (pc := 53) (i := 0) (g := 0) C dX5_init_53 rfl rfl ?_
  refine j_bipush (pc := 54) C dX5_init_54 rfl ?_
  refine j_newaInt (pc := 56) (N := (a + 12)) C aw_int (by rw [hs12]) (by rw [hs12]; rfl) (by decide) (by omega) dX5_init_56 ?_
  refine j_putR (pc := 58) (a := a) (r := (a + 12)) C fr_Search_32 (by rw [hs0]) (by rw [hs0]) (by omega) (by decide +kernel) dX5_init_58 ?_
  refine j_aload_n (pc := 61) (i := 0) (g := 0) C dX5_init_61 rfl rfl ?_
  refine j_bipush (pc := 62) C dX5_init_62 rfl ?_
  refine j_newaInt (pc := 64) (N := (a + 13)) C aw_int (by rw [hs13]) (by rw [hs13]; rfl) (by decide) (by omega) dX5_init_64 ?_
  refine j_putR (pc := 66) (a := a) (r := (a + 13)) C fr_Search_35 (by rw [hs0]) (by rw [hs0]) (by omega) (by decide +kernel) dX5_init_66 ?_
  exact X 69 _ _ _ dX5_init_69
theorem oi_Stage : Cond.methodLink RX7 3 objectInit ∈ gtb := (gq_1 136 (by decide +kernel) rfl)
theorem cl_Stage_9 : Cond.classLink RX7 9 RX3 ∈ gtb := (gq_1 137 (by decide +kernel) rfl)
theorem cl_Stage_18 : Cond.classLink RX7 18 RX6 ∈ gtb := (gq_2 139 (by decide +kernel) rfl)
set_option maxRecDepth 20000 in
theorem yc_Stage : YW yX7_init cX7_init 1 none 0 := ⟨(gq_1 135 rfl rfl), (gq_1 7 (by decide +kernel) rfl), by decide +kernel, by decide⟩
theorem ym_Stage : Cond.instanceMethod yX7_init ∈ gtb := (gq_1 134 (by decide +kernel) rfl)
theorem yl_Stage_11 : Cond.methodLink RX7 11 yX3_init ∈ gtb ∨ ∃ q ∈ nestL, q.1 = RX7 ∧ q.2.1 = 11 ∧ q.2.2.1 = yX3_init := Or.inl (gq_1 139 (by decide +kernel) rfl)
theorem yl_Stage_20 : Cond.methodLink RX7 20 yX6_init ∈ gtb ∨ ∃ q ∈ nestL, q.1 = RX7 ∧ q.2.1 = 20 ∧ q.2.2.1 = yX6_init := Or.inl (gq_2 141 (by decide +kernel) rfl)
theorem fr_Stage_12 : FR RX7 12 7 0 := ⟨RX7, TX7, 12, tyX7, rfl, by decide, in_X7, (gq_2 166 (by decide +kernel) rfl), rfl, rfl, tyX7_ok, nmX7, rfl, rfl, (Or.inl ⟨_, rfl⟩)⟩
theorem fr_Stage_23 : FR RX7 23 7 1 := ⟨RX7, TX7, 12, tyX7, rfl, by decide, in_X7, (gq_2 169 (by decide +kernel) rfl), rfl, rfl, tyX7_ok, nmX7, rfl, rfl, (Or.inl ⟨_, rfl⟩)⟩
theorem fr_Stage_27 : FR RX7 27 7 2 := ⟨RX7, TX7, 12, tyX7, rfl, by decide, in_X7, (gq_2 171 (by decide +kernel) rfl), rfl, rfl, tyX7_ok, nmX7, rfl, rfl, (Or.inr ⟨_, rfl⟩)⟩
def GS_Stage (a : Nat) (σ : SS) : SS := (ups (ups (ups (ups (ups (ups (ups (ups (ups (upA (GS_Sound (a + 30) (upA (GS_Park (a + 1) (upA σ (a + 1) (fun _ => 0))) (a + 30) (fun _ => 0))) (a + 41) (fun _ => 0)) a 3 0) a 4 0) a 5 0) a 6 0) a 7 0) a 8 0) a 9 0) a 10 0) a 11 0)
def GP_Stage (a : Nat) (ρ : PP) : PP := (upr (upP (upr (GP_Sound (a + 30) (a + 1) (upP (upr (GP_Park (a + 1) (upP ρ (a + 1) (fun _ => none))) a 0 (some (a + 1))) (a + 30) (fun _ => none))) a 1 (some (a + 30))) (a + 41) (fun _ => none)) a 2 (some (a + 41)))
set_option maxRecDepth 20000 in
set_option maxHeartbeats 8000000 in
theorem mc_Stage {l : Launch} (a : Nat) (hs0 : sh a = (1, 7, 12)) (hs1 : sh (a + 1) = (1, 3, 15)) (hs2 : sh (a + 2) = (5, 0, 30)) (hs3 : sh (a + 3) = (6, 6, 6)) (hs4 : sh (a + 4) = (6, 7, 6)) (hs5 : sh (a + 5) = (1, 1, 8)) (hs6 : sh (a + 6) = (2, 0, 30)) (hs7 : sh (a + 7) = (2, 0, 30)) (hs8 : sh (a + 8) = (2, 0, 30)) (hs9 : sh (a + 9) = (2, 0, 30)) (hs10 : sh (a + 10) = (2, 0, 30)) (hs11 : sh (a + 11) = (2, 0, 30)) (hs12 : sh (a + 12) = (1, 10, 4)) (hs13 : sh (a + 13) = (1, 10, 4)) (hs14 : sh (a + 14) = (1, 10, 4)) (hs15 : sh (a + 15) = (1, 10, 4)) (hs16 : sh (a + 16) = (1, 10, 4)) (hs17 : sh (a + 17) = (1, 10, 4)) (hs18 : sh (a + 18) = (1, 0, 9)) (hs19 : sh (a + 19) = (2, 0, 6)) (hs20 : sh (a + 20) = (1, 0, 9)) (hs21 : sh (a + 21) = (2, 0, 6)) (hs22 : sh (a + 22) = (1, 0, 9)) (hs23 : sh (a + 23) = (2, 0, 6)) (hs24 : sh (a + 24) = (1, 0, 9)) (hs25 : sh (a + 25) = (2, 0, 6)) (hs26 : sh (a + 26) = (1, 0, 9)) (hs27 : sh (a + 27) = (2, 0, 6)) (hs28 : sh (a + 28) = (1, 0, 9)) (hs29 : sh (a + 29) = (2, 0, 6)) (hs30 : sh (a + 30) = (1, 6, 6)) (hs31 : sh (a + 31) = (6, 8, 6)) (hs32 : sh (a + 32) = (2, 0, 30)) (hs33 : sh (a + 33) = (2, 0, 30)) (hs34 : sh (a + 34) = (2, 0, 30)) (hs35 : sh (a + 35) = (2, 0, 30)) (hs36 : sh (a + 36) = (2, 0, 30)) (hs37 : sh (a + 37) = (2, 0, 30)) (hs38 : sh (a + 38) = (2, 0, 64)) (hs39 : sh (a + 39) = (2, 0, 384)) (hs40 : sh (a + 40) = (2, 0, 384)) (hs41 : sh (a + 41) = (2, 0, 6)) (σ : SS) (ρ : PP) : Mt2 l yX7_init cX7_init 1 4 (a + 1) (a + 42) (fun b => [.ref (b + a)]) σ ρ (GS_Stage a σ) (GP_Stage a ρ) := by
  refine Mt2_of (own := RX7) (Γ0 := [(0, 2)]) (L0 := [0]) (R0 := [a]) (by decide +kernel) rfl rfl (fun b => rfl) (fun b => Nat.le_of_ble_eq_true rfl) ⟨rfl, rfl, List.forall_mem_cons.mpr ⟨trivial, List.forall_mem_nil _⟩⟩ (fun b V C X => ?_)
  refine j_aload_n (pc := 0) (i := 0) (g := 0) C dX7_init_0 rfl rfl ?_
  refine j_objInit (pc := 1) C oi_Stage oi_w (by omega) (by decide) dX7_init_1 ?_
  refine j_aload_n (pc := 4) (i := 0) (g := 0) C dX7_init_4 rfl rfl ?_
  refine j_new (pc := 5) (N := (a + 1)) C ci_Park cl_Stage_9 (by rw [hs1]) (by rw [hs1]) (by omega) dX7_init_5 ?_
  refine j_dup (pc := 8) C dX7_init_8 rfl ?_
  refine j_callI (pc := 9) (N := (a + 2)) (N' := (a + 30)) (As := []) C (mc_Park (a + 1) hs1 hs2 hs3 hs4 hs5 hs6 hs7 hs8 hs9 hs10 hs11 hs12 hs13 hs14 hs15 hs16 hs17 hs18 hs19 hs20 hs21 hs22 hs23 hs24 hs25 hs26 hs27 hs28 hs29 _ _) yc_Park rfl ym_Park yl_Stage_11 (by omega) rfl rfl (by omega) (by omega) (by simp only [dep_i, dep_r]; decide) dX7_init_9 ?_
  refine j_putR (pc := 12) (a := a) (r := (a + 1)) C fr_Stage_12 (by rw [hs0]) (by rw [hs0]) (by omega) (by decide +kernel) dX7_init_12 ?_
  refine j_aload_n (pc := 15) (i := 0) (g := 0) C dX7_init_15 rfl rfl ?_
  refine j_new (pc := 16) (N := (a + 30)) C ci_Sound cl_Stage_18 (by rw [hs30]) (by rw [hs30]) (by omega) dX7_init_16 ?_
  refine j_dup (pc := 19) C dX7_init_19 rfl ?_
  refine j_aload_n (pc := 20) (i := 0) (g := 0) C dX7_init_20 rfl rfl ?_
  refine j_getR (pc := 21) (a := a) (r := (a + 1)) C fl_Stage_12 (by rw [hs0]) (by rw [hs0]) (by omega) (by simp (disch := omega) only [GP_Tune, GP_Band, GP_Evenings, GP_Tray, GP_Park, GP_Sound, mzP_oth, upr_oth, upP_oth, upr_hit]) dX7_init_21 ?_
  refine j_callI (pc := 24) (N := (a + 31)) (N' := (a + 41)) (As := [.ref (b + (a + 1))]) C (mc_Sound (a + 30) (a + 1) hs30 hs31 hs32 hs33 hs34 hs35 hs36 hs37 hs38 hs39 hs40 _ _) yc_Sound rfl ym_Sound yl_Stage_20 (by omega) rfl rfl (by omega) (by omega) (by simp only [dep_i, dep_r]; decide) dX7_init_24 ?_
  refine j_putR (pc := 27) (a := a) (r := (a + 30)) C fr_Stage_23 (by rw [hs0]) (by rw [hs0]) (by omega) (by decide +kernel) dX7_init_27 ?_
  refine j_aload_n (pc := 30) (i := 0) (g := 0) C dX7_init_30 rfl rfl ?_
  refine j_bipush (pc := 31) C dX7_init_31 rfl ?_
  refine j_newaInt (pc := 33) (N := (a + 41)) C aw_int (by rw [hs41]) (by rw [hs41]; rfl) (by decide) (by omega) dX7_init_33 ?_
  refine j_putR (pc := 35) (a := a) (r := (a + 41)) C fr_Stage_27 (by rw [hs0]) (by rw [hs0]) (by omega) (by decide +kernel) dX7_init_35 ?_
  refine j_aload_n (pc := 38) (i := 0) (g := 0) C dX7_init_38 rfl rfl ?_
  refine j_iconst (pc := 39) C dX7_init_39 ?_
  refine j_putI (pc := 40) (a := a) (kn := 0) (x := 0) C pl_Stage_31 (by rw [hs0]) (by rw [hs0]) (by omega) (Or.inl rfl) (show inI 0 from inIb_of rfl) dX7_init_40 ?_
  refine j_aload_n (pc := 43) (i := 0) (g := 0) C dX7_init_43 rfl rfl ?_
  refine j_iconst (pc := 44) C dX7_init_44 ?_
  refine j_putI (pc := 45) (a := a) (kn := 0) (x := 0) C pl_Stage_35 (by rw [hs0]) (by rw [hs0]) (by omega) (Or.inl rfl) (show inI 0 from inIb_of rfl) dX7_init_45 ?_
  refine j_aload_n (pc := 48) (i := 0) (g := 0) C dX7_init_48 rfl rfl ?_
  refine j_iconst (pc := 49) C dX7_init_49 ?_
  refine j_putI (pc := 50) (a := a) (kn := 0) (x := 0) C pl_Stage_38 (by rw [hs0]) (by rw [hs0]) (by omega) (Or.inl rfl) (show inI 0 from inIb_of rfl) dX7_init_50 ?_
  refine j_aload_n (pc := 53) (i := 0) (g := 0) C dX7_init_53 rfl rfl ?_
  refine j_iconst (pc := 54) C dX7_init_54 ?_
  refine j_putI (pc := 55) (a := a) (kn := 0) (x := 0) C pl_Stage_41 (by rw [hs0]) (by rw [hs0]) (by omega) (Or.inl rfl) (show inI 0 from inIb_of rfl) dX7_init_55 ?_
  refine j_aload_n (pc := 58) (i := 0) (g := 0) C dX7_init_58 rfl rfl ?_
  refine j_iconst (pc := 59) C dX7_init_59 ?_
  refine j_putI (pc := 60) (a := a) (kn := 0) (x := 0) C pl_Stage_44 (by rw [hs0]) (by rw [hs0]) (by omega) (Or.inl rfl) (show inI 0 from inIb_of rfl) dX7_init_60 ?_
  refine j_aload_n (pc := 63) (i := 0) (g := 0) C dX7_init_63 rfl rfl ?_
  refine j_iconst (pc := 64) C dX7_init_64 ?_
  refine j_putI (pc := 65) (a := a) (kn := 0) (x := 0) C pl_Stage_47 (by rw [hs0]) (by rw [hs0]) (by omega) (Or.inl rfl) (show inI 0 from inIb_of rfl) dX7_init_65 ?_
  refine j_aload_n (pc := 68) (i := 0) (g := 0) C dX7_init_68 rfl rfl ?_
  refine j_iconst (pc := 69) C dX7_init_69 ?_
  refine j_putI (pc := 70) (a := a) (kn := 3) (x := 0) C pl_Stage_50 (by rw [hs0]) (by rw [hs0]) (by omega) (Or.inr (Or.inr ⟨rfl, by decide⟩)) (show inI 0 from inIb_of rfl) dX7_init_70 ?_
  refine j_aload_n (pc := 73) (i := 0) (g := 0) C dX7_init_73 rfl rfl ?_
  refine j_iconst (pc := 74) C dX7_init_74 ?_
  refine j_putI (pc := 75) (a := a) (kn := 3) (x := 0) C pl_Stage_54 (by rw [hs0]) (by rw [hs0]) (by omega) (Or.inr (Or.inr ⟨rfl, by decide⟩)) (show inI 0 from inIb_of rfl) dX7_init_75 ?_
  refine j_aload_n (pc := 78) (i := 0) (g := 0) C dX7_init_78 rfl rfl ?_
  refine j_iconst (pc := 79) C dX7_init_79 ?_
  refine j_putI (pc := 80) (a := a) (kn := 0) (x := 0) C pl_Stage_57 (by rw [hs0]) (by rw [hs0]) (by omega) (Or.inl rfl) (show inI 0 from inIb_of rfl) dX7_init_80 ?_
  exact X 83 _ _ _ dX7_init_83
