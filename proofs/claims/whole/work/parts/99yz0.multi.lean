/-! rows of ints, made at once -/
section MU
variable {p : Program} {l : Launch} {e : Env} {R : Room} {s : State} {m : MethodId} {args : Array Value} {below : List Frame} {meth : Method} {c : Code} {T : State} {locs : List Loc} {cells slots : Nat}
def rowI (comp : ClassId) (k : Nat) : Cell := { cls := comp, slots := Array.replicate k (.int 0), vm := .none }
def rowO (cA : ClassId) (n h0 : Nat) : Nat → Cell
  | 0 => { cls := cA, slots := Array.replicate n .null, vm := .none }
  | i + 1 => (rowO cA n h0 i).setSlot i (.ref (h0 + 1 + i))
def rowsT (T : State) (cA comp : ClassId) (n k : Nat) : Nat → State
  | 0 => T.pushCell (rowO cA n T.heap.size 0)
  | i + 1 => ((rowsT T cA comp n k i).pushCell (rowI comp k)).setCell T.heap.size (rowO cA n T.heap.size (i + 1))
theorem rowO_f (cA : ClassId) (n h0 : Nat) : ∀ i, (rowO cA n h0 i).cls = cA ∧ (rowO cA n h0 i).vm = .none ∧ (rowO cA n h0 i).slots.size = n
  | 0 => ⟨rfl, rfl, Array.size_replicate⟩
  | i + 1 => by
    obtain ⟨a, b, d⟩ := rowO_f cA n h0 i
    refine ⟨a, b, ?_⟩
    show ((rowO cA n h0 i).slots.setIfInBounds i _).size = n
    rw [Array.size_setIfInBounds, d]
theorem rowO_s (cA : ClassId) (n h0 : Nat) : ∀ i j, j < n → (rowO cA n h0 i).slots[j]? = some (if j < i then .ref (h0 + 1 + j) else .null)
  | 0, j, h => by
    show (Array.replicate n Value.null)[j]? = _
    rw [Array.getElem?_replicate, if_pos h, if_neg (Nat.not_lt_zero _)]
  | i + 1, j, h => by
    have ih := rowO_s cA n h0 i j h
    have hs := (rowO_f cA n h0 i).2.2
    show ((rowO cA n h0 i).slots.setIfInBounds i (.ref (h0 + 1 + i)))[j]? = _
    rw [Array.getElem?_setIfInBounds]
    by_cases e : i = j
    · subst e
      rw [if_pos rfl, if_pos (by rw [hs]; exact h), if_pos (by omega)]
    · rw [if_neg e, ih]
      by_cases hj : j < i
      · rw [if_pos hj, if_pos (by omega)]
      · rw [if_neg hj, if_neg (by omega)]
theorem rowsT_f (T : State) (cA comp : ClassId) (n k : Nat) : ∀ i, (rowsT T cA comp n k i).heap.size = T.heap.size + 1 + i ∧ (rowsT T cA comp n k i).heap[T.heap.size]? = some (rowO cA n T.heap.size i) ∧ (rowsT T cA comp n k i).vm = T.vm ∧ (rowsT T cA comp n k i).slotsUsed = T.slotsUsed + n + i * k ∧ (∀ a, a < T.heap.size → (rowsT T cA comp n k i).heap[a]? = T.heap[a]?) ∧ ∀ j, j < i → (rowsT T cA comp n k i).heap[T.heap.size + 1 + j]? = some (rowI comp k)
  | 0 => ⟨by simp [rowsT], by simp [rowsT], rfl, by simp [rowsT, rowO], fun a ha => State.heap_pushCell_of_lt _ _ ha, fun j hj => absurd hj (Nat.not_lt_zero _)⟩
  | i + 1 => by
    obtain ⟨a, b, d, u, old, inn⟩ := rowsT_f T cA comp n k i
    have hlt : T.heap.size < (rowsT T cA comp n k i).heap.size := by omega
    have hb' : ((rowsT T cA comp n k i).pushCell (rowI comp k)).heap[T.heap.size]? = some (rowO cA n T.heap.size i) := by rw [State.heap_pushCell_of_lt (h := hlt)]; exact b
    refine ⟨?_, State.heap_setCell_self hb', by simp [rowsT, d], ?_, fun q hq => ?_, fun j hj => ?_⟩
    · simp [rowsT, State.setCell, a]; omega
    · simp [rowsT, u, rowI, Nat.succ_mul]; omega
    · show (((rowsT T cA comp n k i).pushCell (rowI comp k)).setCell T.heap.size _).heap[q]? = _
      have hq' : q < (rowsT T cA comp n k i).heap.size := by omega
      rw [State.heap_setCell_other (Nat.ne_of_gt hq), State.heap_pushCell_of_lt (h := hq')]
      exact old q hq
    · show (((rowsT T cA comp n k i).pushCell (rowI comp k)).setCell T.heap.size _).heap[T.heap.size + 1 + j]? = _
      rw [State.heap_setCell_other (show T.heap.size ≠ T.heap.size + 1 + j by omega)]
      by_cases e : j = i
      · subst e
        rw [← a]
        exact State.heap_pushCell_size _ _
      · have hj' : T.heap.size + 1 + j < (rowsT T cA comp n k i).heap.size := by omega
        rw [State.heap_pushCell_of_lt (h := hj')]
        exact inn j (by omega)
theorem rowsT_top (T : State) (f : JFrame) (cA comp : ClassId) (n k : Nat) : ∀ i, rowsT (T.setTop f) cA comp n k i = (rowsT T cA comp n k i).setTop f
  | 0 => rfl
  | i + 1 => by simp only [rowsT, rowsT_top T f cA comp n k i, State.heap_setTop, State.pushCell_setTop, State.setCell_setTop]
theorem rowsT_st (X : Stand p l e R s m args below meth c T locs cells slots) (cA comp : ClassId) (n k : Nat) : ∀ i, Stand p l e R s m args below meth c (rowsT T cA comp n k i) (locs ++ (List.range i).map fun j => (⟨T.heap.size, j⟩ : Loc)) (cells + 1 + i) (slots + n + i * k)
  | 0 => by
    have h := X.pushed (rowO cA n T.heap.size 0)
    rw [(rowO_f cA n T.heap.size 0).2.2] at h
    simpa [rowsT] using h
  | i + 1 => by
    have Xi := rowsT_st X cA comp n k i
    obtain ⟨f1, f2, f3, f4, -, -⟩ := rowsT_f T cA comp n k i
    have hlt : T.heap.size < (rowsT T cA comp n k i).heap.size := by omega
    have hcell : ((rowsT T cA comp n k i).pushCell (rowI comp k)).heap[T.heap.size]? = some (rowO cA n T.heap.size i) := by rw [State.heap_pushCell_of_lt (h := hlt)]; exact f2
    have h := (Xi.pushed (rowI comp k)).stored hcell i (.ref (T.heap.size + 1 + i))
    have e1 : (rowI comp k).slots.size = k := by simp [rowI]
    rw [e1] at h
    have e2 : (locs ++ (List.range (i + 1)).map fun j => (⟨T.heap.size, j⟩ : Loc)) = (locs ++ (List.range i).map fun j => (⟨T.heap.size, j⟩ : Loc)) ++ [⟨T.heap.size, i⟩] := by simp [List.range_succ, List.append_assoc]
    have e3 : slots + n + (i + 1) * k = slots + n + i * k + k := by rw [Nat.succ_mul]; omega
    rw [e2, e3]
    exact h
end MU
section MV
variable {E : CtlPost} {e : Env} {d : Bool} {acts : List Action} {s : State}
theorem mk_new {cA comp : ClassId} {kA : Class} {ty : FieldType} {len : Nat} {v : Value} (hk : s.vm.classes[cA]? = some kA) (hkind : kA.kind = .array comp ty) (h1 : ¬ len > e.platform.arrayLengthLimit) (h2 : ¬ len * componentBytes ty > e.platform.maxHeapBytes) (hf : fits ty v = true) (hdv : v.isDefault = true) (h3 : s.heap.size < e.platform.maxCells) (h4 : s.slotsUsed + len ≤ e.platform.maxSlots) {Q : Addr → Pre} (hq : Q s.heap.size d acts (s.pushCell { cls := cA, slots := Array.replicate len v, vm := .none })) : wp (Jvm.newArray cA len v) Q E e d acts s := by
  have hm : ¬ len > e.platform.maxSlots := by omega
  have hfits : ∀ i w, (Array.replicate len v)[i]? = some w → s.fitsSlot cA .none i w = true := by
    intro i w hw
    rw [Array.getElem?_replicate] at hw
    split at hw
    · cases hw
      simp [State.fitsSlot, State.slotType?, hk, hkind, hf]
    · cases hw
  have ha : allocActs (Array.replicate len v) s.heap.size acts = acts := by
    unfold allocActs
    rw [if_pos]
    rw [Array.all_replicate]
    split <;> simp [hdv]
  simp only [Jvm.newArray, Jvm.arrayFits, wp_bind', W.ask, W.ite, h1, if_false, wp_pure', W.theClass, hk, Option.some.injEq, exists_eq_left', hkind, h2, hm, W.alloc, W.stop, Array.size_replicate, ha]
  exact ⟨h3, h4, hfits, hq⟩
theorem mk_rows {cA comp cc : ClassId} {kA kC : Class} {n k : Int32} (hkA : s.vm.classes[cA]? = some kA) (hA : kA.kind = .array comp (.array .int)) (hkC : s.vm.classes[comp]? = some kC) (hC : kC.kind = .array cc .int) (hn : ¬ n < 0) (hk : ¬ k < 0) (l1 : ¬ n.toNatClampNeg > e.platform.arrayLengthLimit) (l2 : ¬ n.toNatClampNeg * 4 > e.platform.maxHeapBytes) (l3 : ¬ k.toNatClampNeg > e.platform.arrayLengthLimit) (l4 : ¬ k.toNatClampNeg * 4 > e.platform.maxHeapBytes) (hc : s.heap.size + 1 + n.toNatClampNeg ≤ e.platform.maxCells) (hs : s.slotsUsed + n.toNatClampNeg + n.toNatClampNeg * k.toNatClampNeg ≤ e.platform.maxSlots) {Q : Addr → Pre} (hq : ∀ d' acts', Q s.heap.size d' acts' (rowsT s cA comp n.toNatClampNeg k.toNatClampNeg n.toNatClampNeg)) : wp (multianewarray.make cA [n, k]) Q E e d acts s := by
  have hfind : ([k].find? (· < 0)) = none := by simp [hk]
  rw [multianewarray.make]
  simp only [wp_bind', W.ite, hn, if_false, wp_pure', W.theClass, hkA, hA, Option.some.injEq, exists_eq_left']
  refine mk_new hkA hA l1 l2 rfl rfl (by omega) (by have := Nat.zero_le (n.toNatClampNeg * k.toNatClampNeg); omega) ?_
  simp only [hfind]
  rw [ite_self, wp_bind', Std.Legacy.Range.forIn_eq_forIn_range']
  have hsz : ([:n.toNatClampNeg] : Std.Legacy.Range).size = n.toNatClampNeg := by simp [Std.Legacy.Range.size]
  rw [hsz]
  show wp (forIn (List.range' 0 n.toNatClampNeg 1) PUnit.unit _) _ E e d acts _
  generalize hN : n.toNatClampNeg = N at *
  generalize hM : k.toNatClampNeg = M at *
  refine wp_forIn_inv (fun rest s' => ∃ i, i ≤ N ∧ rest = List.range' i (N - i) ∧ s' = rowsT s cA comp N M i) _ _ ⟨0, Nat.zero_le _, rfl, rfl⟩ ?_ ?_
  · rintro x rest s' d' acts' Q' ⟨i, hi, hl, rfl⟩ hnext
    have hlt : i < N := by
      by_cases h : i < N
      · exact h
      · rw [show N - i = 0 by omega] at hl
        simp at hl
    rw [show N - i = (N - (i + 1)) + 1 by omega, List.range'_succ] at hl
    obtain ⟨hx, hrest⟩ := List.cons.inj hl
    subst hx
    obtain ⟨f1, f2, f3, f4, -, -⟩ := rowsT_f s cA comp N M x
    obtain ⟨o1, o2, o3⟩ := rowO_f cA N s.heap.size x
    have hmul : x * M + M ≤ N * M := by
      have := Nat.mul_le_mul_right M (show x + 1 ≤ N from hlt)
      rw [Nat.succ_mul] at this
      exact this
    have hlt0 : s.heap.size < (rowsT s cA comp N M x).heap.size := by omega
    simp only [wp_bind']
    rw [multianewarray.make]
    simp only [wp_bind', W.ite, hk, if_false, wp_pure', W.theClass, f3, hkC, hC, Option.some.injEq, exists_eq_left']
    rw [hM]
    refine mk_new (by rw [f3]; exact hkC) hC l3 l4 rfl rfl (by omega) (by rw [f4]; omega) ?_
    simp only [wp_bind', W.writeLoc, wp_pure']
    refine ⟨rowO cA N s.heap.size x, by rw [State.heap_pushCell_of_lt (h := hlt0)]; exact f2, by rw [o2]; simp, by rw [o3]; exact hlt, ?_, hnext _ _ _ ⟨x + 1, hlt, hrest, ?_⟩⟩
    · rw [o1, o2]
      simp [State.fitsSlot, State.slotType?, f3, hkA, hA]
      rfl
    · rw [f1]; rfl
  · rintro s' d' acts' ⟨i, hi, hl, rfl⟩
    have hiN : i = N := by
      by_cases h : i < N
      · rw [show N - i = (N - (i + 1)) + 1 by omega, List.range'_succ] at hl
        cases hl
      · omega
    subst hiN
    simp only [wp_pure']
    exact hq _ _
end MV
section MW
variable {p : Program} {l : Launch} {e : Env} {R : Room} {s : State} {m : MethodId} {args : Array Value} {below : List Frame} {meth : Method} {c : Code} {H : Heap} {locs : List Loc} {cells slots : Nat} {Q : State → Prop}
theorem W_multi {cc : ByteArray} (hexec : p.tables.exec = Jvm.exec) (hb : c.code = cc) {own : String} {index : Nat} (hown : s.vm.findClass own = some m.cls) (hclink : (Cond.classLink own index ("[" ++ (FieldType.array FieldType.int).toString)).before args s = true) (hover : AOI s) (harr : (Cond.arrayClass .int).before args s = true) {g : JFrame} (hg : g.method = m) (hdg : decode cc g.pc = .ok (.multianewarray index 2, 4)) {n k : Int32} {rest : List Value} (hstack : g.stack = .int k :: .int n :: rest) (hn : ¬ n < 0) (hk : ¬ k < 0) (b1 : n.toNatClampNeg * 4 ≤ 536870912) (b2 : k.toNatClampNeg * 4 ≤ 536870912) (hcells : cells + (1 + n.toNatClampNeg) ≤ R.cells) (hslots : slots + (n.toNatClampNeg + n.toNatClampNeg * k.toNatClampNeg) ≤ R.slots)
    (kk : ∀ (cA comp : ClassId) (H1 : Heap), s.vm.findClass ("[" ++ (FieldType.array FieldType.int).toString) = some cA → s.vm.findClass (FieldType.array FieldType.int).toString = some comp → H1.size = H.size + 1 + n.toNatClampNeg → H1[H.size]? = some (rowO cA n.toNatClampNeg H.size n.toNatClampNeg) → (∀ a, a < H.size → H1[a]? = H[a]?) → (∀ j, j < n.toNatClampNeg → H1[H.size + 1 + j]? = some (rowI comp k.toNatClampNeg)) →
      W p l e R s m args below meth c H1 locs (cells + 1 + n.toNatClampNeg) (slots + n.toNatClampNeg + n.toNatClampNeg * k.toNatClampNeg) Q { g with pc := g.pc + 4, stack := .ref H.size :: rest }) : W p l e R s m args below meth c H locs cells slots Q g := by
  intro T hT X
  subst hT; subst hb; subst hg
  have hpl : e.platform.magicAccessors = ({} : Platform).magicAccessors := by rw [X.admits.platform]
  obtain ⟨comp, cA, kA, hcomp, -, hkA, hkindA, hnameA⟩ := aoi_spec hover
  obtain ⟨comp', kC, c3, hcomp', hkC, hkindC⟩ := Cond.arrayClass_spec harr
  have ecomp : comp' = comp := Option.some.inj (hcomp'.symm.trans hcomp)
  subst ecomp
  obtain ⟨c0, hfc0, hcl⟩ := Cond.classLink_spec hown hclink e.platform hpl
  cases hnameA.symm.trans hfc0
  obtain ⟨hg₁, hwarm₁, hready₁⟩ := State.classEntry (e := e) X.warmed hcl
  generalize T.vm.noted g.method.cls index (.cls cA) = vm₁ at hg₁ hwarm₁ hready₁
  have hal : s.vm.Alike vm₁ := hwarm₁.alike
  obtain ⟨kA₁, hkA₁, heA⟩ := hal.2.2 _ _ hkA
  obtain ⟨kC₁, hkC₁, heC⟩ := hal.2.2 _ _ hkC
  have hkindA₁ : kA₁.kind = .array comp' (.array .int) := by rw [heA]; exact hkindA
  have hkindC₁ : kC₁.kind = .array c3 .int := by rw [heC]; exact hkindC
  have X₁ := X.noted hwarm₁
  obtain ⟨hr1, hr2⟩ := X.roomAbove hcells hslots
  have XF := rowsT_st X₁ cA comp' n.toNatClampNeg k.toNatClampNeg n.toNatClampNeg
  have XD : Stand p l e R s g.method args below meth c (rowsT (T.setVm vm₁) cA comp' n.toNatClampNeg k.toNatClampNeg n.toNatClampNeg) locs (cells + 1 + n.toNatClampNeg) (slots + n.toNatClampNeg + n.toNatClampNeg * k.toNatClampNeg) := XF.dropFresh (fun x hx => by
    obtain ⟨j, -, rfl⟩ := List.mem_map.mp hx
    exact X.heapGrown)
  obtain ⟨f1, f2, f3, f4, f5, f6⟩ := rowsT_f (T.setVm vm₁) cA comp' n.toNatClampNeg k.toNatClampNeg n.toNatClampNeg
  obtain ⟨t, a1, a2⟩ := kk cA comp' _ hnameA hcomp f1 f2 f5 f6 _ rfl XD
  refine ⟨t, ?_, a2⟩
  have l1 : ¬ n.toNatClampNeg > e.platform.arrayLengthLimit := by rw [Launch.admits_arrayLengthLimit X.admits]; omega
  have l2 : ¬ n.toNatClampNeg * 4 > e.platform.maxHeapBytes := by rw [Launch.admits_maxHeapBytes X.admits]; omega
  have l3 : ¬ k.toNatClampNeg > e.platform.arrayLengthLimit := by rw [Launch.admits_arrayLengthLimit X.admits]; omega
  have l4 : ¬ k.toNatClampNeg * 4 > e.platform.maxHeapBytes := by rw [Launch.admits_maxHeapBytes X.admits]; omega
  jvm_step X.here [hexec, hdg]
  simp only [multianewarray.sem, wp_bind', W.resolveClassAt_links (State.method?_setTop g X.here.top) hg₁]
  rw [W.popN, if_neg (by decide)]
  refine ⟨g, State.topJava?_setTop' (s := T.setVm vm₁) g X.here.top, [.int n, .int k], rest, rfl, hstack, ?_⟩
  simp only [List.mapM_cons, List.mapM_nil, wp_bind', wp_pure']
  refine mk_rows (kA := kA₁) (kC := kC₁) (comp := comp') (cc := c3) hkA₁ hkindA₁ hkC₁ hkindC₁ hn hk l1 l2 l3 l4 (by show T.heap.size + 1 + _ ≤ _; omega) (by show T.slotsUsed + _ + _ ≤ _; omega) (fun d' acts' => ?_)
  have eS : ((T.setTop g).setVm vm₁).setTop { g with stack := rest } = (T.setVm vm₁).setTop { g with stack := rest } := by
    show ((T.setVm vm₁).setTop g).setTop _ = _
    rw [State.setTop_setTop]
  rw [eS, rowsT_top]
  simp only [wp_bind', W.mark, W.pushRef, State.topJava?_setTop' _ XF.here.top, Option.some.injEq, exists_eq_left', State.setTop_setTop, State.heap_setTop]
  intro acts
  simp [jvm, XF.here.top]
  exact a1
end MW
theorem rowO_g (cA : ClassId) (n h0 : Nat) : ∀ i, (rowO cA n h0 i).monitor = {} ∧ (rowO cA n h0 i).hash = none
  | 0 => ⟨rfl, rfl⟩
  | i + 1 => rowO_g cA n h0 i
theorem rowO_a (cA : ClassId) (n h0 : Nat) : rowO cA n h0 n = arrV cA n (fun j => .ref (h0 + 1 + j)) := by
  obtain ⟨a, b, d⟩ := rowO_f cA n h0 n
  have hs : (rowO cA n h0 n).slots = Array.ofFn (n := n) (fun j => Value.ref (h0 + 1 + j.val)) := by
    apply Array.ext_getElem?
    intro i
    by_cases h : i < n
    · rw [rowO_s cA n h0 n i h, if_pos h, Array.getElem?_ofFn, dif_pos h]
    · rw [Array.getElem?_eq_none (by rw [d]; omega), Array.getElem?_eq_none (by rw [Array.size_ofFn]; omega)]
  show rowO cA n h0 n = { cls := cA, slots := Array.ofFn (n := n) (fun j => Value.ref (h0 + 1 + j.val)), vm := .none }
  obtain ⟨g1, g2⟩ := rowO_g cA n h0 n
  generalize rowO cA n h0 n = X at *
  cases X
  dsimp only at a b hs g1 g2
  subst a; subst b; subst hs; subst g1; subst g2
  rfl
theorem rowI_a (comp : ClassId) (k : Nat) : rowI comp k = arrV comp k (fun _ => .int 0) := arrV_new comp k (.int 0)
/-- rows of ints in the cells N .. N + m -/
def mzS (σ : SS) (N m : Nat) : SS := fun a => if N ≤ a ∧ a ≤ N + m then (fun _ => 0) else σ a
def mzP (ρ : PP) (N m : Nat) : PP := fun a => if a = N then (fun j => if j < m then some (N + 1 + j) else none) else if N ≤ a ∧ a ≤ N + m then (fun _ => none) else ρ a
theorem szN_rows {N m k : Nat} (h0 : szc N = m) (hi : ∀ j, j < m → szc (N + 1 + j) = k) : ∀ i, i ≤ m → szN (N + 1 + i) = szN N + m + i * k
  | 0, _ => by
    show szN N + szc N = _
    rw [h0]
    omega
  | i + 1, h => by
    have ih := szN_rows h0 hi i (by omega)
    show szN (N + 1 + i) + szc (N + 1 + i) = _
    rw [ih, hi i (by omega), Nat.succ_mul]
    omega
theorem rng_00 (k : Nat) : rng k 0 := by
  unfold rng
  split
  · unfold inL; omega
  · trivial
  · trivial
  · exact inI_0
theorem arrV_ext {cI : ClassId} {N : Nat} {f g : Nat → Value} (h : ∀ j, j < N → f j = g j) : arrV cI N f = arrV cI N g := by
  unfold arrV
  have e : (Array.ofFn (n := N) fun j => f j.val) = Array.ofFn (n := N) fun j => g j.val := by
    congr 1
    funext j
    exact h j.val j.isLt
  rw [e]
section MX
variable {l : Launch} {b : Nat} {V : V2} {cc : ByteArray} {own : String} {nL h N0 N1 pc : Nat} {Γ : GG} {L : List Int} {R : List Nat} {σ σ' : SS} {ρ ρ' : PP} {N : Nat} {st : List Value}
theorem j_multi (C : Ctx2 l b V cc own nL h N0 N1) {n k : Int} {nm index : Nat} (hl1 : Cond.classLink own index "[[I" ∈ gtb) (hac : Cond.arrayClass .int ∈ gtb) (h1 : (sh N).1 = 6) (h3 : (sh N).2.1 = 8) (h2 : ((sh N).2.2 : Int) = n) (hi : ∀ j, j < nm → (sh (N + 1 + j)).1 = 2 ∧ ((sh (N + 1 + j)).2.2 : Int) = k) (hn : 0 ≤ n ∧ n < 3000) (hk : 0 ≤ k ∧ k < 3000) (hnm : n.toNat = nm) (hN1 : N + 1 + nm ≤ N1) (hd : decode cc pc = .ok (.multianewarray index 2, 4)) (kk : V (pc + 4) Γ ((L, R, mzS σ N nm, mzP ρ N nm, N + 1 + nm) : Z2) (.ref (b + N) :: st)) : V pc Γ ((L, R, σ, ρ, N) : Z2) (vI k :: vI n :: st) := by
  obtain ⟨p, e, Rm, s, m, args, below, meth, c, Q, D, tc, rfl, hx, hb, hml, hown, hts, hK, hE, hfr, hlo, hce, hsl, hbs⟩ := C
  intro okσ okl hN ls H locs hl hH hA
  have hsz : H.size = b + N := hH.1
  have hN : N0 ≤ N := hN
  have hni : inI n := by unfold inI; omega
  have hki : inI k := by unfold inI; omega
  have m1 := szN_mono hN1
  have m2 := szN_mono hN
  have e1 : szc N = nm := by unfold szc; rw [if_neg (by rw [h1]; decide)]; omega
  have ei : ∀ j, j < nm → szc (N + 1 + j) = k.toNat := fun j hj => by
    obtain ⟨q1, q2⟩ := hi j hj
    unfold szc
    rw [if_neg (by rw [q1]; decide)]
    omega
  have e2 := szN_rows e1 ei nm (Nat.le_refl _)
  have hcl : (Int32.ofInt n).toNatClampNeg = nm := by rw [ofI_cl hni]; exact hnm
  have hck : (Int32.ofInt k).toNatClampNeg = k.toNat := ofI_cl hki
  have es : "[" ++ (FieldType.array FieldType.int).toString = "[[I" := by decide +kernel
  have hl2 : (Cond.classLink own index ("[" ++ (FieldType.array FieldType.int).toString)).before args s = true := by rw [es]; exact hts _ hl1
  generalize hkm : k.toNat = km at *
  refine W_multi hx hb hown hl2 hE.2.2.2.2 (hts _ hac) rfl hd rfl (by rw [ofI_0, ofI_lt hni inI_0]; omega) (by rw [ofI_0, ofI_lt hki inI_0]; omega) (by rw [hcl]; omega) (by rw [hck]; omega) (by rw [hcl]; show N - N0 + (1 + nm) ≤ _; omega) (by rw [hcl, hck]; show szN N - szN N0 + (nm + nm * km) ≤ _; omega) (fun cA comp H1 f1 f2 z1 g1 o1 gi => ?_)
  rw [hcl] at z1 g1 gi
  rw [hck] at gi
  have c1 : N - N0 + 1 + nm = N + 1 + nm - N0 := by omega
  have c2 : szN N - szN N0 + nm + nm * km = szN (N + 1 + nm) - szN N0 := by omega
  show W _ _ _ _ _ _ _ _ _ _ _ _ (N - N0 + 1 + (Int32.ofInt n).toNatClampNeg) (szN N - szN N0 + (Int32.ofInt n).toNatClampNeg + (Int32.ofInt n).toNatClampNeg * (Int32.ofInt k).toNatClampNeg) _ (F0 m (pc + 4) ls (.ref H.size :: st))
  rw [hcl, hck, c1, c2, hsz]
  have eA : cA = tc 8 := Option.some.inj (f1.symm.trans (hK.2 8 _ rfl).2)
  have eI : comp = tc 0 := Option.some.inj (f2.symm.trans (hK.2 0 _ rfl).2)
  subst eA; subst eI
  rw [rowO_a, hsz] at g1
  refine kk ?_ okl (by show N0 ≤ N + 1 + nm; omega) ls H1 locs hl ⟨by show H1.size = b + (N + 1 + nm); rw [z1, hsz]; omega, fun a e' ha he' => ?_⟩ ⟨Nat.le_trans hA.1 (by omega), fun q q1 q2 => (o1 q (Nat.lt_of_lt_of_le q1 hA.1)).trans (hA.2.1 q q1 q2), hA.2.2⟩
  · intro a' k'
    show rng (kd a' k') (mzS σ N nm a' k')
    unfold mzS
    split
    · exact rng_00 _
    · exact okσ a' k'
  · have ha : a < N + 1 + nm := ha
    by_cases q : a < N
    · have s1 : mzS σ N nm a = σ a := by unfold mzS; rw [if_neg (by omega)]
      have s2 : mzP ρ N nm a = ρ a := by unfold mzP; rw [if_neg (by omega), if_neg (by omega)]
      rw [cE2_cong s1 s2] at he'
      exact (hH.2 a e' q he').kept (o1 _ (by rw [hsz]; omega))
    · by_cases q2 : a = N
      · subst q2
        rw [cE2_ref h1 h3] at he'
        cases he'
        show H1[b + a]? = some (vp_cell _ _)
        have e9 : (sh a).2.2 = nm := by omega
        rw [g1, vp_cell_q, e9]
        refine congrArg some (arrV_ext (fun j hj => ?_))
        have e5 : mzP ρ a nm a j = some (a + 1 + j) := by
          unfold mzP
          rw [if_pos rfl]
          exact if_pos hj
        show Value.ref (b + a + 1 + j) = va_rf ((mzP ρ a nm a j).map fun r => b + r)
        rw [e5]
        show Value.ref (b + a + 1 + j) = va_rf (some (b + (a + 1 + j)))
        rw [show b + a + 1 + j = b + (a + 1 + j) by omega]
        rfl
      · obtain ⟨j, hj⟩ : ∃ j, a = N + 1 + j := ⟨a - (N + 1), by omega⟩
        subst hj
        have hj : j < nm := by omega
        obtain ⟨i1, i2⟩ := hi j hj
        unfold cE2 at he'
        rw [if_neg (by rw [i1]; decide), if_neg (by rw [i1]; decide), cE_2 i1] at he'
        cases he'
        show H1[b + (N + 1 + j)]? = some (vp_cell _ _)
        have gj := gi j hj
        rw [hsz, show b + N + 1 + j = b + (N + 1 + j) by omega, rowI_a] at gj
        have e9 : (sh (N + 1 + j)).2.2 = km := by omega
        have s1 : mzS σ N nm (N + 1 + j) = fun _ => 0 := by unfold mzS; rw [if_pos (by omega)]
        rw [gj, vp_cell_i, e9]
        show some (arrV (tc 0) km fun x => Value.int 0) = some (arrV (tc 0) km fun j_1 => Value.int (Int32.ofInt (mzS σ N nm (N + 1 + j) j_1)))
        rw [s1]
        rfl
end MX
