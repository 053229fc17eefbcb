/-! what holds at the law's entry -/
theorem lq_1 {w : Cond} (i : Nat) (hi : tables_1_1[i]? = some w) : w ∈ lw_tbl := by
  have h : w ∈ tables_1_1 := List.mem_of_getElem? hi
  have h2 : w ∈ tables_1 := List.mem_append_left _ (h)
  exact List.mem_append_right _ h2
theorem lq_2 {w : Cond} (i : Nat) (hi : tables_1_2[i]? = some w) : w ∈ lw_tbl := by
  have h : w ∈ tables_1_2 := List.mem_of_getElem? hi
  have h2 : w ∈ tables_1 := List.mem_append_right _ (List.mem_append_left _ (h))
  exact List.mem_append_right _ h2
theorem lq_3 {w : Cond} (i : Nat) (hi : tables_1_3[i]? = some w) : w ∈ lw_tbl := by
  have h : w ∈ tables_1_3 := List.mem_of_getElem? hi
  have h2 : w ∈ tables_1 := List.mem_append_right _ (List.mem_append_right _ (List.mem_append_left _ (h)))
  exact List.mem_append_right _ h2
theorem lq_6 {w : Cond} (i : Nat) (hi : tables_1_6[i]? = some w) : w ∈ lw_tbl := by
  have h : w ∈ tables_1_6 := List.mem_of_getElem? hi
  have h2 : w ∈ tables_1 := List.mem_append_right _ (List.mem_append_right _ (List.mem_append_right _ (List.mem_append_right _ (List.mem_append_right _ (List.mem_append_left _ (h))))))
  exact List.mem_append_right _ h2
theorem ci_BandPark : CI 11 RX11 TX11 16 tyX11 := ⟨rfl, in_X11, tyX11_ok, nmX11, rfl, (gq_1 22 (by decide +kernel) rfl), (gq_1 1 (by decide +kernel) rfl), by decide +kernel, by decide⟩
theorem ci_BandParkModel : CI 12 RX12 TX12 45 tyX12 := ⟨rfl, in_X12, tyX12_ok, nmX12, rfl, (gq_7 7 (by decide +kernel) rfl), (gq_1 17 (by decide +kernel) rfl), by decide +kernel, by decide⟩
section LAWK
variable {s : State} {args : Array Value}
theorem kn_of {ci Nf : Nat} {C : String} {T : u_T} {ty : Nat → FieldType} (hg : ∀ w ∈ gtb, w.before args s = true) (h : CI ci C T Nf ty) : ∃ q : ClassId × (Nat → Nat), ∀ r : vw_C, vwCl[ci]? = some r → u_Kn s r.1 r.2.1 r.2.2 q.1 q.2 := by
  obtain ⟨h1, h2, h3, h4, h5, h6, h7⟩ := h
  obtain ⟨c, i, hk⟩ := u_known hg h2 (hg _ h6)
  refine ⟨(c, i), fun r hr => ?_⟩
  rw [h1] at hr
  cases hr
  exact hk
theorem kn_all (hg : ∀ w ∈ gtb, w.before args s = true) : ∀ c : Nat, ∃ q : ClassId × (Nat → Nat), ∀ r : vw_C, vwCl[c]? = some r → u_Kn s r.1 r.2.1 r.2.2 q.1 q.2 := by
  intro c
  match c with
  | 0 => exact kn_of hg ci_Band
  | 1 => exact kn_of hg ci_Evenings
  | 2 => exact kn_of hg ci_EveningsReader
  | 3 => exact kn_of hg ci_Park
  | 4 => exact kn_of hg ci_ParkReader
  | 5 => exact kn_of hg ci_Search
  | 6 => exact kn_of hg ci_Sound
  | 7 => exact kn_of hg ci_Stage
  | 8 => exact kn_of hg ci_Tape
  | 9 => exact kn_of hg ci_Tray
  | 10 => exact kn_of hg ci_Tune
  | 11 => exact kn_of hg ci_BandPark
  | 12 => exact kn_of hg ci_BandParkModel
  | k + 13 =>
    obtain ⟨q, -⟩ := kn_of hg ci_Band
    exact ⟨q, fun r hr => absurd (List.getElem?_eq_some_iff.mp hr).1 (by show ¬ k + 13 < 13; omega)⟩
theorem ta_prim {ty : FieldType} (h : (Cond.arrayClass ty).before args s = true) (hp : ∀ c : ClassId, s.vm.findClass ("[" ++ ty.toString) = some c → va_RA s c ty) : ∃ c : ClassId, ArrOfT s c ty ∧ va_RA s c ty := by
  obtain ⟨c, k, comp, h1, h2, h3⟩ := Cond.arrayClass_spec h
  exact ⟨c, fun n z => ⟨fun k h => (by cases h), k, h2, comp, h3⟩, hp c h1⟩
theorem ta_obj {C : String} (h : (Cond.arrayOver (.object C)).before args s = true) : ∃ c : ClassId, ArrOfT s c (.object C) ∧ va_RA s c (.object C) := by
  obtain ⟨comp, c, k, h1, h2, h3, h4, h5⟩ := Cond.arrayOver_spec h
  exact ⟨c, fun n z => ⟨fun k h => (by cases h), k, h3, comp, h4⟩, k, comp, h3, h4, h1, h5⟩
theorem ta_aoi (h : AOI s) : ∃ c : ClassId, ArrOfT s c (.array .int) ∧ va_RA s c (.array .int) := by
  obtain ⟨comp, c, k, h1, h2, h3, h4, h5⟩ := aoi_spec h
  exact ⟨c, fun n z => ⟨fun k h => (by cases h), k, h3, comp, h4⟩, h5⟩
theorem law_K (hts : ∀ w ∈ lw_tbl, w.before args s = true) : ∃ (D : va_G) (tc : Nat → ClassId), va_K D vwCl (tysL tc) s ∧ Ext tc s := by
  have hg : ∀ w ∈ gtb, w.before args s = true := fun w hw => hts w (List.mem_filter.mp hw).1
  obtain ⟨f, hf⟩ := Classical.axiomOfChoice (kn_all hg)
  have o9 := hts (.arrayOver (.object RX9)) (lq_1 30 (by decide +kernel))
  have o3 := hts (.arrayOver (.object RX3)) (lq_3 46 (by decide +kernel))
  have o10 := hts (.arrayOver (.object RX10)) (lq_1 144 (by decide +kernel))
  have o0 := hts (.arrayOver (.object RX0)) (lq_1 146 (by decide +kernel))
  have oi : AOI s := hts (.arrayOver (.array .int)) (lq_2 146 (by decide +kernel))
  obtain ⟨c0, a0⟩ := ta_prim (ty := .int) (hg _ aw_int) (fun c h => h)
  obtain ⟨c1, a1⟩ := ta_prim (ty := .long) (hg _ aw_long) (fun c h => h)
  obtain ⟨c2, a2⟩ := ta_prim (ty := .byte) (hg _ aw_byte) (fun c h => h)
  obtain ⟨c3, a3⟩ := ta_prim (ty := .boolean) (hg _ aw_boolean) (fun c h => h)
  obtain ⟨c4, a4⟩ := ta_obj o9
  obtain ⟨c5, a5⟩ := ta_obj o3
  obtain ⟨c6, a6⟩ := ta_obj o10
  obtain ⟨c7, a7⟩ := ta_obj o0
  obtain ⟨c8, a8⟩ := ta_aoi oi
  refine ⟨(fun c => (f c).1, fun c => (f c).2), fun k => if k = 0 then c0 else if k = 1 then c1 else if k = 2 then c2 else if k = 3 then c3 else if k = 4 then c4 else if k = 5 then c5 else if k = 6 then c6 else if k = 7 then c7 else c8, ⟨fun c r hr => hf c r hr, fun k q hq => ?_⟩, va_AO.of o9, va_AO.of o3, va_AO.of o10, va_AO.of o0, oi⟩
  match k, hq with
  | 0, hq => cases hq; exact a0
  | 1, hq => cases hq; exact a1
  | 2, hq => cases hq; exact a2
  | 3, hq => cases hq; exact a3
  | 4, hq => cases hq; exact a4
  | 5, hq => cases hq; exact a5
  | 6, hq => cases hq; exact a6
  | 7, hq => cases hq; exact a7
  | 8, hq => cases hq; exact a8
  | k + 9, hq => exact absurd (List.getElem?_eq_some_iff.mp hq).1 (by show ¬ k + 9 < 9; omega)
end LAWK
set_option maxRecDepth 100000 in
theorem nw_4 : (flatC (Jvm.Cond.and given_1 narrow_1))[4]? = some (Cond.eq (.static "java/lang/String" "COMPACT_STRINGS" "Z") (.int 1)) := by decide +kernel
set_option maxRecDepth 100000 in
theorem nw_5 : (flatC (Jvm.Cond.and given_1 narrow_1))[5]? = some (Cond.isRef (.static "jdk/internal/util/Preconditions" "SIOOBE_FORMATTER" "Ljava/util/function/BiFunction;")) := by decide +kernel
set_option maxRecDepth 100000 in
theorem nw_61 : (flatC (Jvm.Cond.and given_1 narrow_1))[61]? = some (Cond.exactly (.string RX8 51) "java/lang/String") := by decide +kernel
set_option maxRecDepth 100000 in
theorem nw_62 : (flatC (Jvm.Cond.and given_1 narrow_1))[62]? = some (Cond.eq (.field (.string RX8 51) "java/lang/String" "coder" "B") (.int 0)) := by decide +kernel
set_option maxRecDepth 100000 in
theorem nw_63 : (flatC (Jvm.Cond.and given_1 narrow_1))[63]? = some (Cond.arrayOf (.field (.string RX8 51) "java/lang/String" "value" "[B") .byte) := by decide +kernel
set_option maxRecDepth 100000 in
theorem nw_64 : (flatC (Jvm.Cond.and given_1 narrow_1))[64]? = some (Cond.eq (.length (.field (.string RX8 51) "java/lang/String" "value" "[B")) (.int (Int32.ofNat (lenK.getD 0 0)))) := by decide +kernel
set_option maxRecDepth 100000 in
theorem nw_el : ∀ j, j < 153 → (flatC (Jvm.Cond.and given_1 narrow_1))[65 + j]? = some (Cond.eq (.elem (.field (.string RX8 51) "java/lang/String" "value" "[B") (.int (Int32.ofNat j))) (.int ((bytK.getD 0 []).getD j 0))) := by decide +kernel
theorem nw_nest : ∀ q ∈ nestL, Cond.methodLinkNest q.1 q.2.1 q.2.2.1 q.2.2.2 ∈ lw_tbl := by
  unfold nestL
  exact List.forall_mem_cons.mpr ⟨lq_1 133 (by decide +kernel), List.forall_mem_cons.mpr ⟨lq_1 149 (by decide +kernel), List.forall_mem_cons.mpr ⟨lq_1 197 (by decide +kernel), List.forall_mem_cons.mpr ⟨lq_1 225 (by decide +kernel), List.forall_mem_cons.mpr ⟨lq_2 234 (by decide +kernel), List.forall_mem_cons.mpr ⟨lq_3 14 (by decide +kernel), List.forall_mem_cons.mpr ⟨lq_3 48 (by decide +kernel), List.forall_mem_cons.mpr ⟨lq_6 195 (by decide +kernel), List.forall_mem_nil _⟩⟩⟩⟩⟩⟩⟩⟩
theorem law_X {s : State} {bS : Nat} (hts : ∀ w ∈ lw_tbl, w.before #[Value.ref bS] s = true) (hgv : (Jvm.Cond.and given_1 narrow_1).before #[Value.ref bS] s = true) : ∃ ad : Nat × Nat, XX s.heap.size ad s := by
  have hs := flat_of_before _ hgv
  have hA : ∀ a : Nat, a < s.heap.size → ¬ (fun q : Nat => s.heap.size ≤ q) a := fun a h => Nat.not_le.mpr h
  obtain ⟨adK, adV, h1, h2⟩ := vk_Sof (args := #[Value.ref bS]) (s := s) (N := 1) (tm := fun _ => Term.string RX8 51) (len := lenK) (byt := bytK) (A := fun q : Nat => s.heap.size ≤ q)
    (fun i hi => by
      have q : i = 0 := by omega
      subst q
      decide +kernel)
    (fun i hi => hs _ (List.mem_of_getElem? nw_61)) (fun i hi => hs _ (List.mem_of_getElem? nw_62)) (fun i hi => hs _ (List.mem_of_getElem? nw_63))
    (fun i hi => by
      have q : i = 0 := by omega
      subst q
      exact hs _ (List.mem_of_getElem? nw_64))
    (fun i hi j hj => by
      have q : i = 0 := by omega
      subst q
      exact hs _ (List.mem_of_getElem? (nw_el j hj)))
    (fun i j hi hj hij => absurd (by omega : i = j) hij) hA
  refine ⟨(adK 0, adV 0), fun q hq => va_Nw.of rfl (hts _ (nw_nest q hq)), ⟨fun i hi => ?_, fun i j hi hj _ => by omega⟩, vk_R.of (hts (.stringRef RX8 51 kwT) (lq_1 37 (by decide +kernel))) (h2 0 (by omega)), va_Zof (hts (.laysStatic "java/lang/String" "COMPACT_STRINGS" "Z") (lq_1 47 (by decide +kernel))) (hts (.initialized "java/lang/String") (lq_1 3 (by decide +kernel))) (va_eqt (hs _ (List.mem_of_getElem? nw_4))) hA, va_Zqof (hts (.laysStatic "jdk/internal/util/Preconditions" "SIOOBE_FORMATTER" "Ljava/util/function/BiFunction;") (lq_1 63 (by decide +kernel))) (hts (.initialized "jdk/internal/util/Preconditions") (lq_1 5 (by decide +kernel))) (hs _ (List.mem_of_getElem? nw_5)) hA⟩
  have q : i = 0 := by omega
  subst q
  exact h1.1 0 hi
