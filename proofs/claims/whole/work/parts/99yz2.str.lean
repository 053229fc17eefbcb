/-! the methods of String that Tape() calls -/
theorem dJ0_coder_7d493_0 : decode cJ0_coder_7d493 0 = .ok (.getstatic 38, 3) := by decide +kernel
theorem dJ0_coder_7d493_3 : decode cJ0_coder_7d493 3 = .ok (.ifCond .eq 10, 3) := by decide +kernel
theorem dJ0_coder_7d493_6 : decode cJ0_coder_7d493 6 = .ok (.aload_n 0, 1) := by decide +kernel
theorem dJ0_coder_7d493_7 : decode cJ0_coder_7d493 7 = .ok (.getfield 15, 3) := by decide +kernel
theorem dJ0_coder_7d493_10 : decode cJ0_coder_7d493 10 = .ok (.goto 4, 3) := by decide +kernel
theorem dJ0_coder_7d493_14 : decode cJ0_coder_7d493 14 = .ok (.ireturn, 1) := by decide +kernel
theorem dJ0_isLatin1_aae02_0 : decode cJ0_isLatin1_aae02 0 = .ok (.getstatic 38, 3) := by decide +kernel
theorem dJ0_isLatin1_aae02_3 : decode cJ0_isLatin1_aae02 3 = .ok (.ifCond .eq 14, 3) := by decide +kernel
theorem dJ0_isLatin1_aae02_6 : decode cJ0_isLatin1_aae02 6 = .ok (.aload_n 0, 1) := by decide +kernel
theorem dJ0_isLatin1_aae02_7 : decode cJ0_isLatin1_aae02 7 = .ok (.getfield 15, 3) := by decide +kernel
theorem dJ0_isLatin1_aae02_10 : decode cJ0_isLatin1_aae02 10 = .ok (.ifCond .ne 7, 3) := by decide +kernel
theorem dJ0_isLatin1_aae02_13 : decode cJ0_isLatin1_aae02 13 = .ok (.iconst 1, 1) := by decide +kernel
theorem dJ0_isLatin1_aae02_14 : decode cJ0_isLatin1_aae02 14 = .ok (.goto 4, 3) := by decide +kernel
theorem dJ0_isLatin1_aae02_18 : decode cJ0_isLatin1_aae02 18 = .ok (.ireturn, 1) := by decide +kernel
theorem dJ0_length_8abf5_0 : decode cJ0_length_8abf5 0 = .ok (.aload_n 0, 1) := by decide +kernel
theorem dJ0_length_8abf5_1 : decode cJ0_length_8abf5 1 = .ok (.getfield 9, 3) := by decide +kernel
theorem dJ0_length_8abf5_4 : decode cJ0_length_8abf5 4 = .ok (.arraylength, 1) := by decide +kernel
theorem dJ0_length_8abf5_5 : decode cJ0_length_8abf5 5 = .ok (.aload_n 0, 1) := by decide +kernel
theorem dJ0_length_8abf5_6 : decode cJ0_length_8abf5 6 = .ok (.invokevirtual 335, 3) := by decide +kernel
theorem dJ0_length_8abf5_9 : decode cJ0_length_8abf5 9 = .ok (.ishr, 1) := by decide +kernel
theorem dJ0_length_8abf5_10 : decode cJ0_length_8abf5 10 = .ok (.ireturn, 1) := by decide +kernel
theorem dJ0_charAt_5068e_0 : decode cJ0_charAt_5068e 0 = .ok (.aload_n 0, 1) := by decide +kernel
theorem dJ0_charAt_5068e_1 : decode cJ0_charAt_5068e 1 = .ok (.invokevirtual 492, 3) := by decide +kernel
theorem dJ0_charAt_5068e_4 : decode cJ0_charAt_5068e 4 = .ok (.ifCond .eq 12, 3) := by decide +kernel
theorem dJ0_charAt_5068e_7 : decode cJ0_charAt_5068e 7 = .ok (.aload_n 0, 1) := by decide +kernel
theorem dJ0_charAt_5068e_8 : decode cJ0_charAt_5068e 8 = .ok (.getfield 9, 3) := by decide +kernel
theorem dJ0_charAt_5068e_11 : decode cJ0_charAt_5068e 11 = .ok (.iload_n 1, 1) := by decide +kernel
theorem dJ0_charAt_5068e_12 : decode cJ0_charAt_5068e 12 = .ok (.invokestatic 495, 3) := by decide +kernel
theorem dJ0_charAt_5068e_15 : decode cJ0_charAt_5068e 15 = .ok (.ireturn, 1) := by decide +kernel
theorem dJ0_checkIndex_df160_0 : decode cJ0_checkIndex_df160 0 = .ok (.iload_n 0, 1) := by decide +kernel
theorem dJ0_checkIndex_df160_1 : decode cJ0_checkIndex_df160 1 = .ok (.iload_n 1, 1) := by decide +kernel
theorem dJ0_checkIndex_df160_2 : decode cJ0_checkIndex_df160 2 = .ok (.getstatic 1053, 3) := by decide +kernel
theorem dJ0_checkIndex_df160_5 : decode cJ0_checkIndex_df160 5 = .ok (.invokestatic 1059, 3) := by decide +kernel
theorem dJ0_checkIndex_df160_8 : decode cJ0_checkIndex_df160 8 = .ok (.pop, 1) := by decide +kernel
theorem dJ0_checkIndex_df160_9 : decode cJ0_checkIndex_df160 9 = .ok (.return_, 1) := by decide +kernel
theorem dJ1_charAt_3b067_0 : decode cJ1_charAt_3b067 0 = .ok (.iload_n 1, 1) := by decide +kernel
theorem dJ1_charAt_3b067_1 : decode cJ1_charAt_3b067 1 = .ok (.aload_n 0, 1) := by decide +kernel
theorem dJ1_charAt_3b067_2 : decode cJ1_charAt_3b067 2 = .ok (.arraylength, 1) := by decide +kernel
theorem dJ1_charAt_3b067_3 : decode cJ1_charAt_3b067 3 = .ok (.invokestatic 9, 3) := by decide +kernel
theorem dJ1_charAt_3b067_6 : decode cJ1_charAt_3b067 6 = .ok (.aload_n 0, 1) := by decide +kernel
theorem dJ1_charAt_3b067_7 : decode cJ1_charAt_3b067 7 = .ok (.iload_n 1, 1) := by decide +kernel
theorem dJ1_charAt_3b067_8 : decode cJ1_charAt_3b067 8 = .ok (.baload, 1) := by decide +kernel
theorem dJ1_charAt_3b067_9 : decode cJ1_charAt_3b067 9 = .ok (.sipush 255, 3) := by decide +kernel
theorem dJ1_charAt_3b067_12 : decode cJ1_charAt_3b067 12 = .ok (.iand, 1) := by decide +kernel
theorem dJ1_charAt_3b067_13 : decode cJ1_charAt_3b067 13 = .ok (.i2c, 1) := by decide +kernel
theorem dJ1_charAt_3b067_14 : decode cJ1_charAt_3b067 14 = .ok (.ireturn, 1) := by decide +kernel
theorem dJ3_checkIndex_8e157_0 : decode cJ3_checkIndex_8e157 0 = .ok (.iload_n 0, 1) := by decide +kernel
theorem dJ3_checkIndex_8e157_1 : decode cJ3_checkIndex_8e157 1 = .ok (.ifCond .lt 8, 3) := by decide +kernel
theorem dJ3_checkIndex_8e157_4 : decode cJ3_checkIndex_8e157 4 = .ok (.iload_n 0, 1) := by decide +kernel
theorem dJ3_checkIndex_8e157_5 : decode cJ3_checkIndex_8e157 5 = .ok (.iload_n 1, 1) := by decide +kernel
theorem dJ3_checkIndex_8e157_6 : decode cJ3_checkIndex_8e157 6 = .ok (.if_icmp .lt 10, 3) := by decide +kernel
theorem dJ3_checkIndex_8e157_16 : decode cJ3_checkIndex_8e157 16 = .ok (.iload_n 0, 1) := by decide +kernel
theorem dJ3_checkIndex_8e157_17 : decode cJ3_checkIndex_8e157 17 = .ok (.ireturn, 1) := by decide +kernel
theorem wj_f38 : Cond.fieldLink RJ0 38 "java/lang/String" "COMPACT_STRINGS" "Z" ∈ gtb := (gq_1 46 (by decide +kernel) rfl)
theorem wj_f9 : Cond.fieldLink RJ0 9 "java/lang/String" "value" "[B" ∈ gtb := (gq_10 158 (by decide +kernel) rfl)
theorem wj_f15 : Cond.fieldLink RJ0 15 "java/lang/String" "coder" "B" ∈ gtb := (gq_10 159 (by decide +kernel) rfl)
theorem wj_f1053 : Cond.fieldLink RJ0 1053 "jdk/internal/util/Preconditions" "SIOOBE_FORMATTER" "Ljava/util/function/BiFunction;" ∈ gtb := (gq_1 62 (by decide +kernel) rfl)
theorem wj_l53 : Cond.methodLink RX8 53 yJ0_length_8abf5 ∈ gtb := (gq_1 38 (by decide +kernel) rfl)
theorem wj_l58 : Cond.methodLink RX8 58 yJ0_charAt_5068e ∈ gtb := (gq_1 48 (by decide +kernel) rfl)
theorem wj_l335 : Cond.methodLink RJ0 335 yJ0_coder_7d493 ∈ gtb := (gq_1 42 (by decide +kernel) rfl)
theorem wj_l492 : Cond.methodLink RJ0 492 yJ0_isLatin1_aae02 ∈ gtb := (gq_1 52 (by decide +kernel) rfl)
theorem wj_l495 : Cond.methodLink RJ0 495 yJ1_charAt_3b067 ∈ gtb := (gq_1 56 (by decide +kernel) rfl)
theorem wj_l9 : Cond.methodLink RJ1 9 yJ0_checkIndex_df160 ∈ gtb := (gq_1 59 (by decide +kernel) rfl)
theorem wj_l1059 : Cond.methodLink RJ0 1059 yJ3_checkIndex_8e157 ∈ gtb := (gq_1 64 (by decide +kernel) rfl)
set_option maxRecDepth 20000 in
theorem yw_J0_coder_7d493 : YW yJ0_coder_7d493 cJ0_coder_7d493 1 (some .byte) 0 := ⟨(gq_1 45 rfl rfl), (gq_1 3 (by decide +kernel) rfl), by decide +kernel, by decide⟩
theorem yi_J0_coder_7d493 : Cond.instanceMethod yJ0_coder_7d493 ∈ gtb ∧ Cond.selects yJ0_coder_7d493.cls yJ0_coder_7d493 yJ0_coder_7d493 ∈ gtb := ⟨(gq_1 43 (by decide +kernel) rfl), (gq_1 44 (by decide +kernel) rfl)⟩
set_option maxRecDepth 20000 in
theorem yw_J0_isLatin1_aae02 : YW yJ0_isLatin1_aae02 cJ0_isLatin1_aae02 1 (some .boolean) 0 := ⟨(gq_1 55 rfl rfl), (gq_1 3 (by decide +kernel) rfl), by decide +kernel, by decide⟩
theorem yi_J0_isLatin1_aae02 : Cond.instanceMethod yJ0_isLatin1_aae02 ∈ gtb ∧ Cond.selects yJ0_isLatin1_aae02.cls yJ0_isLatin1_aae02 yJ0_isLatin1_aae02 ∈ gtb := ⟨(gq_1 53 (by decide +kernel) rfl), (gq_1 54 (by decide +kernel) rfl)⟩
set_option maxRecDepth 20000 in
theorem yw_J0_length_8abf5 : YW yJ0_length_8abf5 cJ0_length_8abf5 1 (some .int) 0 := ⟨(gq_1 41 rfl rfl), (gq_1 3 (by decide +kernel) rfl), by decide +kernel, by decide⟩
theorem yi_J0_length_8abf5 : Cond.instanceMethod yJ0_length_8abf5 ∈ gtb ∧ Cond.selects yJ0_length_8abf5.cls yJ0_length_8abf5 yJ0_length_8abf5 ∈ gtb := ⟨(gq_1 39 (by decide +kernel) rfl), (gq_1 40 (by decide +kernel) rfl)⟩
set_option maxRecDepth 20000 in
theorem yw_J0_charAt_5068e : YW yJ0_charAt_5068e cJ0_charAt_5068e 2 (some .char) 1 := ⟨(gq_1 51 rfl rfl), (gq_1 3 (by decide +kernel) rfl), by decide +kernel, by decide⟩
theorem yi_J0_charAt_5068e : Cond.instanceMethod yJ0_charAt_5068e ∈ gtb ∧ Cond.selects yJ0_charAt_5068e.cls yJ0_charAt_5068e yJ0_charAt_5068e ∈ gtb := ⟨(gq_1 49 (by decide +kernel) rfl), (gq_1 50 (by decide +kernel) rfl)⟩
set_option maxRecDepth 20000 in
theorem yw_J0_checkIndex_df160 : YW yJ0_checkIndex_df160 cJ0_checkIndex_df160 2 none 2 := ⟨(gq_1 61 rfl rfl), (gq_1 3 (by decide +kernel) rfl), by decide +kernel, by decide⟩
theorem yi_J0_checkIndex_df160 : Cond.static yJ0_checkIndex_df160 ∈ gtb := (gq_1 60 (by decide +kernel) rfl)
set_option maxRecDepth 20000 in
theorem yw_J1_charAt_3b067 : YW yJ1_charAt_3b067 cJ1_charAt_3b067 2 (some .char) 2 := ⟨(gq_1 58 rfl rfl), (gq_1 4 (by decide +kernel) rfl), by decide +kernel, by decide⟩
theorem yi_J1_charAt_3b067 : Cond.static yJ1_charAt_3b067 ∈ gtb := (gq_1 57 (by decide +kernel) rfl)
set_option maxRecDepth 20000 in
theorem yw_J3_checkIndex_8e157 : YW yJ3_checkIndex_8e157 cJ3_checkIndex_8e157 3 (some .int) 3 := ⟨(gq_1 66 rfl rfl), (gq_1 5 (by decide +kernel) rfl), by decide +kernel, by decide⟩
theorem yi_J3_checkIndex_8e157 : Cond.static yJ3_checkIndex_8e157 ∈ gtb := (gq_1 65 (by decide +kernel) rfl)
/-- the heap is left as it is -/
def MtJ (l : Launch) (y : MethodName) (cc : ByteArray) (nL : Nat) (ret : Option FieldType) (h : Nat) (vs : Nat × Nat → List Value) (v : Option Value) : Prop :=
  ∀ (b : Nat) (ad : Nat × Nat), Met l y (.code y cc nL ret :: gtb) (rmH h) (va_Pc (vs ad) (XX b ad)) (fun _ s0 o t => o = .returned v ∧ t.heap = s0.heap) 0 0 (fun _ => False)
theorem XX_blind {b : Nat} {ad : Nat × Nat} {vs : List Value} : FrameBlind (va_Pc vs (XX b ad)) := by
  intro a U g mk q
  exact ⟨q.1, q.2.calling⟩
section JW
variable {p : Program} {l : Launch} {e : Env} {R : Room} {s : State} {m : MethodId} {args : Array Value} {below : List Frame} {meth : Method} {c : Code} {H : Heap} {locs : List Loc} {cells slots : Nat} {Q : State → Prop}
theorem wj_call {pc : Nat} {ls : Array Slot} {stk rest : List Value} {v : Option Value} (hr : va_Run p l e R s m args below meth c H locs cells slots 0 0 (F0 m pc ls stk) rest (fun s0 o t => o = .returned v ∧ t.heap = s0.heap) (fun _ => False)) (kk : W p l e R s m args below meth c H locs cells slots Q (F0 m (pc + 3) ls (v.toList ++ rest))) : W p l e R s m args below meth c H locs cells slots Q (F0 m pc ls stk) := by
  intro T hT X
  obtain ⟨v', st₀, t, T', Lc, h0, X', hLc, e1, e2, ⟨hv, hh⟩, stp⟩ := hr T hT X
  cases hv
  have hL : Lc = [] := List.eq_nil_iff_forall_not_mem.mpr (fun a ha => hLc a ha)
  subst hL
  rw [List.append_nil] at X'
  obtain ⟨t2, a1, b1⟩ := kk T' (by rw [e1, hh, h0]) X'
  exact ⟨t2, stp t2 a1, b1⟩
theorem wj_S {cc : ByteArray} {own : String} {nL h : Nat} (S : CallFix p m c cc nL s args gtb own) (hfr : h ≤ R.frames) (hlo : 48 * h ≤ R.locals) {b : Nat} {ad : Nat × Nat} (hXX : XX b ad s) (hA : va_S (BB b) s.heap H locs) (hf : cells ≤ R.cells ∧ slots ≤ R.slots) {y : MethodName} {cy : ByteArray} {nLy hy n index : Nat} {ret : Option FieldType} {vs : Nat × Nat → List Value} {v : Option Value} {As st : List Value} (hM : MtJ l y cy nLy ret hy vs v) (hY : YW y cy nLy ret n) (hI : Cond.static y ∈ gtb) (hl1 : Cond.methodLink own index y ∈ gtb) (hh : hy + 1 ≤ h) (hvs : vs ad = As) (hn : As.length = n) {ls : Array Slot} (hls : ls.size = nL) (hst : (st.map fun v => v.category).sum ≤ 8) {pc : Nat} (hd : decode cc pc = .ok (.invokestatic index, 3)) {stk : List Value} (hstk : stk = As.reverse ++ st)
    (kk : W p l e R s m args below meth c H locs cells slots Q (F0 m (pc + 3) ls (v.toList ++ st))) : W p l e R s m args below meth c H locs cells slots Q (F0 m pc ls stk) := by
  subst hstk
  have hM := hM b ad
  rw [hvs] at hM
  have cb : CallB R s args own index y cy nLy ret (Cond.code y cy nLy ret :: gtb) (rmH hy) 0 0 n :=
    callB_of n S.2.2.2.2 (gtb_in hY.1) rfl rfl rfl (S.2.2.2.2 _ hY.2.1) (S.2.2.2.2 _ hl1) hY.2.2.1 ⟨by show hy + 1 ≤ _; omega, by have := hY.2.2.2; show 8 + (nLy + 11) + 48 * hy ≤ _; omega⟩
  have hr := va_runS (As := As) (rest := st) (locs := locs) (cells := cells) (slots := slots) (g := F0 m pc ls (As.reverse ++ st)) (e := e) (below := below) (meth := meth) (H := H) S hM ⟨cb, S.2.2.2.2 _ hI⟩ ⟨XX_blind, fun U hU hW => ⟨rfl, hXX.go hA hU hW⟩⟩ rfl hn hls rfl (by show 2 * 0 + _ ≤ 8; omega) hd ⟨hf.1, hf.2⟩
  exact wj_call hr kk
theorem wj_V {cc : ByteArray} {own : String} {nL h : Nat} (S : CallFix p m c cc nL s args gtb own) (hfr : h ≤ R.frames) (hlo : 48 * h ≤ R.locals) {b : Nat} {ad : Nat × Nat} (hXX : XX b ad s) (hA : va_S (BB b) s.heap H locs) (hf : cells ≤ R.cells ∧ slots ≤ R.slots) {y : MethodName} {cy : ByteArray} {nLy hy n index : Nat} {ret : Option FieldType} {vs : Nat × Nat → List Value} {v : Option Value} {As st : List Value} (hM : MtJ l y cy nLy ret hy vs v) (hY : YW y cy nLy ret n) (hI : Cond.instanceMethod y ∈ gtb ∧ Cond.selects y.cls y y ∈ gtb) (hyc : y.cls = "java/lang/String") (hl1 : Cond.methodLink own index y ∈ gtb) (hh : hy + 1 ≤ h) (hvs : vs ad = .ref ad.1 :: As) (hn : As.length = n) {ls : Array Slot} (hls : ls.size = nL) (hst : (st.map fun v => v.category).sum ≤ 8) {pc : Nat} (hd : decode cc pc = .ok (.invokevirtual index, 3)) {stk : List Value} (hstk : stk = As.reverse ++ .ref ad.1 :: st)
    (kk : W p l e R s m args below meth c H locs cells slots Q (F0 m (pc + 3) ls (v.toList ++ st))) : W p l e R s m args below meth c H locs cells slots Q (F0 m pc ls stk) := by
  subst hstk
  have hM := hM b ad
  rw [hvs] at hM
  have cb : CallB R s args own index y cy nLy ret (Cond.code y cy nLy ret :: gtb) (rmH hy) 0 0 n :=
    callB_of n S.2.2.2.2 (gtb_in hY.1) rfl rfl rfl (S.2.2.2.2 _ hY.2.1) (S.2.2.2.2 _ hl1) hY.2.2.1 ⟨by show hy + 1 ≤ _; omega, by have := hY.2.2.2; show 8 + (nLy + 11) + 48 * hy ≤ _; omega⟩
  have hrecv : ∃ cellB : Cell, H[ad.1]? = some cellB ∧ cellB.vm.isStatics = false ∧ s.vm.findClass y.cls = some cellB.cls := by
    obtain ⟨cell, h1, h2, h3, -⟩ := (hXX.2.1.1 0 (by decide)).1.kept hA.2.1
    exact ⟨cell, h1, h2, by rw [hyc]; exact h3⟩
  have hr := va_runV (As := As) (rest := st) (locs := locs) (cells := cells) (slots := slots) (g := F0 m pc ls (As.reverse ++ .ref ad.1 :: st)) (e := e) (below := below) (meth := meth) (b := ad.1) (H := H) S hM ⟨cb, S.2.2.2.2 _ hI.1, S.2.2.2.2 _ hI.2⟩ ⟨XX_blind, hrecv, fun U hU hW => ⟨rfl, hXX.go hA hU hW⟩⟩ rfl hn hls rfl (by show 2 * 0 + _ ≤ 8; omega) hd ⟨hf.1, hf.2⟩
  exact wj_call hr kk
end JW
/-- a frame of such a method -/
def FrJ (l : Launch) (b : Nat) (ad : Nat × Nat) (cc : ByteArray) (own : String) (nL h : Nat) (v : Option Value) (p : Program) (e : Env) (R : Room) (s : State) (m : MethodId) (args : Array Value) (below : List Frame) (meth : Method) (c : Code) (Q : State → Prop) : Prop :=
  CallFix p m c cc nL s args gtb own ∧ h ≤ R.frames ∧ 48 * h ≤ R.locals ∧ XX b ad s ∧
  (∀ (pc : Nat) (ls : Array Slot) (x : Int32), v = some (.int x) → decode cc pc = .ok (.ireturn, 1) → W p l e R s m args below meth c s.heap [] 0 0 Q (F0 m pc ls [.int x])) ∧
  (∀ (pc : Nat) (ls : Array Slot), v = none → decode cc pc = .ok (.return_, 1) → W p l e R s m args below meth c s.heap [] 0 0 Q (F0 m pc ls []))
theorem MtJ_of {l : Launch} {y : MethodName} {cc : ByteArray} {nL h : Nat} {ret : Option FieldType} {vs : Nat × Nat → List Value} {v : Option Value} {own : String} (hy : plainName y.cls = true) (hyc : y.cls = own) (hlen : ∀ ad, (lg_sl (vs ad)).length ≤ nL) (hn : ∀ x, v = some (.int x) → ∃ ty, ret = some ty ∧ narrow ty (.int x) = .int x) (hv0 : v = none → ret = none)
    (body : ∀ (b : Nat) (ad : Nat × Nat) (p : Program) (e : Env) (R : Room) (s : State) (m : MethodId) (args : Array Value) (below : List Frame) (meth : Method) (c : Code) (Q : State → Prop) (ls : Array Slot), FrJ l b ad cc own nL h v p e R s m args below meth c Q → lv_has ls nL (lv_args 0 (vs ad)) → W p l e R s m args below meth c s.heap [] 0 0 Q (F0 m 0 ls [])) : MtJ l y cc nL ret h vs v := by
  intro b ad
  refine Met.ofW (cc := cc) (maxL := nL) (ret := ret) hy rfl ?_
  intro p e s m args below meth c s₁ B hml hv
  obtain ⟨rfl, hXX⟩ := hv
  have hx := B.exec
  have hb := B.bytes
  have hr := B.returns
  have hts0 := atoms_spec (ws := Cond.code y cc nL ret :: gtb) B.pre
  have hts : ∀ w ∈ gtb, w.before (vs ad).toArray s = true := fun w hw => hts0 w (List.mem_cons_of_mem _ hw)
  have hown : s.vm.findClass own = some m.cls := hyc ▸ findClass_of_methodNamed B.named
  have hlocks := B.notSynchronized
  have hl := lv_entry (vs ad) (n := nL) (hlen ad)
  rw [lg_entry_eq]
  generalize (lg_sl (vs ad) ++ List.replicate (nL - (lg_sl (vs ad)).length) Slot.unset).toArray = ls at hl ⊢
  refine body b ad p e _ s m _ below meth c _ ls ⟨⟨hx, hb, hml, hown, hts⟩, Nat.le_refl _, Nat.le_refl _, hXX, fun pc ls' x hvx hd => ?_, fun pc ls' hvx hd => ?_⟩ hl
  · obtain ⟨ty, h1, h2⟩ := hn x hvx
    exact W.zret (v := x) (ty := ty) hx hb (hr.trans h1) h2 (fun t ht hW => ⟨by rw [hvx], ht⟩) (fun q hq => by cases hq) hd
  · exact W.vret hx hb (hr.trans (hv0 hvx)) (fun t ht hW => ⟨by rw [hvx], ht⟩) (fun q hq => by cases hq) hd
section JM
variable {l : Launch}
theorem mj_coder : MtJ l yJ0_coder_7d493 cJ0_coder_7d493 1 (some .byte) 0 (fun ad => [.ref ad.1]) (some (.int 0)) := by
  refine MtJ_of (own := RJ0) (by decide +kernel) rfl (fun ad => Nat.le_of_ble_eq_true rfl) (fun x hx => ⟨.byte, rfl, by cases hx; decide +kernel⟩) (fun h => by cases h) ?_
  intro b ad p e R s m args below meth c Q ls hF hl
  obtain ⟨S, hfr, hlo, hXX, r1, r2⟩ := hF
  obtain ⟨hx, hb, hml, hown, hts⟩ := S
  obtain ⟨-, hS, -, hZ, -⟩ := hXX
  refine va_gets (pc := 0) hx hb hZ va_S.rf hown (hts _ wj_f38) (fun x h => h) dJ0_coder_7d493_0 ?_
  refine lv_if_eq (pc := 3) hx hb dJ0_coder_7d493_3 (tgt := 13) (by decide) (fun q => absurd q (by decide)) (fun _ => ?_)
  refine lv_aload_n (pc := 6) hx hb dJ0_coder_7d493_6 rfl (lv_at hl 0 rfl) ?_
  refine vk_getf (pc := 7) hx hb (hS.1 0 (by decide)).2.1 va_S.rf hown (hts _ wj_f15) (fun x h => h) dJ0_coder_7d493_7 ?_
  refine lv_goto (pc := 10) hx hb dJ0_coder_7d493_10 (tgt := 14) (by decide) ?_
  exact r1 14 ls 0 rfl dJ0_coder_7d493_14
theorem mj_latin : MtJ l yJ0_isLatin1_aae02 cJ0_isLatin1_aae02 1 (some .boolean) 0 (fun ad => [.ref ad.1]) (some (.int 1)) := by
  refine MtJ_of (own := RJ0) (by decide +kernel) rfl (fun ad => Nat.le_of_ble_eq_true rfl) (fun x hx => ⟨.boolean, rfl, by cases hx; decide +kernel⟩) (fun h => by cases h) ?_
  intro b ad p e R s m args below meth c Q ls hF hl
  obtain ⟨S, hfr, hlo, hXX, r1, r2⟩ := hF
  obtain ⟨hx, hb, hml, hown, hts⟩ := S
  obtain ⟨-, hS, -, hZ, -⟩ := hXX
  refine va_gets (pc := 0) hx hb hZ va_S.rf hown (hts _ wj_f38) (fun x h => h) dJ0_isLatin1_aae02_0 ?_
  refine lv_if_eq (pc := 3) hx hb dJ0_isLatin1_aae02_3 (tgt := 17) (by decide) (fun q => absurd q (by decide)) (fun _ => ?_)
  refine lv_aload_n (pc := 6) hx hb dJ0_isLatin1_aae02_6 rfl (lv_at hl 0 rfl) ?_
  refine vk_getf (pc := 7) hx hb (hS.1 0 (by decide)).2.1 va_S.rf hown (hts _ wj_f15) (fun x h => h) dJ0_isLatin1_aae02_7 ?_
  refine lv_if_ne (pc := 10) hx hb dJ0_isLatin1_aae02_10 (tgt := 17) (by decide) (fun q => absurd rfl q) (fun _ => ?_)
  refine lv_iconst (pc := 13) (v := 1) hx hb dJ0_isLatin1_aae02_13 (by decide +kernel) ?_
  refine lv_goto (pc := 14) hx hb dJ0_isLatin1_aae02_14 (tgt := 18) (by decide) ?_
  exact r1 18 ls 1 rfl dJ0_isLatin1_aae02_18
theorem mj_length : MtJ l yJ0_length_8abf5 cJ0_length_8abf5 1 (some .int) 1 (fun ad => [.ref ad.1]) (some (vI 153)) := by
  refine MtJ_of (own := RJ0) (by decide +kernel) rfl (fun ad => Nat.le_of_ble_eq_true rfl) (fun x hx => ⟨.int, rfl, by cases hx; decide +kernel⟩) (fun h => by cases h) ?_
  intro b ad p e R s m args below meth c Q ls hF hl
  obtain ⟨S, hfr, hlo, hXX, r1, r2⟩ := hF
  obtain ⟨hx, hb, hml, hown, hts⟩ := S
  have hS := hXX.2.1
  refine lv_aload_n (pc := 0) hx hb dJ0_length_8abf5_0 rfl (lv_at hl 0 rfl) ?_
  refine vk_getf (pc := 1) hx hb (hS.1 0 (by decide)).2.2.1 va_S.rf hown (hts _ wj_f9) (fun x h => h) dJ0_length_8abf5_1 ?_
  refine va_tlen (pc := 4) (v := Int32.ofInt 153) hx hb (hS.1 0 (by decide)).2.2.2 va_S.rf (by decide +kernel) dJ0_length_8abf5_4 ?_
  refine lv_aload_n (pc := 5) hx hb dJ0_length_8abf5_5 rfl (lv_at hl 0 rfl) ?_
  refine wj_V (pc := 6) (As := []) (st := [.int (Int32.ofInt 153)]) ⟨hx, hb, hml, hown, hts⟩ hfr hlo hXX va_S.rf ⟨Nat.zero_le _, Nat.zero_le _⟩ mj_coder yw_J0_coder_7d493 yi_J0_coder_7d493 rfl wj_l335 (by omega) rfl rfl hl.1 (by decide) dJ0_length_8abf5_6 rfl ?_
  refine lv_ishr (pc := 9) (x := Int32.ofInt 153) (y := 0) hx hb dJ0_length_8abf5_9 ?_
  exact r1 10 ls _ (congrArg (fun z => some (Value.int z)) (by decide +kernel)) dJ0_length_8abf5_10
theorem mj_pre {k : Nat} (hk : k < 153) {w : Value} (hw : w = .null ∨ ∃ t, w = .ref t) : MtJ l yJ3_checkIndex_8e157 cJ3_checkIndex_8e157 3 (some .int) 0 (fun _ => [vI k, vI 153, w]) (some (vI k)) := by
  have ik : inI k := by unfold inI; omega
  have i153 : inI 153 := by unfold inI; omega
  refine MtJ_of (own := RJ3) (by decide +kernel) rfl (fun ad => by rcases hw with rfl | ⟨t, rfl⟩ <;> exact Nat.le_of_ble_eq_true rfl) (fun x hx => ⟨.int, rfl, rfl⟩) (fun h => by cases h) ?_
  intro b ad p e R s m args below meth c Q ls hF hl
  obtain ⟨S, hfr, hlo, hXX, r1, r2⟩ := hF
  obtain ⟨hx, hb, hml, hown, hts⟩ := S
  refine lv_iload_n (pc := 0) (x := Int32.ofInt k) hx hb dJ3_checkIndex_8e157_0 rfl (lv_at hl 0 rfl) ?_
  refine lv_if_lt (pc := 1) hx hb dJ3_checkIndex_8e157_1 (tgt := 9) (by decide) (fun q => absurd q (by rw [ofI_0, ofI_lt ik inI_0]; omega)) (fun _ => ?_)
  refine lv_iload_n (pc := 4) (x := Int32.ofInt k) hx hb dJ3_checkIndex_8e157_4 rfl (lv_at hl 0 rfl) ?_
  refine lv_iload_n (pc := 5) (x := Int32.ofInt 153) hx hb dJ3_checkIndex_8e157_5 rfl (lv_at hl 1 rfl) ?_
  refine lv_icmp_lt (pc := 6) hx hb dJ3_checkIndex_8e157_6 (tgt := 16) (by decide) (fun _ => ?_) (fun q => absurd ((ofI_lt ik i153).mpr (by omega)) q)
  refine lv_iload_n (pc := 16) (x := Int32.ofInt k) hx hb dJ3_checkIndex_8e157_16 rfl (lv_at hl 0 rfl) ?_
  exact r1 17 ls _ rfl dJ3_checkIndex_8e157_17
theorem mj_check {k : Nat} (hk : k < 153) : MtJ l yJ0_checkIndex_df160 cJ0_checkIndex_df160 2 none 1 (fun _ => [vI k, vI 153]) none := by
  refine MtJ_of (own := RJ0) (by decide +kernel) rfl (fun ad => Nat.le_of_ble_eq_true rfl) (fun x hx => by cases hx) (fun h => rfl) ?_
  intro b ad p e R s m args below meth c Q ls hF hl
  obtain ⟨S, hfr, hlo, hXX, r1, r2⟩ := hF
  obtain ⟨hx, hb, hml, hown, hts⟩ := S
  refine lv_iload_n (pc := 0) (x := Int32.ofInt k) hx hb dJ0_checkIndex_df160_0 rfl (lv_at hl 0 rfl) ?_
  refine lv_iload_n (pc := 1) (x := Int32.ofInt 153) hx hb dJ0_checkIndex_df160_1 rfl (lv_at hl 1 rfl) ?_
  have go : ∀ w : Value, (w = .null ∨ ∃ t, w = .ref t) → W p l e R s m args below meth c s.heap [] 0 0 Q (F0 m 5 ls (w :: .int (Int32.ofInt 153) :: [.int (Int32.ofInt k)])) := fun w hw => by
    refine wj_S (pc := 5) (As := [vI k, vI 153, w]) (st := []) ⟨hx, hb, hml, hown, hts⟩ hfr hlo hXX va_S.rf ⟨Nat.zero_le _, Nat.zero_le _⟩ (mj_pre hk hw) yw_J3_checkIndex_8e157 yi_J3_checkIndex_8e157 wj_l1059 (by omega) rfl rfl hl.1 (by decide) dJ0_checkIndex_df160_5 rfl ?_
    refine lv_pop (pc := 8) (va := vI k) hx hb dJ0_checkIndex_df160_8 rfl ?_
    exact r2 9 ls rfl dJ0_checkIndex_df160_9
  rcases hXX.2.2.2.2 with hZ | ⟨t, hZ⟩
  · exact va_gets (pc := 2) hx hb hZ va_S.rf hown (hts _ wj_f1053) (fun x h => h) dJ0_checkIndex_df160_2 (go _ (Or.inl rfl))
  · exact va_gets (pc := 2) hx hb hZ va_S.rf hown (hts _ wj_f1053) (fun x h => h) dJ0_checkIndex_df160_2 (go _ (Or.inr ⟨t, rfl⟩))
def chI (k : Nat) : Int := ([112, 97, 114, 107, 32, 98, 121, 32, 102, 97, 100, 101, 32, 114, 101, 115, 116, 32, 111, 100, 100, 115, 32, 112, 111, 110, 100, 32, 116, 117, 110, 101, 32, 108, 111, 117, 100, 32, 116, 111, 108, 108, 32, 98, 101, 97, 116, 115, 32, 98, 97, 110, 100, 32, 97, 116, 32, 115, 116, 114, 101, 110, 103, 116, 104, 32, 108, 105, 112, 115, 32, 112, 108, 97, 121, 115, 32, 104, 117, 115, 104, 32, 104, 111, 117, 114, 32, 119, 105, 110, 100, 32, 99, 97, 108, 109, 32, 114, 97, 105, 110, 32, 100, 114, 121, 32, 115, 101, 116, 32, 97, 110, 121, 32, 119, 104, 101, 110, 32, 104, 111, 108, 100, 115, 32, 116, 105, 114, 101, 100, 32, 114, 97, 105, 110, 105, 110, 103, 32, 108, 111, 111, 112, 32, 101, 110, 100, 32, 115, 116, 111, 112, 32] : List Int).getD k 0
set_option maxRecDepth 20000 in
theorem chI_ok : ∀ k, k < 153 → (bytK.getD 0 []).getD k 0 = Int32.ofInt (chI k) ∧ (((Int32.ofInt (chI k)) &&& (Int32.ofInt 255)).toUInt32 % 65536).toInt32 = Int32.ofInt (chI k) ∧ narrow .char (.int (Int32.ofInt (chI k))) = .int (Int32.ofInt (chI k)) ∧ (chI k = 32 ∨ (97 ≤ chI k ∧ chI k ≤ 122)) := by decide +kernel
theorem mj_latAt {k : Nat} (hk : k < 153) : MtJ l yJ1_charAt_3b067 cJ1_charAt_3b067 2 (some .char) 2 (fun ad => [.ref ad.2, vI k]) (some (vI (chI k))) := by
  have ik : inI k := by unfold inI; omega
  have ch := chI_ok k hk
  refine MtJ_of (own := RJ1) (by decide +kernel) rfl (fun ad => Nat.le_of_ble_eq_true rfl) (fun x hx => ⟨.char, rfl, by cases hx; exact ch.2.2.1⟩) (fun h => by cases h) ?_
  intro b ad p e R s m args below meth c Q ls hF hl
  obtain ⟨S, hfr, hlo, hXX, r1, r2⟩ := hF
  obtain ⟨hx, hb, hml, hown, hts⟩ := S
  have hS := hXX.2.1
  refine lv_iload_n (pc := 0) (x := Int32.ofInt k) hx hb dJ1_charAt_3b067_0 rfl (lv_at hl 1 rfl) ?_
  refine lv_aload_n (pc := 1) (x := ad.2) hx hb dJ1_charAt_3b067_1 rfl (lv_at hl 0 rfl) ?_
  refine va_tlen (pc := 2) (v := Int32.ofInt 153) hx hb (hS.1 0 (by decide)).2.2.2 va_S.rf (by decide +kernel) dJ1_charAt_3b067_2 ?_
  refine wj_S (pc := 3) (As := [vI k, vI 153]) (st := []) ⟨hx, hb, hml, hown, hts⟩ hfr hlo hXX va_S.rf ⟨Nat.zero_le _, Nat.zero_le _⟩ (mj_check hk) yw_J0_checkIndex_df160 yi_J0_checkIndex_df160 wj_l9 (by omega) rfl rfl hl.1 (by decide) dJ1_charAt_3b067_3 rfl ?_
  refine lv_aload_n (pc := 6) (x := ad.2) hx hb dJ1_charAt_3b067_6 rfl (lv_at hl 0 rfl) ?_
  refine lv_iload_n (pc := 7) (x := Int32.ofInt k) hx hb dJ1_charAt_3b067_7 rfl (lv_at hl 1 rfl) ?_
  refine va_tb (pc := 8) (v := .int (Int32.ofInt (chI k))) hx hb (hS.1 0 (by decide)).2.2.2 va_S.rf (ofI_vin ik (by omega) (by show (k : Int) < (153 : Nat); omega)) (by rw [ofI_cl ik, Int.toNat_natCast]; exact congrArg Value.int ch.1) dJ1_charAt_3b067_8 ?_
  refine lv_sipush (pc := 9) (v := Int32.ofInt 255) hx hb dJ1_charAt_3b067_9 (by decide +kernel) ?_
  refine lv_iand (pc := 12) hx hb dJ1_charAt_3b067_12 ?_
  refine lv_i2c (pc := 13) hx hb dJ1_charAt_3b067_13 ch.2.1 ?_
  exact r1 14 ls _ rfl dJ1_charAt_3b067_14
theorem mj_charAt {k : Nat} (hk : k < 153) : MtJ l yJ0_charAt_5068e cJ0_charAt_5068e 2 (some .char) 3 (fun ad => [.ref ad.1, vI k]) (some (vI (chI k))) := by
  have ch := chI_ok k hk
  refine MtJ_of (own := RJ0) (by decide +kernel) rfl (fun ad => Nat.le_of_ble_eq_true rfl) (fun x hx => ⟨.char, rfl, by cases hx; exact ch.2.2.1⟩) (fun h => by cases h) ?_
  intro b ad p e R s m args below meth c Q ls hF hl
  obtain ⟨S, hfr, hlo, hXX, r1, r2⟩ := hF
  obtain ⟨hx, hb, hml, hown, hts⟩ := S
  have hS := hXX.2.1
  refine lv_aload_n (pc := 0) (x := ad.1) hx hb dJ0_charAt_5068e_0 rfl (lv_at hl 0 rfl) ?_
  refine wj_V (pc := 1) (As := []) (st := []) ⟨hx, hb, hml, hown, hts⟩ hfr hlo hXX va_S.rf ⟨Nat.zero_le _, Nat.zero_le _⟩ mj_latin yw_J0_isLatin1_aae02 yi_J0_isLatin1_aae02 rfl wj_l492 (by omega) rfl rfl hl.1 (by decide) dJ0_charAt_5068e_1 rfl ?_
  refine lv_if_eq (pc := 4) (x := 1) hx hb dJ0_charAt_5068e_4 (tgt := 16) (by decide) (fun q => absurd q (by decide)) (fun _ => ?_)
  refine lv_aload_n (pc := 7) (x := ad.1) hx hb dJ0_charAt_5068e_7 rfl (lv_at hl 0 rfl) ?_
  refine vk_getf (pc := 8) hx hb (hS.1 0 (by decide)).2.2.1 va_S.rf hown (hts _ wj_f9) (fun x h => h) dJ0_charAt_5068e_8 ?_
  refine lv_iload_n (pc := 11) (x := Int32.ofInt k) hx hb dJ0_charAt_5068e_11 rfl (lv_at hl 1 rfl) ?_
  refine wj_S (pc := 12) (As := [.ref ad.2, vI k]) (st := []) ⟨hx, hb, hml, hown, hts⟩ hfr hlo hXX va_S.rf ⟨Nat.zero_le _, Nat.zero_le _⟩ (mj_latAt hk) yw_J1_charAt_3b067 yi_J1_charAt_3b067 wj_l495 (by omega) rfl rfl hl.1 (by decide) dJ0_charAt_5068e_12 rfl ?_
  exact r1 15 ls _ rfl dJ0_charAt_5068e_15
end JM
