/-! the law: its first 16 bytes, and its loop by lc_all -/
theorem cl_Law_7 : Cond.classLink RL 7 RX11 ∈ gtb := (gq_1 21 (by decide +kernel) rfl)
theorem cl_Law_10 : Cond.classLink RL 10 RX12 ∈ gtb := (gq_7 6 (by decide +kernel) rfl)
theorem il_Law_9 : Cond.methodLink RL 9 yX11_init ∈ gtb := (gq_1 23 (by decide +kernel) rfl)
theorem il_Law_12 : Cond.methodLink RL 12 yX12_init ∈ gtb := (gq_7 8 (by decide +kernel) rfl)
theorem mzS_out {σ : SS} {N m a : Nat} (h : a < N ∨ N + m < a) : mzS σ N m a = σ a := if_neg (by omega)
theorem mzP_out {ρ : PP} {N m a : Nat} (h : a < N ∨ N + m < a) : mzP ρ N m a = ρ a := by
  unfold mzP
  rw [if_neg (by omega), if_neg (by omega)]
set_option maxRecDepth 20000 in
set_option maxHeartbeats 4000000 in
theorem gs_239 (σ : SS) : GS_BandPark σ 239 = σ 239 := by
  simp (disch := omega) only [GS_BandPark, GS_Park, GS_Tray, GS_Search, GS_Stage, GS_EveningsReader, GS_ParkReader, GS_Tape, GS_Tape0, GS_Sound, GS_Band, GS_Tune, GS_Evenings, ups_ne, upA_ne, mzS_out]
set_option maxRecDepth 20000 in
set_option maxHeartbeats 4000000 in
theorem gp_239 (ρ : PP) : GP_BandPark ρ 239 = ρ 239 := by
  simp (disch := omega) only [GP_BandPark, GP_Park, GP_Tray, GP_Search, GP_Stage, GP_EveningsReader, GP_ParkReader, GP_Tape, GP_Sound, GP_Band, GP_Tune, GP_Evenings, upr_ne, upP_ne, mzP_out]
theorem upA_0 : upA (fun _ _ => 0) 0 (fun _ => 0) = (fun _ _ => 0 : SS) := by
  funext a
  show (if a = 0 then (fun _ => 0) else (fun _ => 0) : Nat → Int) = _
  split <;> rfl
theorem upP_0 : upP (fun _ _ => none) 0 (fun _ => none) = (fun _ _ => none : PP) := by
  funext a
  show (if a = 0 then (fun _ => none) else (fun _ => none) : Nat → Option Nat) = _
  split <;> rfl
theorem upA_239 : upA (GS_BandPark (fun _ _ => 0)) 239 (fun _ => 0) = GS_BandPark (fun _ _ => 0) := by
  funext a
  by_cases h : a = 239
  · rw [h, gs_239]
    exact if_pos rfl
  · exact if_neg h
theorem upP_239 : upP (GP_BandPark (fun _ _ => none)) 239 (fun _ => none) = GP_BandPark (fun _ _ => none) := by
  funext a
  by_cases h : a = 239
  · rw [h, gp_239]
    exact if_pos rfl
  · exact if_neg h
theorem okS_0 : okS (fun _ _ => 0) := by
  intro a k
  show rng (kd a k) 0
  unfold rng
  split
  · unfold inL; omega
  · trivial
  · trivial
  · exact inI_0
theorem vI_1 : vI 1 = Value.int 1 := by
  unfold vI
  rw [show Int32.ofInt 1 = 1 from by decide +kernel]
theorem j_astore_n {l : Launch} {b : Nat} {V : V2} {cc : ByteArray} {own : String} {nL h N0 N1 pc : Nat} {Γ : GG} {L : List Int} {R : List Nat} {σ : SS} {ρ : PP} {N : Nat} {st : List Value} (C : Ctx2 l b V cc own nL h N0 N1) {j : Fin 4} {i : Nat} {x : Nat} (hd : decode cc pc = .ok (.astore_n j, 1)) (hj : (j : Nat) = i) (hi : i < nL) (k : V (pc + 1) (stR i Γ) ((L, R.set i x, σ, ρ, N) : Z2) st) : V pc Γ ((L, R, σ, ρ, N) : Z2) (.ref (b + x) :: st) := by
  obtain ⟨p, e, Rm, s, m, args, below, meth, c, Q, D, tc, rfl, hx, hb, hml, hown, hts, hK, hE, hfr, hlo, hce, hsl, hbs⟩ := C
  intro okσ okl hN ls H locs hl hH hA
  have hlen : i < R.length := by
    have := okl.2.1
    simp only at this
    omega
  have hne : ∀ j, j ≠ i → (((L, R.set i x, σ) : ZZ).1.getD j 0 = ((L, R, σ) : ZZ).1.getD j 0) ∧ (((L, R.set i x, σ) : ZZ).2.1.getD j 0 = ((L, R, σ) : ZZ).2.1.getD j 0) := fun j hj => by
    constructor <;> first | rfl | exact getD_set_ne hj
  refine lv_astore_n hx hb hd hj hl hi rfl (fun ls' hl' => ?_)
  refine k okσ (okL_st (k := i) (kn := 2) okl (by simp only [List.length_set]; exact okl.1) (by simp only [List.length_set]; exact okl.2.1) trivial (fun j hj => (hne j hj).1) stR_mem) hN ls' H locs (lv_has_le hl' (lvG_st1 ?_ hne)) hH hA
  show vK b 2 _ _ = _
  rw [getD_set_self hlen]; rfl
set_option maxRecDepth 20000 in
set_option maxHeartbeats 4000000 in
theorem law_head {l : Launch} {b : Nat} {V : V2} {bS : Nat} (C : Ctx2 l b V cL_law RL 4 1000 0 254) (X : V 12 [(0, 5), (1, 2)] (([0, 0, 0, 0], [bS, 0, 0, 0], GS_BandPark (fun _ _ => 0), rh0, 240) : Z2) [.ref (b + 239), .ref (b + 239)]) : V 0 [(0, 5)] (([0, 0, 0, 0], [bS, 0, 0, 0], (fun _ _ => 0), (fun _ _ => none), 0) : Z2) [] := by
  refine j_new (pc := 0) (N := 0) C ci_BandPark cl_Law_7 (by rw [sh_0]) (by rw [sh_0]) (by omega) dL_law_0 ?_
  rw [upA_0, upP_0]
  refine j_dup (pc := 3) C dL_law_3 rfl ?_
  refine j_callI (pc := 4) (a := 0) (N := 1) (N' := 239) (As := []) (st := [.ref (b + 0)]) C (mc_BandPark _ _) yc_BandPark rfl ym_BandPark (Or.inl il_Law_9) (by omega) rfl rfl (by omega) (by omega) (by simp only [dep_i, dep_r]; decide) dL_law_4 ?_
  refine j_astore_n (pc := 7) (i := 1) (x := 0) C dL_law_7 rfl (by decide) ?_
  refine j_sub (Γ2 := [(0, 5), (1, 2)]) C (by decide) ?_
  refine j_new (pc := 8) (N := 239) C ci_BandParkModel cl_Law_10 (by rw [sh_239]) (by rw [sh_239]) (by omega) dL_law_8 ?_
  rw [upA_239, upP_239]
  refine j_dup (pc := 11) C dL_law_11 rfl ?_
  exact X
theorem w_callM {p : Program} {l : Launch} {e : Env} {Rm : Room} {s : State} {m : MethodId} {args : Array Value} {below : List Frame} {meth : Method} {c : Code} {Q : State → Prop} {D : va_G} {tc : Nat → ClassId} {b : Nat} {ad : Nat × Nat} {cc : ByteArray} {own : String} {nL h N0 N N' a index pc nLy hy : Nat} {y : MethodName} {cy : ByteArray} {vs : Nat → List Value} {σ σ' : SS} {ρ : PP} {ls : Array Slot} {lv : List (Nat × Value)} {H : Heap} {locs : List Loc} {st : List Value}
    (hx : p.tables.exec = Jvm.exec) (hb : c.code = cc) (hml : c.maxLocals = nL) (hown : s.vm.findClass own = some m.cls) (hts : ∀ w ∈ gtb, w.before args s = true) (hK : va_K D vwCl (tysL tc) s) (hE : Ext tc s) (hXX : XX b ad s) (hfr : h ≤ Rm.frames) (hlo : 48 * h ≤ Rm.locals) (hce : N' - N0 ≤ Rm.cells) (hsl : szN N' - szN N0 ≤ Rm.slots)
    (hM : Mt3 l y cy nLy hy N N' vs σ ρ σ') (hY : YW y cy nLy none 0) (hyi : y.name = "<init>") (hI : Cond.instanceMethod y ∈ gtb) (hl1 : Cond.methodLink own index y ∈ gtb) (hh : hy + 1 ≤ h) (hvs : vs b = [.ref (b + a)]) (hN : N0 ≤ N) (hNN : N ≤ N') (hst : dep st ≤ 8) (hd : decode cc pc = .ok (.invokespecial index, 3))
    (okσ : okS σ) (hl : lv_has ls nL lv) (hH : Hp2 D tc b σ ρ N H) (hA : va_S (BB b) s.heap H locs)
    (kk : ∀ (H' : Heap) (locs' : List Loc), okS σ' → Hp D tc b σ' H' → va_S (BB b) s.heap H' locs' → W p l e Rm s m args below meth c H' locs' (N' - N0) (szN N' - szN N0) Q (F0 m (pc + 3) ls st)) :
    W p l e Rm s m args below meth c H locs (N - N0) (szN N - szN N0) Q (F0 m pc ls (.ref (b + a) :: st)) := by
  have hst : (st.map fun v => v.category).sum ≤ 8 := hst
  have m1 := szN_mono hN
  have m2 := szN_mono hNN
  have hM := hM D tc b ad
  rw [hvs] at hM
  have hpre : PreS s H (va_Pc [.ref (b + a)] (Mp2 D tc b ad σ ρ N)) [.ref (b + a)] := ⟨Mp2_blind, fun U hU hW => ⟨rfl, okσ, va_K.moved hW.alike hK, hE.moved hW.alike, hXX.go hA hU hW, by rw [hU]; exact hH⟩⟩
  have cbb : CallB Rm s args own index y cy nLy none (Cond.code y cy nLy none :: gtb) (rm2 hy N N') (N' - N) (szN N' - szN N) 0 :=
    callB_of 0 hts (gtb_in hY.1) rfl rfl rfl (hts _ hY.2.1) (hts _ hl1) hY.2.2.1 ⟨by show hy + 1 ≤ _; omega, by have := hY.2.2.2; show 8 + (nLy + 11) + 48 * hy ≤ _; omega⟩
  have hr : va_Run p l e Rm s m args below meth c H locs (N - N0) (szN N - szN N0) (N' - N) (szN N' - szN N) (F0 m pc ls (.ref (b + a) :: st)) st ((fun _ s0 o t => o = .returned none ∧ (okS σ' ∧ Hp D tc b σ' t.heap) ∧ va_F (BB b) s0 t : Array Value → State → Outcome → State → Prop) [Value.ref (b + a)].toArray) (BB b) :=
    va_runI (As := []) (rest := st) ⟨hx, hb, hml, hown, hts⟩ hM ⟨cbb, hyi, hts _ hI⟩ hpre rfl rfl hl.1 rfl (by show 2 * 0 + _ ≤ 8; omega) hd ⟨by omega, by omega⟩
  intro T hT X
  obtain ⟨v, st₀, t, T', Lc, h0, X', hLc, e1, e2, ⟨hv, ⟨okσ', hH'⟩, hz, hk⟩, stp⟩ := hr T hT X
  cases hv
  rw [h0] at hz hk
  have hA' : va_S (BB b) s.heap T'.heap (locs ++ Lc) := ⟨Nat.le_trans hA.1 (by rw [e1]; exact hz), fun q h1 h2 => by rw [e1, hk q (Nat.lt_of_lt_of_le h1 hA.1) h2]; exact hA.2.1 q h1 h2, fun q hq => by
      rcases List.mem_append.mp hq with h | h
      · exact hA.2.2 q h
      · exact hLc q h⟩
  have c1 : N - N0 + (N' - N) = N' - N0 := by omega
  have c2 : szN N - szN N0 + (szN N' - szN N) = szN N' - szN N0 := by omega
  rw [c1, c2] at X'
  obtain ⟨t2, a1, b1⟩ := kk T'.heap (locs ++ Lc) okσ' (by rw [e1]; exact hH') hA' T' rfl X'
  exact ⟨t2, stp t2 a1, b1⟩
/-- the law's frame behind both constructors -/
theorem law_ctx {p : Program} {l : Launch} {e : Env} {s : State} {m : MethodId} {below : List Frame} {meth : Method} {c : Code} {Q : State → Prop} {D : va_G} {tc : Nat → ClassId} {bS L cells slots : Nat} {xs : Nat → Int32} (hx : p.tables.exec = Jvm.exec) (hb : c.code = cL_law) (hml : c.maxLocals = 4) (hown : s.vm.findClass RL = some m.cls) (hg : ∀ w ∈ gtb, w.before #[Value.ref bS] s = true) (hK : va_K D vwCl (tysL tc) s) (hN : NW s) (hX : va_X bS L xs s s.heap) (hbl : bS < s.heap.size) (hL : L ≤ 3072) (hc : cells ≤ 600000) (hs : slots ≤ 7302250) :
    LCtx l s.heap.size (At p l e room_1 s m #[Value.ref bS] below meth c cells slots Q 4 D tc s.heap.size) 1000 bS L (fun j => (xs j).toInt) := by
  have hbA : ¬ AA s.heap.size bS := fun ⟨a, q, _⟩ => by omega
  refine ⟨⟨p, e, room_1, s, m, _, below, meth, c, cells, slots, Q, D, tc, rfl, hx, hb, hml, hown, hg, hK, ⟨Nat.le_of_ble_eq_true rfl, hN⟩, Nat.le_of_ble_eq_true rfl, hc, hs⟩, ?_, ?_, ?_, fun j => inI_toInt _, by unfold inI; omega⟩
  · intro pc Γ z st g hg0 h0 hd k okσ okl ls H locs hl hH hA
    have q : (lvG s.heap.size Γ z)[g]? = some (0, Value.ref bS) := by
      rw [lvG_at hg0]
      show some (0, Value.ref (z.2.1.getD 0 0)) = _
      rw [h0]
    exact lv_aload_n hx hb hd rfl (lv_at hl g q) (k okσ okl ls H locs hl hH hA)
  · intro pc Γ z st j hj h0 h1 hd k okσ okl ls H locs hl hH hA
    have k1 := k okσ okl ls H locs hl hH hA
    have e1 : vI ((xs j.toNat).toInt) = Value.int (xs (Int32.ofInt j).toNatClampNeg) := by
      rw [ofI_cl hj]
      unfold vI
      rw [Int32.ofInt_toInt]
    exact va_sld hx hb hX hbl hbA hA (ofI_vin hj h0 h1) hd (by rw [← e1]; exact k1)
  · intro pc Γ z st hd k okσ okl ls H locs hl hH hA
    have k1 := k okσ okl ls H locs hl hH hA
    have e1 : vI (L : Int) = Value.int (Int32.ofNat L) := congrArg Value.int Int32.ofInt_eq_ofNat
    exact va_slen hx hb hX hbl hbA hA hd (by rw [← e1]; exact k1)
set_option maxHeartbeats 4000000 in
theorem law_gen {p : Program} {e : Env} {s : State} {m : MethodId} {below : List Frame} {meth : Method} {c : Code} (l : Launch) {bS L N N1 : Nat} {xs : Nat → Int32} {σ1 σ' : SS} {ρ1 : PP} (hL : L ≤ 3072) (C0 : lw_At p s m meth c bS L xs)
    (rows : ∀ {b : Nat} {V : V2}, Ctx2 l b V cL_law RL 4 1000 0 N1 → V 12 [(0, 5), (1, 2)] (([0, 0, 0, 0], [bS, 0, 0, 0], σ1, ρ1, N) : Z2) [.ref (b + 239), .ref (b + 239)] → V 0 [(0, 5)] (([0, 0, 0, 0], [bS, 0, 0, 0], (fun _ _ => 0), (fun _ _ => none), 0) : Z2) [])
    (hM : Mt3 l yX12_init cX12_init 2 2 N N1 (fun b => [.ref (b + 239)]) σ1 ρ1 σ') (hNN : N ≤ N1) (hN1 : N1 ≤ 600000) (hS1 : szN N1 ≤ 7302250) (hrel : Rel 0 σ') :
    W p l e room_1 s m #[Value.ref bS] below meth c s.heap [] 0 0 (lw_Z below #[Value.ref bS] s) (entryFrame m ([Value.ref bS] : List Value).toArray 4) := by
  obtain ⟨hx, hb, hr, hml, hown, hts, hX, hbl, hlocks, hgv⟩ := C0
  have hown : s.vm.findClass RL = some m.cls := hown
  have hg : ∀ w ∈ gtb, w.before #[Value.ref bS] s = true := fun w hw => hts w (List.mem_filter.mp hw).1
  obtain ⟨D, tc, hK, hE⟩ := law_K hts
  obtain ⟨ad, hXX⟩ := law_X hts hgv
  have hce : N1 - 0 ≤ room_1.cells := by show N1 - 0 ≤ 600000; omega
  have hsl : szN N1 - szN 0 ≤ room_1.slots := by show szN N1 - szN 0 ≤ 7302250; omega
  have hl := lv_entry ([.ref bS]) (n := 4) (Nat.le_of_ble_eq_true rfl)
  rw [lg_entry_eq]
  generalize (lg_sl ([.ref bS]) ++ List.replicate (4 - (lg_sl ([.ref bS])).length) Slot.unset).toArray = ls at hl ⊢
  have hl0 : lv_has ls 4 (lvG s.heap.size [(0, 5)] (([0, 0, 0, 0], [bS, 0, 0, 0], (fun _ _ => 0)) : ZZ)) := hl
  have K := rows (b := s.heap.size) (V := At2 p l e room_1 s m #[Value.ref bS] below meth c (lw_Z below #[Value.ref bS] s) 4 D tc s.heap.size 0)
    ⟨p, e, room_1, s, m, _, below, meth, c, _, D, tc, rfl, hx, hb, hml, hown, hg, hK, hE, Nat.le_of_ble_eq_true rfl, Nat.le_of_ble_eq_true rfl, hce, hsl, Nat.le_refl _, Or.inr rfl, ad, hXX⟩ (by
      intro okσ okl hN ls1 H locs hl1 hH hA
      refine w_callM (a := 239) (N0 := 0) (N := N) (N' := N1) (h := 1000) (pc := 12) (st := [.ref (s.heap.size + 239)]) hx hb hml hown hg hK hE hXX (Nat.le_of_ble_eq_true rfl) (Nat.le_of_ble_eq_true rfl) hce hsl hM yc_BandParkModel rfl ym_BandParkModel il_Law_12 (by omega) rfl (Nat.zero_le _) hNN (by simp only [dep_i, dep_r]; decide) dL_law_12 okσ hl1 hH hA (fun H' locs' ok' hH' hA' => ?_)
      refine lv_astore_n (pc := 15) (lv' := [(2, .ref (s.heap.size + 239)), (0, .ref bS), (1, .ref (s.heap.size + 0))]) hx hb dL_law_15 rfl hl1 (by decide) rfl (fun ls2 hl2 => ?_)
      refine va_forget (fun q hq => hA'.2.2 q hq) ?_
      have hl3 : lv_has ls2 4 (lvG s.heap.size [(0, 5), (1, 2), (2, 2)] (([0, 0, 0, 0], [bS, 0, 239, 0], σ') : ZZ)) := lv_sub hl2 [1, 2, 0] rfl
      obtain ⟨z', hF⟩ := law_one (L := [0, 0, 0, 0]) (R := [bS, 0, 239, 0]) (bS := bS) (Ls := L) (xs := fun j => (xs j).toInt) (σ := σ') rfl rfl rfl hL (fun j => inI_toInt _) rfl hrel
      have LC := law_ctx (p := p) (l := l) (e := e) (below := below) (meth := meth) (Q := lw_Z below #[Value.ref bS] s) (cells := N1 - 0) (slots := szN N1 - szN 0) hx hb hml hown hg hK hXX.1 hX hbl hL (by omega) (by omega)
      have V16 := lc_all LC (by omega) (fun pc Γ z hd okσ okl ls H locs hl hH hA => va_forget (fun q hq => by obtain ⟨a, w, _⟩ := hA.2.2 q hq; omega) (W.widen (k := 600000) (n := 7302250) (by omega) (by omega) (by rw [vI_1]; exact lw_ret hx hb hr hlocks hd))) hF
      exact V16 ok' ⟨rfl, rfl, List.forall_mem_cons.mpr ⟨trivial, List.forall_mem_cons.mpr ⟨trivial, List.forall_mem_cons.mpr ⟨trivial, List.forall_mem_nil _⟩⟩⟩⟩ ls2 H' [] hl3 hH' ⟨hA'.1, fun q h1 _ => hA'.2.1 q h1 (Nat.not_le.mpr h1), fun _ h => by cases h⟩)
  exact K okS_0 ⟨rfl, rfl, List.forall_mem_cons.mpr ⟨trivial, List.forall_mem_nil _⟩⟩ (Nat.le_refl _) ls s.heap [] hl0 ⟨rfl, fun a e ha => absurd ha (Nat.not_lt_zero _)⟩ va_S.rf
set_option maxRecDepth 20000 in
theorem szN_254 : szN 254 ≤ 7302250 := by decide +kernel
theorem law_all {p : Program} {e : Env} {s : State} {m : MethodId} {below : List Frame} {meth : Method} {c : Code} (l : Launch) {b L : Nat} {xs : Nat → Int32} (hL : L ≤ 3072) (C0 : lw_At p s m meth c b L xs) : W p l e room_1 s m #[Value.ref b] below meth c s.heap [] 0 0 (lw_Z below #[Value.ref b] s) (entryFrame m ([Value.ref b] : List Value).toArray 4) := by
  obtain ⟨r, σ', hF, hQ⟩ := m_empties0 (σ := sg0)
  exact law_gen (N := 240) (N1 := 254) (σ1 := GS_BandPark (fun _ _ => 0)) (ρ1 := rh0) l hL C0 (fun C X => law_head C X) (mc_Model rh_ok hF) (by omega) (by omega) szN_254 (rel0 hQ)
