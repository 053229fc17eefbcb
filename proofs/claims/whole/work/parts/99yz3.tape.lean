/-! Tape(): its loop over the keywords -/
section TPJ
variable {l : Launch} {b : Nat} {V : V2} {cc : ByteArray} {own : String} {nL h N0 N1 pc : Nat} {Γ : GG} {L : List Int} {R : List Nat} {σ : SS} {ρ : PP} {N : Nat} {st : List Value}
theorem j_iadd (C : Ctx2 l b V cc own nL h N0 N1) {x y : Int} (hd : decode cc pc = .ok (.iadd, 1)) (k : V (pc + 1) Γ ((L, R, σ, ρ, N) : Z2) (vI (wI (x + y)) :: st)) : V pc Γ ((L, R, σ, ρ, N) : Z2) (vI y :: vI x :: st) := by
  obtain ⟨p, e, Rm, s, m, args, below, meth, c, Q, D, tc, rfl, hx, hb, hml, hown, hts, hK, hE, hfr, hlo, hce, hsl, hbs, hinm, ad, hXX⟩ := C
  intro okσ okl hN ls H locs hl hH hA
  have k' := k okσ okl hN ls H locs hl hH hA
  rw [vI, ofI_w, Int32.ofInt_add] at k'
  exact lv_iadd hx hb hd k'
theorem j_isub (C : Ctx2 l b V cc own nL h N0 N1) {x y : Int} (hd : decode cc pc = .ok (.isub, 1)) (k : V (pc + 1) Γ ((L, R, σ, ρ, N) : Z2) (vI (wI (x - y)) :: st)) : V pc Γ ((L, R, σ, ρ, N) : Z2) (vI y :: vI x :: st) := by
  obtain ⟨p, e, Rm, s, m, args, below, meth, c, Q, D, tc, rfl, hx, hb, hml, hown, hts, hK, hE, hfr, hlo, hce, hsl, hbs, hinm, ad, hXX⟩ := C
  intro okσ okl hN ls H locs hl hH hA
  have k' := k okσ okl hN ls H locs hl hH hA
  rw [vI, ofI_w, Int32.ofInt_sub] at k'
  exact lv_isub hx hb hd k'
theorem j_ladd (C : Ctx2 l b V cc own nL h N0 N1) {x y : Int} (hd : decode cc pc = .ok (.ladd, 1)) (k : V (pc + 1) Γ ((L, R, σ, ρ, N) : Z2) (vL (wL (x + y)) :: st)) : V pc Γ ((L, R, σ, ρ, N) : Z2) (vL y :: vL x :: st) := by
  obtain ⟨p, e, Rm, s, m, args, below, meth, c, Q, D, tc, rfl, hx, hb, hml, hown, hts, hK, hE, hfr, hlo, hce, hsl, hbs, hinm, ad, hXX⟩ := C
  intro okσ okl hN ls H locs hl hH hA
  have k' := k okσ okl hN ls H locs hl hH hA
  rw [vL, ofL_w, Int64.ofInt_add] at k'
  exact lv_ladd hx hb hd k'
theorem j_lmul (C : Ctx2 l b V cc own nL h N0 N1) {x y : Int} (hd : decode cc pc = .ok (.lmul, 1)) (k : V (pc + 1) Γ ((L, R, σ, ρ, N) : Z2) (vL (wL (x * y)) :: st)) : V pc Γ ((L, R, σ, ρ, N) : Z2) (vL y :: vL x :: st) := by
  obtain ⟨p, e, Rm, s, m, args, below, meth, c, Q, D, tc, rfl, hx, hb, hml, hown, hts, hK, hE, hfr, hlo, hce, hsl, hbs, hinm, ad, hXX⟩ := C
  intro okσ okl hN ls H locs hl hH hA
  have k' := k okσ okl hN ls H locs hl hH hA
  rw [vL, ofL_w, Int64.ofInt_mul] at k'
  exact lv_lmul hx hb hd k'
theorem j_i2l (C : Ctx2 l b V cc own nL h N0 N1) {x : Int} (hxi : inI x) (hd : decode cc pc = .ok (.i2l, 1)) (k : V (pc + 1) Γ ((L, R, σ, ρ, N) : Z2) (vL x :: st)) : V pc Γ ((L, R, σ, ρ, N) : Z2) (vI x :: st) := by
  obtain ⟨p, e, Rm, s, m, args, below, meth, c, Q, D, tc, rfl, hx, hb, hml, hown, hts, hK, hE, hfr, hlo, hce, hsl, hbs, hinm, ad, hXX⟩ := C
  intro okσ okl hN ls H locs hl hH hA
  exact lv_i2l hx hb hd (i2l_of hxi) (k okσ okl hN ls H locs hl hH hA)
theorem j_ldc2 (C : Ctx2 l b V cc own nL h N0 N1) {i : Nat} {n : Int} (hn : Cond.constantLong own i (Int64.ofInt n) ∈ gtb) (hd : decode cc pc = .ok (.ldc2_w i, 3)) (k : V (pc + 3) Γ ((L, R, σ, ρ, N) : Z2) (vL n :: st)) : V pc Γ ((L, R, σ, ρ, N) : Z2) (st) := by
  obtain ⟨p, e, Rm, s, m, args, below, meth, c, Q, D, tc, rfl, hx, hb, hml, hown, hts, hK, hE, hfr, hlo, hce, hsl, hbs, hinm, ad, hXX⟩ := C
  intro okσ okl hN ls H locs hl hH hA
  exact lv_ldc2 hx hb hown (hts _ hn) hd (k okσ okl hN ls H locs hl hH hA)
theorem j_icmp_ne (C : Ctx2 l b V cc own nL h N0 N1) {x y off : Int} {tgt : Nat} (hd : decode cc pc = .ok (.if_icmp .ne off, 3)) (ht : (pc : Int) + off = (tgt : Int)) (hxi : inI x) (hyi : inI y) (kt : ¬ x = y → V tgt Γ ((L, R, σ, ρ, N) : Z2) st) (kf : x = y → V (pc + 3) Γ ((L, R, σ, ρ, N) : Z2) st) : V pc Γ ((L, R, σ, ρ, N) : Z2) (vI y :: vI x :: st) := by
  obtain ⟨p, e, Rm, s, m, args, below, meth, c, Q, D, tc, rfl, hx, hb, hml, hown, hts, hK, hE, hfr, hlo, hce, hsl, hbs, hinm, ad, hXX⟩ := C
  intro okσ okl hN ls H locs hl hH hA
  refine lv_icmp_ne hx hb hd ht (fun q => kt (fun r => q ((ofI_inj hxi hyi).mpr r)) okσ okl hN ls H locs hl hH hA) (fun q => kf ((ofI_inj hxi hyi).mp q) okσ okl hN ls H locs hl hH hA)
theorem cE2_3 {tc : Nat → ClassId} {a : Nat} (h : (sh a).1 = 3) : cE2 tc b σ ρ a = some (.inl (tc 1, (sh a).2.2, .inr (.inl fun j => Int64.ofInt (σ a j)))) := by
  unfold cE2
  rw [if_neg (by rw [h]; decide), if_neg (by rw [h]; decide)]
  exact cE_3 h
theorem cE2_2 {tc : Nat → ClassId} {a : Nat} (h : (sh a).1 = 2) : cE2 tc b σ ρ a = some (.inl (tc 0, (sh a).2.2, .inl fun j => Int32.ofInt (σ a j))) := by
  unfold cE2
  rw [if_neg (by rw [h]; decide), if_neg (by rw [h]; decide)]
  exact cE_2 h
theorem j_lald (C : Ctx2 l b V cc own nL h N0 N1) {a : Nat} {i : Int} (ha : (sh a).1 = 3) (haN : a < N) (hi : inI i) (h0 : 0 ≤ i) (h1 : i < (sh a).2.2) (hd : decode cc pc = .ok (.laload, 1)) (kk : V (pc + 1) Γ ((L, R, σ, ρ, N) : Z2) (vL (σ a i.toNat) :: st)) : V pc Γ ((L, R, σ, ρ, N) : Z2) (vI i :: .ref (b + a) :: st) := by
  obtain ⟨p, e, Rm, s, m, args, below, meth, c, Q, D, tc, rfl, hx, hb, hml, hown, hts, hK, hE, hfr, hlo, hce, hsl, hbs, hinm, ad, hXX⟩ := C
  intro okσ okl hN ls H locs hl hH hA
  have hP := va_P1 (hH.2 a _ haN (cE2_3 ha))
  have k' := kk okσ okl hN ls H locs hl hH hA
  rw [← ofI_cl hi] at k'
  exact va_lald hx hb hK hP 0 1 rfl rfl (ofI_vin hi h0 h1) hd k'
theorem j_last (C : Ctx2 l b V cc own nL h N0 N1) {a : Nat} {i x : Int} (ha : (sh a).1 = 3) (haN : a < N) (hi : inI i) (h0 : 0 ≤ i) (h1 : i < (sh a).2.2) (hxr : inL x) (hd : decode cc pc = .ok (.lastore, 1)) (kk : V (pc + 1) Γ ((L, R, ups σ a i.toNat x, ρ, N) : Z2) st) : V pc Γ ((L, R, σ, ρ, N) : Z2) (vL x :: vI i :: .ref (b + a) :: st) := by
  obtain ⟨p, e, Rm, s, m, args, below, meth, c, Q, D, tc, rfl, hx, hb, hml, hown, hts, hK, hE, hfr, hlo, hce, hsl, hbs, hinm, ad, hXX⟩ := C
  intro okσ okl hN ls H locs hl hH hA
  have hP := hH.2 a _ haN (cE2_3 ha)
  refine W.last hx hb hP ((hK.2 1 _ rfl).1 _ _) (fun q => by cases q) (by show ¬ (Int32.ofInt i < 0 ∨ (arrV _ _ _).slots.size ≤ _); rw [arrV_size]; exact ofI_vin hi h0 h1) rfl rfl hd fun H1 e1 z1 oq => ?_
  refine kk (okS_upd okσ (by unfold kd; rw [ha]; exact hxr)) okl hN ls H1 _ hl (Hp2_upd hH (fun a' ha' => ⟨ups_ne ha', rfl⟩) ?_ z1 oq) (hA.put z1 oq (Nat.le_add_right _ _))
  intro e' he'
  rw [cE2_3 ha] at he'
  cases he'
  show H1[b + a]? = some (vp_cell _ _)
  rw [e1, ofI_cl hi]
  show some ((vp_cell (tc 1) ((sh a).2.2, .inr (.inl fun j => Int64.ofInt (σ a j)))).setSlot _ _) = _
  rw [vp_cell_l, vp_cell_l, arrV_store]
  congr 2
  funext q
  by_cases hq : q = i.toNat
  · subst hq
    simp only [updV, if_pos, ups_same]
    all_goals exact rfl
  · simp [updV, ups_same, hq]
theorem j_iast (C : Ctx2 l b V cc own nL h N0 N1) {a : Nat} {i x : Int} (ha : (sh a).1 = 2) (haN : a < N) (hi : inI i) (h0 : 0 ≤ i) (h1 : i < (sh a).2.2) (hxr : inI x) (hd : decode cc pc = .ok (.iastore, 1)) (kk : V (pc + 1) Γ ((L, R, ups σ a i.toNat x, ρ, N) : Z2) st) : V pc Γ ((L, R, σ, ρ, N) : Z2) (vI x :: vI i :: .ref (b + a) :: st) := by
  obtain ⟨p, e, Rm, s, m, args, below, meth, c, Q, D, tc, rfl, hx, hb, hml, hown, hts, hK, hE, hfr, hlo, hce, hsl, hbs, hinm, ad, hXX⟩ := C
  intro okσ okl hN ls H locs hl hH hA
  have hP := hH.2 a _ haN (cE2_2 ha)
  refine W.iast hx hb hP ((hK.2 0 _ rfl).1 _ _) (fun q => by cases q) (by show ¬ (Int32.ofInt i < 0 ∨ (arrV _ _ _).slots.size ≤ _); rw [arrV_size]; exact ofI_vin hi h0 h1) rfl rfl hd fun H1 e1 z1 oq => ?_
  refine kk (okS_upd okσ (by unfold kd; rw [ha]; exact hxr)) okl hN ls H1 _ hl (Hp2_upd hH (fun a' ha' => ⟨ups_ne ha', rfl⟩) ?_ z1 oq) (hA.put z1 oq (Nat.le_add_right _ _))
  intro e' he'
  rw [cE2_2 ha] at he'
  cases he'
  show H1[b + a]? = some (vp_cell _ _)
  rw [e1, ofI_cl hi]
  show some ((vp_cell (tc 0) ((sh a).2.2, .inl fun j => Int32.ofInt (σ a j))).setSlot _ _) = _
  rw [vp_cell_i, vp_cell_i, arrV_store]
  congr 2
  funext q
  by_cases hq : q = i.toNat
  · subst hq
    simp only [updV, if_pos, ups_same]
    all_goals exact rfl
  · simp [updV, ups_same, hq]
theorem j_len (C : Ctx2 l b V cc own nL h N0 N1) (ho : own = RX8) (hh : 2 ≤ h) (hN1 : N ≤ N1) (hst : dep st ≤ 8) (hd1 : decode cc pc = .ok (.ldc 51, 2)) (hd2 : decode cc (pc + 2) = .ok (.invokevirtual 53, 3)) (kk : V (pc + 5) Γ ((L, R, σ, ρ, N) : Z2) (vI 153 :: st)) : V pc Γ ((L, R, σ, ρ, N) : Z2) st := by
  subst ho
  obtain ⟨p, e, Rm, s, m, args, below, meth, c, Q, D, tc, rfl, hx, hb, hml, hown, hts, hK, hE, hfr, hlo, hce, hsl, hbs, hinm, ad, hXX⟩ := C
  intro okσ okl hN ls H locs hl hH hA
  have hN' : N0 ≤ N := hN
  have m3 := szN_mono hN1
  refine va_ldcS hx hb hown hXX.2.2.1 hd1 ?_
  exact wj_V (pc := pc + 2) (As := []) (st := st) ⟨hx, hb, hml, hown, hts⟩ hfr hlo hXX hA ⟨by show N - N0 ≤ _; omega, by show szN N - szN N0 ≤ _; omega⟩ mj_length yw_J0_length_8abf5 yi_J0_length_8abf5 rfl wj_l53 (by omega) rfl rfl hl.1 hst hd2 rfl (kk okσ okl hN ls H locs hl hH hA)
theorem j_chr (C : Ctx2 l b V cc own nL h N0 N1) (ho : own = RX8) (hh : 4 ≤ h) (hN1 : N ≤ N1) (hst : dep st ≤ 8) {g k : Nat} (hg : Γ[g]? = some (2, 0)) (hLk : L.getD 2 0 = (k : Int)) (hk : k < 153) (hd1 : decode cc pc = .ok (.ldc 51, 2)) (hd2 : decode cc (pc + 2) = .ok (.iload_n 2, 1)) (hd3 : decode cc (pc + 3) = .ok (.invokevirtual 58, 3)) (kk : V (pc + 6) Γ ((L, R, σ, ρ, N) : Z2) (vI (chI k) :: st)) : V pc Γ ((L, R, σ, ρ, N) : Z2) st := by
  subst ho
  obtain ⟨p, e, Rm, s, m, args, below, meth, c, Q, D, tc, rfl, hx, hb, hml, hown, hts, hK, hE, hfr, hlo, hce, hsl, hbs, hinm, ad, hXX⟩ := C
  intro okσ okl hN ls H locs hl hH hA
  have hN' : N0 ≤ N := hN
  have m3 := szN_mono hN1
  refine va_ldcS hx hb hown hXX.2.2.1 hd1 ?_
  refine lv_iload_n (pc := pc + 2) (x := Int32.ofInt (L.getD 2 0)) hx hb hd2 rfl (lv_at hl g (lvG_at hg)) ?_
  rw [hLk]
  exact wj_V (pc := pc + 3) (As := [vI k]) (st := st) ⟨hx, hb, hml, hown, hts⟩ hfr hlo hXX hA ⟨by show N - N0 ≤ _; omega, by show szN N - szN N0 ≤ _; omega⟩ (mj_charAt hk) yw_J0_charAt_5068e yi_J0_charAt_5068e rfl wj_l58 (by omega) rfl rfl hl.1 hst hd3 rfl (kk okσ okl hN ls H locs hl hH hA)
end TPJ
/-- the keywords as they are summed up, letter by letter -/
def kwS : Nat → Nat × (Nat → Int)
  | 0 => (0, fun _ => 0)
  | i + 1 => if chI i = 32 then ((kwS i).1 + 1, (kwS i).2) else ((kwS i).1, fun j => if j = (kwS i).1 then (kwS i).2 (kwS i).1 * 32 + (chI i - 96) else (kwS i).2 j)
set_option maxRecDepth 20000 in
theorem kwS_ok : ∀ i, i < 153 → (kwS i).1 < 30 ∧ 0 ≤ (kwS i).2 (kwS i).1 ∧ (kwS i).2 (kwS i).1 < 1099511627776 := by decide +kernel
set_option maxRecDepth 20000 in
theorem kwS_end : ∀ k, k < 30 → (kwS 153).2 k = kwK k := by decide +kernel
theorem oi_Tape : Cond.methodLink RX8 3 objectInit ∈ gtb := (gq_1 36 (by decide +kernel) rfl)
set_option maxRecDepth 20000 in
theorem yc_Tape : YW yX8_init cX8_init 4 none 0 := ⟨(gq_1 35 rfl rfl), (gq_1 2 (by decide +kernel) rfl), by decide +kernel, by decide⟩
theorem ym_Tape : Cond.instanceMethod yX8_init ∈ gtb := (gq_1 34 (by decide +kernel) rfl)
theorem fr_Tape_9 : FR RX8 9 8 0 := ⟨RX8, TX8, 12, tyX8, rfl, by decide, in_X8, (gq_1 87 (by decide +kernel) rfl), rfl, rfl, tyX8_ok, nmX8, rfl, rfl, (Or.inr ⟨_, rfl⟩)⟩
theorem fr_Tape_25 : FR RX8 25 8 4 := ⟨RX8, TX8, 12, tyX8, rfl, by decide, in_X8, (gq_1 96 (by decide +kernel) rfl), rfl, rfl, tyX8_ok, nmX8, rfl, rfl, (Or.inr ⟨_, rfl⟩)⟩
theorem cw_Tape_62 : Cond.constantLong RX8 62 (Int64.ofInt 32) ∈ gtb := (gq_1 86 (by decide +kernel) rfl)
def GS_Tape0 (a : Nat) (σ : SS) : SS := (ups (ups (ups (ups (ups (ups (ups (upA (ups (ups (ups (upA σ (a + 1) (fun _ => 0)) a 1 0) a 2 0) a 3 (-1)) (a + 2) (fun _ => 0)) a 5 0) a 6 0) a 7 0) a 8 0) a 9 (-1)) a 10 0) a 11 0)
def GS_Tape (a : Nat) (σ : SS) : SS := upA (GS_Tape0 a σ) (a + 2) (kwS 153).2
def GP_Tape (a : Nat) (ρ : PP) : PP := (upr (upP (upr (upP ρ (a + 1) (fun _ => none)) a 0 (some (a + 1))) (a + 2) (fun _ => none)) a 4 (some (a + 2)))
theorem GS_Tape0_k (a : Nat) (σ : SS) : GS_Tape0 a σ (a + 2) = fun _ => 0 := by
  unfold GS_Tape0
  simp (disch := omega) only [upsA, upA_same, upA_neA]
theorem upA_step (σ : SS) (a w : Nat) (f : Nat → Int) (v : Int) : ups (upA σ a f) a w v = upA σ a (fun j => if j = w then v else f j) := by
  funext x j
  unfold ups upA
  by_cases h : x = a
  · subst h
    by_cases hj : j = w
    · rw [if_pos ⟨rfl, hj⟩, if_pos rfl, if_pos hj]
    · rw [if_neg (fun q => hj q.2), if_pos rfl, if_pos rfl, if_neg hj]
  · rw [if_neg (fun q => h q.1), if_neg h, if_neg h]
set_option maxRecDepth 20000 in
set_option maxHeartbeats 8000000 in
theorem mc_Tape {l : Launch} (a : Nat) (hs0 : sh a = (1, 8, 12)) (hs1 : sh (a + 1) = (4, 0, 900)) (hs2 : sh (a + 2) = (3, 0, 30)) (σ : SS) (ρ : PP) : Mt2 l yX8_init cX8_init 4 4 (a + 1) (a + 3) (fun b => [.ref (b + a)]) σ ρ (GS_Tape a σ) (GP_Tape a ρ) := by
  refine Mt2_of (own := RX8) (Γ0 := [(0, 2)]) (L0 := [0, 0, 0, 0]) (R0 := [a, 0, 0, 0]) (by decide +kernel) rfl rfl (fun b => rfl) (fun b => Nat.le_of_ble_eq_true rfl) ⟨rfl, rfl, List.forall_mem_cons.mpr ⟨trivial, List.forall_mem_nil _⟩⟩ (fun b V C X => ?_)
  have s4 : GP_Tape a ρ a 4 = some (a + 2) := by
    unfold GP_Tape
    simp (disch := omega) only [upr_oth, upP_oth, upr_hit]
  have loop : ∀ (k i : Nat) (c3 : Int), i + k = 153 → V 75 [(2, 0), (1, 0), (0, 2)] (([0, ((kwS i).1 : Int), (i : Int), c3], [a, 0, 0, 0], upA (GS_Tape0 a σ) (a + 2) (kwS i).2, GP_Tape a ρ, a + 3) : Z2) [] := by
    intro k
    induction k with
    | zero =>
      intro i c3 hi
      have hi : i = 153 := by omega
      subst hi
      refine j_iload_n (pc := 75) (i := 2) (g := 0) C dX8_init_75 rfl rfl ?_
      refine j_len (pc := 76) C rfl (by omega) (by omega) (by rw [dep_i]; decide) dX8_init_76 dX8_init_78 ?_
      refine j_icmp_ge (pc := 81) (x := ((153 : Nat) : Int)) (tgt := 139) C dX8_init_81 (by decide) (inIb_of rfl) (inIb_of rfl) (fun _ => ?_) (fun q => absurd (show (153 : Int) ≤ ((153 : Nat) : Int) by decide) q)
      exact X 139 _ _ _ dX8_init_139
    | succ k ih =>
      intro i c3 hi
      have i153 : i < 153 := by omega
      obtain ⟨w1, w2, w3⟩ := kwS_ok i i153
      have ch := (chI_ok i i153).2.2.2
      have ii : inI (i : Int) := by unfold inI; omega
      have iw : inI ((kwS i).1 : Int) := by unfold inI; omega
      have ic : inI (chI i) := by unfold inI; omega
      refine j_iload_n (pc := 75) (i := 2) (g := 0) C dX8_init_75 rfl rfl ?_
      refine j_len (pc := 76) C rfl (by omega) (by omega) (by rw [dep_i]; decide) dX8_init_76 dX8_init_78 ?_
      refine j_icmp_ge (pc := 81) (x := (i : Int)) (tgt := 139) C dX8_init_81 (by decide) ii (inIb_of rfl) (fun q => absurd q (by omega)) (fun _ => ?_)
      refine j_iload_n (pc := 84) (i := 1) (g := 1) C dX8_init_84 rfl rfl ?_
      refine j_bipush (pc := 85) C dX8_init_85 rfl ?_
      refine j_icmp_ge (pc := 87) (x := ((kwS i).1 : Int)) (tgt := 139) C dX8_init_87 (by decide) iw (inIb_of rfl) (fun q => absurd q (by omega)) (fun _ => ?_)
      refine j_chr (pc := 90) (g := 0) (k := i) C rfl (by omega) (by omega) (by decide) rfl rfl i153 dX8_init_90 dX8_init_92 dX8_init_93 ?_
      refine j_istore_n (pc := 96) (i := 3) C dX8_init_96 rfl (by decide) ic ?_
      refine j_iload_n (pc := 97) (i := 3) (g := 0) C dX8_init_97 rfl rfl ?_
      refine j_bipush (pc := 98) C dX8_init_98 rfl ?_
      have back : ∀ (w : Nat) (f : Nat → Int), kwS (i + 1) = (w, f) → V 133 [(3, 0), (2, 0), (1, 0), (0, 2)] (([0, (w : Int), (i : Int), chI i], [a, 0, 0, 0], upA (GS_Tape0 a σ) (a + 2) f, GP_Tape a ρ, a + 3) : Z2) [] := fun w f hw => by
        have e1 : wI ((i : Int) + 1) = ((i + 1 : Nat) : Int) := wI_id (by unfold inI; omega)
        refine j_iinc (pc := 133) (i := 2) (g := 1) C dX8_init_133 rfl (by decide) ?_
        refine j_goto (pc := 136) (tgt := 75) C dX8_init_136 (by decide) ?_
        refine j_sub (Γ2 := [(2, 0), (1, 0), (0, 2)]) C (by decide) ?_
        have nx := ih (i + 1) (chI i) (by omega)
        rw [hw] at nx
        show V 75 [(2, 0), (1, 0), (0, 2)] (([0, (w : Int), wI ((i : Int) + 1), chI i], [a, 0, 0, 0], upA (GS_Tape0 a σ) (a + 2) f, GP_Tape a ρ, a + 3) : Z2) []
        rw [e1]
        exact nx
      refine j_icmp_ne (pc := 100) (x := chI i) (tgt := 109) C dX8_init_100 (by decide) ic (inIb_of rfl) (fun q => ?_) (fun q => ?_)
      · have e0 : kwS (i + 1) = ((kwS i).1, fun j => if j = (kwS i).1 then (kwS i).2 (kwS i).1 * 32 + (chI i - 96) else (kwS i).2 j) := by
          show (if chI i = 32 then _ else _) = _
          rw [if_neg q]
        have bk := back _ _ e0
        have e1 : wI (chI i - 97) = chI i - 97 := wI_id (by unfold inI; omega)
        have e2 : wI (chI i - 97 + 1) = chI i - 96 := by rw [wI_id (by unfold inI; omega)]; omega
        have e3 : wL ((kwS i).2 (kwS i).1 * 32) = (kwS i).2 (kwS i).1 * 32 := wL_id (by unfold inL; omega)
        have e4 : wL ((kwS i).2 (kwS i).1 * 32 + (chI i - 96)) = (kwS i).2 (kwS i).1 * 32 + (chI i - 96) := wL_id (by unfold inL; omega)
        have rd : upA (GS_Tape0 a σ) (a + 2) (kwS i).2 (a + 2) (((kwS i).1 : Int)).toNat = (kwS i).2 (kwS i).1 := by rw [upA_same, Int.toNat_natCast]
        have h2 : ((kwS i).1 : Int) < (sh (a + 2)).2.2 := by rw [hs2]; show ((kwS i).1 : Int) < ((30 : Nat) : Int); omega
        refine j_aload_n (pc := 109) (i := 0) (g := 3) C dX8_init_109 rfl rfl ?_
        refine j_getR (pc := 110) (a := a) (r := a + 2) C fl_Tape_25 (by rw [hs0]) (by rw [hs0]) (by omega) s4 dX8_init_110 ?_
        refine j_iload_n (pc := 113) (i := 1) (g := 2) C dX8_init_113 rfl rfl ?_
        refine j_aload_n (pc := 114) (i := 0) (g := 3) C dX8_init_114 rfl rfl ?_
        refine j_getR (pc := 115) (a := a) (r := a + 2) C fl_Tape_25 (by rw [hs0]) (by rw [hs0]) (by omega) s4 dX8_init_115 ?_
        refine j_iload_n (pc := 118) (i := 1) (g := 2) C dX8_init_118 rfl rfl ?_
        refine j_lald (pc := 119) (a := a + 2) (i := ((kwS i).1 : Int)) C (by rw [hs2]) (by omega) iw (by omega) h2 dX8_init_119 ?_
        rw [rd]
        refine j_ldc2 (pc := 120) C cw_Tape_62 dX8_init_120 ?_
        refine j_lmul (pc := 123) C dX8_init_123 ?_
        rw [e3]
        refine j_iload_n (pc := 124) (i := 3) (g := 0) C dX8_init_124 rfl rfl ?_
        refine j_bipush (pc := 125) C dX8_init_125 rfl ?_
        refine j_isub (pc := 127) (x := chI i) C dX8_init_127 ?_
        rw [e1]
        refine j_iconst (pc := 128) C dX8_init_128 ?_
        refine j_iadd (pc := 129) C dX8_init_129 ?_
        rw [e2]
        refine j_i2l (pc := 130) C (by unfold inI; omega) dX8_init_130 ?_
        refine j_ladd (pc := 131) C dX8_init_131 ?_
        rw [e4]
        refine j_last (pc := 132) (a := a + 2) (i := ((kwS i).1 : Int)) C (by rw [hs2]) (by omega) iw (by omega) h2 (by unfold inL; omega) dX8_init_132 ?_
        rw [upA_step, Int.toNat_natCast]
        exact bk
      · have e0 : kwS (i + 1) = ((kwS i).1 + 1, (kwS i).2) := by
          show (if chI i = 32 then _ else _) = _
          rw [if_pos q]
        have bk := back _ _ e0
        have e1 : wI (((kwS i).1 : Int) + 1) = (((kwS i).1 + 1 : Nat) : Int) := wI_id (by unfold inI; omega)
        refine j_iinc (pc := 103) (i := 1) (g := 2) C dX8_init_103 rfl (by decide) ?_
        refine j_goto (pc := 106) (tgt := 133) C dX8_init_106 (by decide) ?_
        refine j_sub (Γ2 := [(3, 0), (2, 0), (1, 0), (0, 2)]) C (by decide) ?_
        show V 133 [(3, 0), (2, 0), (1, 0), (0, 2)] (([0, wI (((kwS i).1 : Int) + 1), (i : Int), chI i], [a, 0, 0, 0], upA (GS_Tape0 a σ) (a + 2) (kwS i).2, GP_Tape a ρ, a + 3) : Z2) []
        rw [e1]
        exact bk
  refine j_aload_n (pc := 0) (i := 0) (g := 0) C dX8_init_0 rfl rfl ?_
  refine j_objInit (pc := 1) C oi_Tape oi_w (by omega) (by decide) dX8_init_1 ?_
  refine j_aload_n (pc := 4) (i := 0) (g := 0) C dX8_init_4 rfl rfl ?_
  refine j_sipush (pc := 5) C dX8_init_5 rfl ?_
  refine j_newaByte (pc := 8) (N := (a + 1)) C aw_byte (by rw [hs1]) (by rw [hs1]; rfl) (by decide) (by omega) dX8_init_8 ?_
  refine j_putR (pc := 10) (a := a) (r := (a + 1)) C fr_Tape_9 (by rw [hs0]) (by rw [hs0]) (by omega) (by decide +kernel) dX8_init_10 ?_
  refine j_aload_n (pc := 13) (i := 0) (g := 0) C dX8_init_13 rfl rfl ?_
  refine j_iconst (pc := 14) C dX8_init_14 ?_
  refine j_putI (pc := 15) (a := a) (kn := 0) (x := 0) C pl_Tape_15 (by rw [hs0]) (by rw [hs0]) (by omega) (Or.inl rfl) (show inI 0 from inIb_of rfl) dX8_init_15 ?_
  refine j_aload_n (pc := 18) (i := 0) (g := 0) C dX8_init_18 rfl rfl ?_
  refine j_iconst (pc := 19) C dX8_init_19 ?_
  refine j_putI (pc := 20) (a := a) (kn := 0) (x := 0) C pl_Tape_19 (by rw [hs0]) (by rw [hs0]) (by omega) (Or.inl rfl) (show inI 0 from inIb_of rfl) dX8_init_20 ?_
  refine j_aload_n (pc := 23) (i := 0) (g := 0) C dX8_init_23 rfl rfl ?_
  refine j_iconst (pc := 24) C dX8_init_24 ?_
  refine j_putI (pc := 25) (a := a) (kn := 0) (x := (-1)) C pl_Tape_22 (by rw [hs0]) (by rw [hs0]) (by omega) (Or.inl rfl) (show inI (-1) from inIb_of rfl) dX8_init_25 ?_
  refine j_aload_n (pc := 28) (i := 0) (g := 0) C dX8_init_28 rfl rfl ?_
  refine j_bipush (pc := 29) C dX8_init_29 rfl ?_
  refine j_newaLong (pc := 31) (N := (a + 2)) C aw_long (by rw [hs2]) (by rw [hs2]; rfl) (by decide) (by omega) dX8_init_31 ?_
  refine j_putR (pc := 33) (a := a) (r := (a + 2)) C fr_Tape_25 (by rw [hs0]) (by rw [hs0]) (by omega) (by decide +kernel) dX8_init_33 ?_
  refine j_aload_n (pc := 36) (i := 0) (g := 0) C dX8_init_36 rfl rfl ?_
  refine j_iconst (pc := 37) C dX8_init_37 ?_
  refine j_putI (pc := 38) (a := a) (kn := 0) (x := 0) C pl_Tape_29 (by rw [hs0]) (by rw [hs0]) (by omega) (Or.inl rfl) (show inI 0 from inIb_of rfl) dX8_init_38 ?_
  refine j_aload_n (pc := 41) (i := 0) (g := 0) C dX8_init_41 rfl rfl ?_
  refine j_iconst (pc := 42) C dX8_init_42 ?_
  refine j_putI (pc := 43) (a := a) (kn := 0) (x := 0) C pl_Tape_32 (by rw [hs0]) (by rw [hs0]) (by omega) (Or.inl rfl) (show inI 0 from inIb_of rfl) dX8_init_43 ?_
  refine j_aload_n (pc := 46) (i := 0) (g := 0) C dX8_init_46 rfl rfl ?_
  refine j_iconst (pc := 47) C dX8_init_47 ?_
  refine j_putI (pc := 48) (a := a) (kn := 0) (x := 0) C pl_Tape_35 (by rw [hs0]) (by rw [hs0]) (by omega) (Or.inl rfl) (show inI 0 from inIb_of rfl) dX8_init_48 ?_
  refine j_aload_n (pc := 51) (i := 0) (g := 0) C dX8_init_51 rfl rfl ?_
  refine j_iconst (pc := 52) C dX8_init_52 ?_
  refine j_putI (pc := 53) (a := a) (kn := 0) (x := 0) C pl_Tape_38 (by rw [hs0]) (by rw [hs0]) (by omega) (Or.inl rfl) (show inI 0 from inIb_of rfl) dX8_init_53 ?_
  refine j_aload_n (pc := 56) (i := 0) (g := 0) C dX8_init_56 rfl rfl ?_
  refine j_iconst (pc := 57) C dX8_init_57 ?_
  refine j_putI (pc := 58) (a := a) (kn := 0) (x := (-1)) C pl_Tape_41 (by rw [hs0]) (by rw [hs0]) (by omega) (Or.inl rfl) (show inI (-1) from inIb_of rfl) dX8_init_58 ?_
  refine j_aload_n (pc := 61) (i := 0) (g := 0) C dX8_init_61 rfl rfl ?_
  refine j_iconst (pc := 62) C dX8_init_62 ?_
  refine j_putI (pc := 63) (a := a) (kn := 0) (x := 0) C pl_Tape_44 (by rw [hs0]) (by rw [hs0]) (by omega) (Or.inl rfl) (show inI 0 from inIb_of rfl) dX8_init_63 ?_
  refine j_aload_n (pc := 66) (i := 0) (g := 0) C dX8_init_66 rfl rfl ?_
  refine j_lconst (pc := 67) (x := 0) C dX8_init_67 (by decide +kernel) ?_
  refine j_putI (pc := 68) (a := a) (kn := 1) (x := 0) C pl_Tape_47 (by rw [hs0]) (by rw [hs0]) (by omega) (Or.inr (Or.inl rfl)) (show inL 0 from inLb_of rfl) dX8_init_68 ?_
  refine j_iconst (pc := 71) C dX8_init_71 ?_
  refine j_istore_n (pc := 72) (i := 1) C dX8_init_72 rfl (by decide) (inIb_of rfl) ?_
  refine j_iconst (pc := 73) C dX8_init_73 ?_
  refine j_istore_n (pc := 74) (i := 2) C dX8_init_74 rfl (by decide) (inIb_of rfl) ?_
  have st := loop 153 0 0 rfl
  have z : upA (GS_Tape0 a σ) (a + 2) (kwS 0).2 = GS_Tape0 a σ := by
    have := upA_id (GS_Tape0 a σ) (a + 2)
    rw [GS_Tape0_k] at this
    exact this
  rw [z] at st
  exact st
