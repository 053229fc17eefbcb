section HEAP
variable {l : Launch} {b : Nat} {V : VV} {cc : ByteArray} {own : String} {nL h pc : Nat} {Γ : GG} {z : ZZ} {L : List Int} {R : List Nat} {σ : SS} {st : List Value}
theorem cE_obj {tc : Nat → ClassId} {σ : SS} {a ci : Nat} (h1 : (sh a).1 = 1) (h2 : (sh a).2.1 = ci) : cE tc b σ a = some (.inr (ci, (fkX ci).mapIdx fun k kd => vK b kd (σ a k) (rf a k))) := by
  unfold cE
  rw [h1, h2]
  rfl
theorem cE_2 {tc : Nat → ClassId} {σ : SS} {a : Nat} (h : (sh a).1 = 2) : cE tc b σ a = some (.inl (tc 0, (sh a).2.2, .inl fun j => Int32.ofInt (σ a j))) := by
  unfold cE
  rw [h]
  rfl
theorem cE_3 {tc : Nat → ClassId} {σ : SS} {a : Nat} (h : (sh a).1 = 3) : cE tc b σ a = some (.inl (tc 1, (sh a).2.2, .inr (.inl fun j => Int64.ofInt (σ a j)))) := by
  unfold cE
  rw [h]
  rfl
theorem cE_4 {tc : Nat → ClassId} {σ : SS} {a : Nat} (h : (sh a).1 = 4) : cE tc b σ a = some (.inl (tc 2, (sh a).2.2, .inl fun j => Int32.ofInt (σ a j))) := by
  unfold cE
  rw [h]
  rfl
theorem cE_5 {tc : Nat → ClassId} {σ : SS} {a : Nat} (h : (sh a).1 = 5) : cE tc b σ a = some (.inl (tc 3, (sh a).2.2, .inl fun j => Int32.ofInt (σ a j))) := by
  unfold cE
  rw [h]
  rfl
theorem cE_6 {tc : Nat → ClassId} {σ : SS} {a t : Nat} (h : (sh a).1 = 6) (ht : (sh a).2.1 = t) : cE tc b σ a = some (.inl (tc t, (sh a).2.2, .inr (.inr (.inr (.inr fun j => some (b + rf a j)))))) := by
  unfold cE
  rw [h, ht]
  rfl
theorem fs_at {ci k kn a : Nat} {σ : SS} (h : (fkX ci)[k]? = some kn) : ((fkX ci).mapIdx fun k kd => vK b kd (σ a k) (rf a k))[k]? = some (vK b kn (σ a k) (rf a k)) := by
  rw [List.getElem?_mapIdx, h]
  rfl
theorem fs_set {ci k kn a : Nat} {σ : SS} {x : Int} (h : (fkX ci)[k]? = some kn) : ((fkX ci).mapIdx fun j kd => vK b kd (ups σ a k x a j) (rf a j)) = ((fkX ci).mapIdx fun j kd => vK b kd (σ a j) (rf a j)).set k (vK b kn x (rf a k)) := by
  apply List.ext_getElem?
  intro j
  rw [List.getElem?_mapIdx]
  by_cases hj : j = k
  · subst hj
    rw [h, List.getElem?_set_self (by rw [List.length_mapIdx]; exact (List.getElem?_eq_some_iff.mp h).1)]
    simp [ups_same]
  · rw [List.getElem?_set_ne (fun q => hj q.symm), List.getElem?_mapIdx]
    simp [ups_same, hj]
theorem i_get (C : Ctx l b V cc own nL h) {a ci k kn index : Nat} (hf : FL own index ci k kn) (h1 : (sh a).1 = 1) (h2 : (sh a).2.1 = ci) (hd : decode cc pc = .ok (.getfield index, 3)) (kk : V (pc + 3) Γ z (vK b kn (z.2.2 a k) (rf a k) :: st)) : V pc Γ z (.ref (b + a) :: st) := by
  obtain ⟨p, e, Rm, s, m, args, below, meth, c, cells, slots, Q, D, tc, rfl, hx, hb, hml, hown, hts, hK, hfr, hlo, hce, hsl⟩ := C
  intro okσ okl ls H locs hl hH hA
  obtain ⟨Cn, T, N, hc, hk, hin, hlink, hkn⟩ := hf
  have hP := va_P1 (hH a _ (cE_obj h1 h2))
  exact va_get hx hb hts hin hown hK hP 0 rfl hc k hk (hts _ hlink) (fun x hx => hx) (fs_at hkn) hd (kk okσ okl ls H locs hl hH hA)
theorem i_put (C : Ctx l b V cc own nL h) {a ci k kn index : Nat} {x : Int} (hp : PL own index ci k kn) (h1 : (sh a).1 = 1) (h2 : (sh a).2.1 = ci) (hkx : kn = 0 ∨ kn = 1 ∨ (kn = 3 ∧ (x = 0 ∨ x = 1))) (hr : rng kn x) (hd : decode cc pc = .ok (.putfield index, 3)) (kk : V (pc + 3) Γ ((L, R, ups σ a k x) : ZZ) st) : V pc Γ ((L, R, σ) : ZZ) (vK b kn x 0 :: .ref (b + a) :: st) := by
  obtain ⟨p, e, Rm, s, m, args, below, meth, c, cells, slots, Q, D, tc, rfl, hx, hb, hml, hown, hts, hK, hfr, hlo, hce, hsl⟩ := C
  intro okσ okl ls H locs hl hH hA
  obtain ⟨Cn, T, N, ty, hc, hk, hin, hlink, hkn, hlen, hty, hnm, hfin, htyk⟩ := hp
  have hcell := hH a _ (cE_obj h1 h2)
  obtain ⟨r, hr1, cell, q1, q2, q3, q4⟩ := hcell
  have hre : r = (Cn, T, N) := Option.some.inj (hr1.symm.trans hc)
  subst hre
  have hap := va_apart (own := own) hts hin ty hty hnm hK hc
  obtain ⟨hS, hfc, kC, hkC, hkind⟩ := hK.1 _ _ hc
  obtain ⟨cf, kf, fi, f, hi, hsl2⟩ := hS k hk
  have hlay := hts _ (hin _ (u_in_lay hk))
  unfold u_lay at hlay
  rw [if_neg (by rw [hfin]; decide)] at hlay
  have hst := (u_facts hfc hkC (u_lays hts hin hk) hi).1
  have hvv : vK b kn x 0 = vK b kn x (rf a k) := by
    rcases hkx with rfl | rfl | ⟨rfl, -⟩ <;> rfl
  have hnf : narrow (ty k) (vK b kn x 0) = vK b kn x 0 ∧ fits (ty k) (vK b kn x 0) = true := by
    rw [htyk]
    rcases hkx with rfl | rfl | ⟨rfl, rfl | rfl⟩
    · exact ⟨rfl, rfl⟩
    · exact ⟨rfl, rfl⟩
    · exact ⟨show narrow FieldType.boolean (vI 0) = vI 0 by decide +kernel, show fits FieldType.boolean (vI 0) = true by decide +kernel⟩
    · exact ⟨show narrow FieldType.boolean (vI 1) = vI 1 by decide +kernel, show fits FieldType.boolean (vI 1) = true by decide +kernel⟩
  have h6 := u_store hfc hkC hkind hlay hi (hty k hk) hnf.1 hnf.2
  refine W.putK hx hb (f := f) ⟨hown, hts _ hlink, ⟨_, _, _, hi⟩, hst⟩ (by rw [q2]; exact h6) q1 q3 (by rw [hsl2]; exact k2_hasslot (q4 k hk)) rfl rfl hd fun H' e1 e2 e3 => ?_
  rw [hsl2] at e1 ⊢
  have hkd : kd a k = kn := by
    unfold kd
    rw [h1, h2]
    show (fkX ci).getD k 0 = kn
    rw [List.getD_eq_getElem?_getD, hkn]
    rfl
  refine kk (okS_upd okσ (by rw [hkd]; exact hr)) okl ls H' _ hl (Hp_upd hH ?_ e3) (hA.put e2 e3 ⟨a, rfl, by rw [h1]; decide⟩)
  intro e' he'
  rw [cE_obj h1 h2, fs_set hkn] at he'
  cases he'
  refine ⟨_, hc, t_OB.to (V := updV (vp_V ((fkX ci).mapIdx fun j kd => vK b kd (σ a j) (rf a j))) k (vK b kn x (rf a k))) ⟨_, e1, q2, q3, ?_⟩ (fun j _ => vp_updV_set (by rw [List.length_mapIdx, hlen]; exact hk) _ j)⟩
  rw [hvv]
  exact t_set q4 hap hk _
theorem i_iald (C : Ctx l b V cc own nL h) {a : Nat} {i : Int} (ha : (sh a).1 = 2) (hi : inI i) (h0 : 0 ≤ i) (h1 : i < (sh a).2.2) (hd : decode cc pc = .ok (.iaload, 1)) (kk : V (pc + 1) Γ z (vI (z.2.2 a i.toNat) :: st)) : V pc Γ z (vI i :: .ref (b + a) :: st) := by
  obtain ⟨p, e, Rm, s, m, args, below, meth, c, cells, slots, Q, D, tc, rfl, hx, hb, hml, hown, hts, hK, hfr, hlo, hce, hsl⟩ := C
  intro okσ okl ls H locs hl hH hA
  have hP := va_P1 (hH a _ (cE_2 ha))
  have k' := kk okσ okl ls H locs hl hH hA
  rw [← ofI_cl hi] at k'
  exact va_iald hx hb hK hP 0 0 rfl rfl (ofI_vin hi h0 h1) hd k'
theorem i_bald (C : Ctx l b V cc own nL h) {a : Nat} {i : Int} (ha : (sh a).1 = 4) (hi : inI i) (h0 : 0 ≤ i) (h1 : i < (sh a).2.2) (hd : decode cc pc = .ok (.baload, 1)) (kk : V (pc + 1) Γ z (vI (z.2.2 a i.toNat) :: st)) : V pc Γ z (vI i :: .ref (b + a) :: st) := by
  obtain ⟨p, e, Rm, s, m, args, below, meth, c, cells, slots, Q, D, tc, rfl, hx, hb, hml, hown, hts, hK, hfr, hlo, hce, hsl⟩ := C
  intro okσ okl ls H locs hl hH hA
  have hP := va_P1 (hH a _ (cE_4 ha))
  have k' := kk okσ okl ls H locs hl hH hA
  rw [← ofI_cl hi] at k'
  exact va_bald hx hb hK hP 0 2 rfl rfl (ofI_vin hi h0 h1) hd k'
theorem i_zald (C : Ctx l b V cc own nL h) {a : Nat} {i : Int} (ha : (sh a).1 = 5) (hi : inI i) (h0 : 0 ≤ i) (h1 : i < (sh a).2.2) (hd : decode cc pc = .ok (.baload, 1)) (kk : V (pc + 1) Γ z (vI (z.2.2 a i.toNat) :: st)) : V pc Γ z (vI i :: .ref (b + a) :: st) := by
  obtain ⟨p, e, Rm, s, m, args, below, meth, c, cells, slots, Q, D, tc, rfl, hx, hb, hml, hown, hts, hK, hfr, hlo, hce, hsl⟩ := C
  intro okσ okl ls H locs hl hH hA
  have hP := va_P1 (hH a _ (cE_5 ha))
  have k' := kk okσ okl ls H locs hl hH hA
  rw [← ofI_cl hi] at k'
  exact va_zald hx hb hK hP 0 3 rfl rfl (ofI_vin hi h0 h1) hd k'
theorem i_lald (C : Ctx l b V cc own nL h) {a : Nat} {i : Int} (ha : (sh a).1 = 3) (hi : inI i) (h0 : 0 ≤ i) (h1 : i < (sh a).2.2) (hd : decode cc pc = .ok (.laload, 1)) (kk : V (pc + 1) Γ z (vL (z.2.2 a i.toNat) :: st)) : V pc Γ z (vI i :: .ref (b + a) :: st) := by
  obtain ⟨p, e, Rm, s, m, args, below, meth, c, cells, slots, Q, D, tc, rfl, hx, hb, hml, hown, hts, hK, hfr, hlo, hce, hsl⟩ := C
  intro okσ okl ls H locs hl hH hA
  have hP := va_P1 (hH a _ (cE_3 ha))
  have k' := kk okσ okl ls H locs hl hH hA
  rw [← ofI_cl hi] at k'
  exact va_lald hx hb hK hP 0 1 rfl rfl (ofI_vin hi h0 h1) hd k'
theorem i_aald (C : Ctx l b V cc own nL h) {a t : Nat} {i : Int} (ha : (sh a).1 = 6) (ht : (sh a).2.1 = t) (htt : t = 4 ∨ t = 5 ∨ t = 6 ∨ t = 7 ∨ t = 8) (hi : inI i) (h0 : 0 ≤ i) (h1 : i < (sh a).2.2) (hd : decode cc pc = .ok (.aaload, 1)) (kk : V (pc + 1) Γ z (.ref (b + rf a i.toNat) :: st)) : V pc Γ z (vI i :: .ref (b + a) :: st) := by
  obtain ⟨p, e, Rm, s, m, args, below, meth, c, cells, slots, Q, D, tc, rfl, hx, hb, hml, hown, hts, hK, hfr, hlo, hce, hsl⟩ := C
  intro okσ okl ls H locs hl hH hA
  have hP := hH a _ (cE_6 ha ht)
  have k' := kk okσ okl ls H locs hl hH hA
  rw [← ofI_cl hi] at k'
  have hin := ofI_vin hi h0 h1
  have hlt : (Int32.ofInt i).toNatClampNeg < (sh a).2.2 := Nat.not_le.mp fun q => hin (Or.inr q)
  have go : ∀ ty : FieldType, ty.isReference = true → (∀ (n : Nat) (f : Nat → Value), s.isArrayOf (arrV (tc t) n f) ty) → W p l e Rm s m args below meth c H locs cells slots Q (F0 m pc ls (vI i :: .ref (b + a) :: st)) := fun ty hty harr =>
    W.aald (v := .ref (b + rf a (Int32.ofInt i).toNatClampNeg)) (ty := ty) hx hb hP (harr _ _) hty (fun q => by cases q) (by show ¬ (Int32.ofInt i < 0 ∨ (arrV _ _ _).slots.size ≤ _); rw [arrV_size]; exact hin) (by show (arrV _ _ _).slots[_]? = _; rw [arrV_read _ _ hlt]; rfl) rfl rfl hd k'
  rcases htt with rfl | rfl | rfl | rfl | rfl
  · exact go _ rfl ((hK.2 4 _ rfl).1)
  · exact go _ rfl ((hK.2 5 _ rfl).1)
  · exact go _ rfl ((hK.2 6 _ rfl).1)
  · exact go _ rfl ((hK.2 7 _ rfl).1)
  · exact go _ rfl ((hK.2 8 _ rfl).1)
theorem i_alen2 (C : Ctx l b V cc own nL h) {a : Nat} (ha : (sh a).1 = 2) (hd : decode cc pc = .ok (.arraylength, 1)) (kk : V (pc + 1) Γ z (vI ((sh a).2.2 : Int) :: st)) : V pc Γ z (.ref (b + a) :: st) := by
  obtain ⟨p, e, Rm, s, m, args, below, meth, c, cells, slots, Q, D, tc, rfl, hx, hb, hml, hown, hts, hK, hfr, hlo, hce, hsl⟩ := C
  intro okσ okl ls H locs hl hH hA
  have hP := va_P1 (hH a _ (cE_2 ha))
  exact va_alen hx hb hK hP 0 0 rfl rfl Int32.ofInt_eq_ofNat.symm hd (kk okσ okl ls H locs hl hH hA)
theorem i_alen3 (C : Ctx l b V cc own nL h) {a : Nat} (ha : (sh a).1 = 3) (hd : decode cc pc = .ok (.arraylength, 1)) (kk : V (pc + 1) Γ z (vI ((sh a).2.2 : Int) :: st)) : V pc Γ z (.ref (b + a) :: st) := by
  obtain ⟨p, e, Rm, s, m, args, below, meth, c, cells, slots, Q, D, tc, rfl, hx, hb, hml, hown, hts, hK, hfr, hlo, hce, hsl⟩ := C
  intro okσ okl ls H locs hl hH hA
  have hP := va_P1 (hH a _ (cE_3 ha))
  exact va_alen hx hb hK hP 0 1 rfl rfl Int32.ofInt_eq_ofNat.symm hd (kk okσ okl ls H locs hl hH hA)
theorem i_alen4 (C : Ctx l b V cc own nL h) {a : Nat} (ha : (sh a).1 = 4) (hd : decode cc pc = .ok (.arraylength, 1)) (kk : V (pc + 1) Γ z (vI ((sh a).2.2 : Int) :: st)) : V pc Γ z (.ref (b + a) :: st) := by
  obtain ⟨p, e, Rm, s, m, args, below, meth, c, cells, slots, Q, D, tc, rfl, hx, hb, hml, hown, hts, hK, hfr, hlo, hce, hsl⟩ := C
  intro okσ okl ls H locs hl hH hA
  have hP := va_P1 (hH a _ (cE_4 ha))
  exact va_alen hx hb hK hP 0 2 rfl rfl Int32.ofInt_eq_ofNat.symm hd (kk okσ okl ls H locs hl hH hA)
theorem i_alen5 (C : Ctx l b V cc own nL h) {a : Nat} (ha : (sh a).1 = 5) (hd : decode cc pc = .ok (.arraylength, 1)) (kk : V (pc + 1) Γ z (vI ((sh a).2.2 : Int) :: st)) : V pc Γ z (.ref (b + a) :: st) := by
  obtain ⟨p, e, Rm, s, m, args, below, meth, c, cells, slots, Q, D, tc, rfl, hx, hb, hml, hown, hts, hK, hfr, hlo, hce, hsl⟩ := C
  intro okσ okl ls H locs hl hH hA
  have hP := va_P1 (hH a _ (cE_5 ha))
  exact va_alen hx hb hK hP 0 3 rfl rfl Int32.ofInt_eq_ofNat.symm hd (kk okσ okl ls H locs hl hH hA)
theorem i_iast (C : Ctx l b V cc own nL h) {a : Nat} {i x : Int} (ha : (sh a).1 = 2) (hi : inI i) (h0 : 0 ≤ i) (h1 : i < (sh a).2.2) (hxr : inI x) (hd : decode cc pc = .ok (.iastore, 1)) (kk : V (pc + 1) Γ ((L, R, ups σ a i.toNat (x)) : ZZ) st) : V pc Γ ((L, R, σ) : ZZ) (vI x :: vI i :: .ref (b + a) :: st) := by
  obtain ⟨p, e, Rm, s, m, args, below, meth, c, cells, slots, Q, D, tc, rfl, hx, hb, hml, hown, hts, hK, hfr, hlo, hce, hsl⟩ := C
  intro okσ okl ls H locs hl hH hA
  have hP := hH a _ (cE_2 ha)
  refine W.iast hx hb hP ((hK.2 0 _ rfl).1 _ _) (fun q => by cases q) (by show ¬ (Int32.ofInt i < 0 ∨ (arrV _ _ _).slots.size ≤ _); rw [arrV_size]; exact ofI_vin hi h0 h1) rfl rfl hd fun H1 e1 z1 oq => ?_
  refine kk (okS_upd okσ (by unfold kd; rw [ha]; exact hxr)) okl ls H1 _ hl (Hp_upd hH ?_ oq) (hA.put z1 oq ⟨a, rfl, by rw [ha]; decide⟩)
  intro e' he'
  rw [cE_2 ha] at he'
  cases he'
  show H1[b + a]? = some (vp_cell _ _)
  rw [e1, ofI_cl hi]
  show some ((vp_cell (tc 0) ((sh a).2.2, .inl fun j => Int32.ofInt (σ a j))).setSlot _ _) = _
  rw [vp_cell_i, vp_cell_i, arrV_store]
  congr 2
  funext q
  by_cases hq : q = i.toNat
  · subst hq
    simp only [updV, if_pos, ups_same]
    all_goals exact rfl
  · simp [updV, ups_same, hq]
theorem i_last (C : Ctx l b V cc own nL h) {a : Nat} {i x : Int} (ha : (sh a).1 = 3) (hi : inI i) (h0 : 0 ≤ i) (h1 : i < (sh a).2.2) (hxr : inL x) (hd : decode cc pc = .ok (.lastore, 1)) (kk : V (pc + 1) Γ ((L, R, ups σ a i.toNat (x)) : ZZ) st) : V pc Γ ((L, R, σ) : ZZ) (vL x :: vI i :: .ref (b + a) :: st) := by
  obtain ⟨p, e, Rm, s, m, args, below, meth, c, cells, slots, Q, D, tc, rfl, hx, hb, hml, hown, hts, hK, hfr, hlo, hce, hsl⟩ := C
  intro okσ okl ls H locs hl hH hA
  have hP := hH a _ (cE_3 ha)
  refine W.last hx hb hP ((hK.2 1 _ rfl).1 _ _) (fun q => by cases q) (by show ¬ (Int32.ofInt i < 0 ∨ (arrV _ _ _).slots.size ≤ _); rw [arrV_size]; exact ofI_vin hi h0 h1) rfl rfl hd fun H1 e1 z1 oq => ?_
  refine kk (okS_upd okσ (by unfold kd; rw [ha]; exact hxr)) okl ls H1 _ hl (Hp_upd hH ?_ oq) (hA.put z1 oq ⟨a, rfl, by rw [ha]; decide⟩)
  intro e' he'
  rw [cE_3 ha] at he'
  cases he'
  show H1[b + a]? = some (vp_cell _ _)
  rw [e1, ofI_cl hi]
  show some ((vp_cell (tc 1) ((sh a).2.2, .inr (.inl fun j => Int64.ofInt (σ a j)))).setSlot _ _) = _
  rw [vp_cell_l, vp_cell_l, arrV_store]
  congr 2
  funext q
  by_cases hq : q = i.toNat
  · subst hq
    simp only [updV, if_pos, ups_same]
    all_goals exact rfl
  · simp [updV, ups_same, hq]
theorem i_bast (C : Ctx l b V cc own nL h) {a : Nat} {i x : Int} (ha : (sh a).1 = 4) (hi : inI i) (h0 : 0 ≤ i) (h1 : i < (sh a).2.2) (hxr : True) (hd : decode cc pc = .ok (.bastore, 1)) (kk : V (pc + 1) Γ ((L, R, ups σ a i.toNat (nrB x)) : ZZ) st) : V pc Γ ((L, R, σ) : ZZ) (vI x :: vI i :: .ref (b + a) :: st) := by
  obtain ⟨p, e, Rm, s, m, args, below, meth, c, cells, slots, Q, D, tc, rfl, hx, hb, hml, hown, hts, hK, hfr, hlo, hce, hsl⟩ := C
  intro okσ okl ls H locs hl hH hA
  have hP := hH a _ (cE_4 ha)
  refine W.bast hx hb hP ((hK.2 2 _ rfl).1 _ _) (fun q => by cases q) (by show ¬ (Int32.ofInt i < 0 ∨ (arrV _ _ _).slots.size ≤ _); rw [arrV_size]; exact ofI_vin hi h0 h1) rfl rfl hd fun H1 e1 z1 oq => ?_
  refine kk (okS_upd okσ (by unfold kd; rw [ha]; exact inI_toInt _)) okl ls H1 _ hl (Hp_upd hH ?_ oq) (hA.put z1 oq ⟨a, rfl, by rw [ha]; decide⟩)
  intro e' he'
  rw [cE_4 ha] at he'
  cases he'
  show H1[b + a]? = some (vp_cell _ _)
  rw [e1, ofI_cl hi]
  show some ((vp_cell (tc 2) ((sh a).2.2, .inl fun j => Int32.ofInt (σ a j))).setSlot _ _) = _
  rw [vp_cell_i, vp_cell_i, arrV_store]
  congr 2
  funext q
  by_cases hq : q = i.toNat
  · subst hq
    simp only [updV, if_pos, ups_same]
    all_goals exact (by rw [nrB, Int32.ofInt_toInt]; rfl)
  · simp [updV, ups_same, hq]
theorem i_zast (C : Ctx l b V cc own nL h) {a : Nat} {i x : Int} (ha : (sh a).1 = 5) (hi : inI i) (h0 : 0 ≤ i) (h1 : i < (sh a).2.2) (hxr : True) (hd : decode cc pc = .ok (.bastore, 1)) (kk : V (pc + 1) Γ ((L, R, ups σ a i.toNat (nrZ x)) : ZZ) st) : V pc Γ ((L, R, σ) : ZZ) (vI x :: vI i :: .ref (b + a) :: st) := by
  obtain ⟨p, e, Rm, s, m, args, below, meth, c, cells, slots, Q, D, tc, rfl, hx, hb, hml, hown, hts, hK, hfr, hlo, hce, hsl⟩ := C
  intro okσ okl ls H locs hl hH hA
  have hP := hH a _ (cE_5 ha)
  refine W.zast hx hb hP ((hK.2 3 _ rfl).1 _ _) (fun q => by cases q) (by show ¬ (Int32.ofInt i < 0 ∨ (arrV _ _ _).slots.size ≤ _); rw [arrV_size]; exact ofI_vin hi h0 h1) rfl rfl hd fun H1 e1 z1 oq => ?_
  refine kk (okS_upd okσ (by unfold kd; rw [ha]; exact inI_toInt _)) okl ls H1 _ hl (Hp_upd hH ?_ oq) (hA.put z1 oq ⟨a, rfl, by rw [ha]; decide⟩)
  intro e' he'
  rw [cE_5 ha] at he'
  cases he'
  show H1[b + a]? = some (vp_cell _ _)
  rw [e1, ofI_cl hi]
  show some ((vp_cell (tc 3) ((sh a).2.2, .inl fun j => Int32.ofInt (σ a j))).setSlot _ _) = _
  rw [vp_cell_i, vp_cell_i, arrV_store]
  congr 2
  funext q
  by_cases hq : q = i.toNat
  · subst hq
    simp only [updV, if_pos, ups_same]
    all_goals exact (by rw [nrZ, Int32.ofInt_toInt]; rfl)
  · simp [updV, ups_same, hq]
theorem i_mmax (C : Ctx l b V cc own nL h) {x y : Int} {index : Nat} (hl1 : Cond.methodLink own index Lib.Math.max.name ∈ gtb) (hw : Cond.static Lib.Math.max.name ∈ gtb ∧ Cond.initialized "java/lang/Math" ∈ gtb ∧ Cond.code Lib.Math.max.name Lib.Math.max.code 2 (some .int) ∈ gtb) (hh : 1 ≤ h) (hst : (st.map fun v => v.category).sum ≤ 8) (hxi : inI x) (hyi : inI y) (hd : decode cc pc = .ok (.invokestatic index, 3)) (kk : V (pc + 3) Γ z (vI (if x < y then y else x) :: st)) : V pc Γ z (vI y :: vI x :: st) := by
  obtain ⟨p, e, Rm, s, m, args, below, meth, c, cells, slots, Q, D, tc, rfl, hx, hb, hml, hown, hts, hK, hfr, hlo, hce, hsl⟩ := C
  intro okσ okl ls H locs hl hH hA
  have k' := kk okσ okl ls H locs hl hH hA
  refine va_mmax hx hb (hml.trans hl.1.symm) hown (hts _ hl1) (hts _ hw.1) (hts _ hw.2.1) (hts _ hw.2.2) (by have := hfr.1; omega) (by omega) hce hsl hd ?_
  have e9 : (if Int32.ofInt x < Int32.ofInt y then Int32.ofInt y else Int32.ofInt x) = Int32.ofInt (if x < y then y else x) := by
    split
    · rename_i q
      rw [if_pos ((ofI_lt hxi hyi).mp q)]
    · rename_i q
      rw [if_neg (fun r => q ((ofI_lt hxi hyi).mpr r))]
  rw [e9]
  exact k'
theorem i_mmin (C : Ctx l b V cc own nL h) {x y : Int} {index : Nat} (hl1 : Cond.methodLink own index Lib.Math.min.name ∈ gtb) (hw : Cond.static Lib.Math.min.name ∈ gtb ∧ Cond.initialized "java/lang/Math" ∈ gtb ∧ Cond.code Lib.Math.min.name Lib.Math.min.code 2 (some .int) ∈ gtb) (hh : 1 ≤ h) (hst : (st.map fun v => v.category).sum ≤ 8) (hxi : inI x) (hyi : inI y) (hd : decode cc pc = .ok (.invokestatic index, 3)) (kk : V (pc + 3) Γ z (vI (if y < x then y else x) :: st)) : V pc Γ z (vI y :: vI x :: st) := by
  obtain ⟨p, e, Rm, s, m, args, below, meth, c, cells, slots, Q, D, tc, rfl, hx, hb, hml, hown, hts, hK, hfr, hlo, hce, hsl⟩ := C
  intro okσ okl ls H locs hl hH hA
  have k' := kk okσ okl ls H locs hl hH hA
  refine va_mmin hx hb (hml.trans hl.1.symm) hown (hts _ hl1) (hts _ hw.1) (hts _ hw.2.1) (hts _ hw.2.2) (by have := hfr.1; omega) (by omega) hce hsl hd ?_
  have e9 : (if Int32.ofInt y < Int32.ofInt x then Int32.ofInt y else Int32.ofInt x) = Int32.ofInt (if y < x then y else x) := by
    split
    · rename_i q
      rw [if_pos ((ofI_lt hyi hxi).mp q)]
    · rename_i q
      rw [if_neg (fun r => q ((ofI_lt hyi hxi).mpr r))]
  rw [e9]
  exact k'
theorem i_mabs (C : Ctx l b V cc own nL h) {x : Int} {index : Nat} (hl1 : Cond.methodLink own index Lib.Math.abs.name ∈ gtb) (hw : Cond.static Lib.Math.abs.name ∈ gtb ∧ Cond.initialized "java/lang/Math" ∈ gtb ∧ Cond.code Lib.Math.abs.name Lib.Math.abs.code 1 (some .int) ∈ gtb) (hh : 1 ≤ h) (hst : (st.map fun v => v.category).sum ≤ 8) (hxi : inI x) (hd : decode cc pc = .ok (.invokestatic index, 3)) (kk : V (pc + 3) Γ z (vI (if 0 ≤ x then x else wI (-x)) :: st)) : V pc Γ z (vI x :: st) := by
  obtain ⟨p, e, Rm, s, m, args, below, meth, c, cells, slots, Q, D, tc, rfl, hx, hb, hml, hown, hts, hK, hfr, hlo, hce, hsl⟩ := C
  intro okσ okl ls H locs hl hH hA
  have k' := kk okσ okl ls H locs hl hH hA
  refine va_mabs hx hb (hml.trans hl.1.symm) hown (hts _ hl1) (hts _ hw.1) (hts _ hw.2.1) (hts _ hw.2.2) (by have := hfr.1; omega) (by omega) hce hsl hd ?_
  have e9 : (if 0 ≤ Int32.ofInt x then Int32.ofInt x else 0 - Int32.ofInt x) = Int32.ofInt (if 0 ≤ x then x else wI (-x)) := by
    rw [ofI_0]
    split
    · rename_i q
      rw [if_pos ((ofI_le inI_0 hxi).mp q)]
    · rename_i q
      rw [if_neg (fun r => q ((ofI_le inI_0 hxi).mpr r)), ofI_w, ← Int32.ofInt_sub, Int.zero_sub]
  rw [e9]
  exact k'
theorem i_mabsl (C : Ctx l b V cc own nL h) {x : Int} {index : Nat} (hl1 : Cond.methodLink own index Lib.MathLoose.abs_long.x ∈ gtb) (hw : Cond.static Lib.MathLoose.abs_long.x ∈ gtb ∧ Cond.initialized "java/lang/Math" ∈ gtb ∧ Cond.code Lib.MathLoose.abs_long.x Lib.MathLoose.abs_long.code 2 (some .long) ∈ gtb) (hh : 1 ≤ h) (hst : (st.map fun v => v.category).sum ≤ 8) (hxi : inL x) (hd : decode cc pc = .ok (.invokestatic index, 3)) (kk : V (pc + 3) Γ z (vL (if 0 < x then x else wL (-x)) :: st)) : V pc Γ z (vL x :: st) := by
  obtain ⟨p, e, Rm, s, m, args, below, meth, c, cells, slots, Q, D, tc, rfl, hx, hb, hml, hown, hts, hK, hfr, hlo, hce, hsl⟩ := C
  intro okσ okl ls H locs hl hH hA
  have k' := kk okσ okl ls H locs hl hH hA
  refine va_mabs_long hx hb (hml.trans hl.1.symm) hown (hts _ hl1) (hts _ hw.1) (hts _ hw.2.1) (hts _ hw.2.2) (by have := hfr.1; omega) (by omega) hce hsl hd ?_
  have e9 : (if 0 < Int64.ofInt x then Int64.ofInt x else - Int64.ofInt x) = Int64.ofInt (if 0 < x then x else wL (-x)) := by
    rw [show (0 : Int64) = Int64.ofInt 0 by decide +kernel]
    split
    · rename_i q
      rw [if_pos ((ofL_lt (by unfold inL; omega) hxi).mp q)]
    · rename_i q
      rw [if_neg (fun r => q ((ofL_lt (by unfold inL; omega) hxi).mpr r)), ofL_w, Int64.ofInt_neg]
  rw [e9]
  exact k'
def tgS (lo hi : Int) (tg : List Nat) (td : Nat) (x : Int) : Nat := if x < lo ∨ hi < x then td else tg.getD (x - lo).toNat td
theorem i_table (C : Ctx l b V cc own nL h) {x dflt lo hi : Int} {offs : Array Int} {len td : Nat} {tg : List Nat} (hd : decode cc pc = .ok (.tableswitch dflt lo hi offs, len)) (hxi : inI x) (htd : (pc : Int) + dflt = (td : Int)) (htg : offs.toList.map (fun o => (pc : Int) + o) = tg.map Int.ofNat) (hn : lo + tg.length = hi + 1) (k : V (tgS lo hi tg td x) Γ z st) : V pc Γ z (vI x :: st) := by
  obtain ⟨p, e, Rm, s, m, args, below, meth, c, cells, slots, Q, D, tc, rfl, hx, hb, hml, hown, hts, hK, hfr, hlo, hce, hsl⟩ := C
  intro okσ okl ls H locs hl hH hA
  have k' := k okσ okl ls H locs hl hH hA
  unfold tgS at k'
  by_cases q : x < lo ∨ hi < x
  · rw [if_pos q] at k'
    exact lv_tableOut hx hb hd (by rw [toI_in hxi]; exact q) htd k'
  · rw [if_neg q] at k'
    have hlt : (x - lo).toNat < tg.length := by omega
    have hlen : offs.size = tg.length := by
      have := congrArg List.length htg
      simpa using this
    have hg : offs[(x - lo).toNat]? = some (offs[(x - lo).toNat]'(by omega)) := Array.getElem?_eq_getElem (by omega)
    refine lv_tableIn (off := offs[(x - lo).toNat]'(by omega)) hx hb hd (by rw [toI_in hxi]; omega) (by rw [toI_in hxi]; omega) (by rw [toI_in hxi]; exact hg) ?_ k'
    have h2 := congrArg (fun l => l[(x - lo).toNat]?) htg
    simp only [List.getElem?_map, Array.getElem?_toList, hg] at h2
    rw [List.getElem?_eq_getElem hlt] at h2
    rw [List.getD_eq_getElem?_getD, List.getElem?_eq_getElem hlt]
    simpa using h2
def tgK (tg : List (Int × Nat)) (td : Nat) (x : Int) : Nat := match tg with
  | [] => td
  | (a, t) :: r => if a = x then t else tgK r td x
theorem tgK_off {pc td : Nat} {dflt x : Int} (htd : (pc : Int) + dflt = (td : Int)) : ∀ (ps : List (Int × Int)) (tg : List (Int × Nat)), ps.map (fun q => (q.1, (pc : Int) + q.2)) = tg.map (fun q => (q.1, (q.2 : Int))) → (pc : Int) + Op.lookupswitch.offset ps dflt x = (tgK tg td x : Int)
  | [], [], _ => htd
  | [], _ :: _, h => by simp at h
  | _ :: _, [], h => by simp at h
  | (a, o) :: ps, (a', t) :: tg, h => by
    simp only [List.map_cons, List.cons.injEq, Prod.mk.injEq] at h
    obtain ⟨⟨rfl, h2⟩, h3⟩ := h
    rw [Op.lookupswitch.offset_cons]
    unfold tgK
    split
    · exact h2
    · exact tgK_off htd ps tg h3
theorem i_look (C : Ctx l b V cc own nL h) {x dflt : Int} {ps : Array (Int × Int)} {len td : Nat} {tg : List (Int × Nat)} (hd : decode cc pc = .ok (.lookupswitch dflt ps, len)) (hxi : inI x) (hp : (ps.toList.zip (ps.toList.drop 1)).all (fun (a, next) => a.1 < next.1) = true) (htd : (pc : Int) + dflt = (td : Int)) (htg : ps.toList.map (fun q => (q.1, (pc : Int) + q.2)) = tg.map (fun q => (q.1, (q.2 : Int)))) (k : V (tgK tg td x) Γ z st) : V pc Γ z (vI x :: st) := by
  obtain ⟨p, e, Rm, s, m, args, below, meth, c, cells, slots, Q, D, tc, rfl, hx, hb, hml, hown, hts, hK, hfr, hlo, hce, hsl⟩ := C
  intro okσ okl ls H locs hl hH hA
  exact lv_lookup hx hb hd hp rfl (by rw [toI_in hxi]; exact tgK_off htd _ _ htg) (k okσ okl ls H locs hl hH hA)
theorem i_sub (C : Ctx l b V cc own nL h) {Γ2 : GG} (hs : ∀ q ∈ Γ2, q ∈ Γ) (k : V pc Γ2 z st) : V pc Γ z st := by
  obtain ⟨p, e, Rm, s, m, args, below, meth, c, cells, slots, Q, D, tc, rfl, hx, hb, hml, hown, hts, hK, hfr, hlo, hce, hsl⟩ := C
  intro okσ okl ls H locs hl hH hA
  exact k okσ ⟨okl.1, okl.2.1, fun q hq => okl.2.2 q (hs q hq)⟩ ls H locs (lv_has_le hl (fun q hq => by
    obtain ⟨g, hg, rfl⟩ := List.mem_map.mp hq
    exact List.mem_map.mpr ⟨g, hs g hg, rfl⟩)) hH hA
theorem i_dead (C : Ctx l b V cc own nL h) {L2 : List Int} {R2 : List Nat} (h1 : L2.length = L.length) (h2 : R2.length = R.length) (hs : ∀ q ∈ Γ, L2.getD q.1 0 = L.getD q.1 0 ∧ R2.getD q.1 0 = R.getD q.1 0) (k : V pc Γ ((L2, R2, σ) : ZZ) st) : V pc Γ ((L, R, σ) : ZZ) st := by
  obtain ⟨p, e, Rm, s, m, args, below, meth, c, cells, slots, Q, D, tc, rfl, hx, hb, hml, hown, hts, hK, hfr, hlo, hce, hsl⟩ := C
  intro okσ okl ls H locs hl hH hA
  refine k okσ ⟨h1.trans okl.1, h2.trans okl.2.1, fun q hq => ?_⟩ ls H locs (lv_has_le hl (fun q hq => ?_)) hH hA
  · show rng q.2 (L2.getD q.1 0)
    rw [(hs q hq).1]
    exact okl.2.2 q hq
  · obtain ⟨g, hg, rfl⟩ := List.mem_map.mp hq
    refine List.mem_map.mpr ⟨g, hg, ?_⟩
    show (g.1, vK b g.2 (L.getD g.1 0) (R.getD g.1 0)) = (g.1, vK b g.2 (L2.getD g.1 0) (R2.getD g.1 0))
    rw [(hs g hg).1, (hs g hg).2]
end HEAP
/-- what a method does: its answer r, the state behind it -/
def retV (rk : Nat) (r : Int) : Option Value := match rk with
  | 1 => some (vL r)
  | 4 => none
  | _ => some (vI r)
def rmH (h : Nat) : Room := { frames := h, cells := 0, slots := 0, locals := 48 * h }
def Mpre (D : va_G) (tc : Nat → ClassId) (b : Nat) (σ : SS) (U : State) : Prop := okS σ ∧ va_K D vwCl (tysL tc) U ∧ NW U ∧ Hp D tc b σ U.heap
def Mt (l : Launch) (y : MethodName) (cc : ByteArray) (nL : Nat) (ret : Option FieldType) (h rk : Nat) (vs : Nat → List Value) (σ : SS) (r : Int) (σ' : SS) : Prop :=
  ∀ (D : va_G) (tc : Nat → ClassId) (b : Nat), Met l y (.code y cc nL ret :: gtb) (rmH h) (va_Pc (vs b) (Mpre D tc b σ)) (fun _ s0 o t => o = .returned (retV rk r) ∧ (rng rk r ∧ okS σ' ∧ Hp D tc b σ' t.heap) ∧ va_F (AA b) s0 t) 0 0 (AA b)
/-- the words of a method that calls use -/
def YW (y : MethodName) (cc : ByteArray) (nL : Nat) (ret : Option FieldType) (n : Nat) : Prop := Cond.code y cc nL ret ∈ gtb ∧ Cond.initialized y.cls ∈ gtb ∧ (y.cls ≠ "java/lang/invoke/MethodHandle" ∧ y.cls ≠ "java/lang/invoke/VarHandle" ∧ (parseMethodDescriptor y.desc).map (fun d => d.parameters.length) = some n) ∧ nL ≤ 29
section CALL
variable {l : Launch} {b : Nat} {V : VV} {cc : ByteArray} {own : String} {nL h pc : Nat} {Γ : GG} {L : List Int} {R : List Nat} {σ : SS} {st : List Value}
theorem gtb_in {y : MethodName} {cy : ByteArray} {nLy : Nat} {ret : Option FieldType} (hc : Cond.code y cy nLy ret ∈ gtb) : GoodIn gtb (Cond.code y cy nLy ret :: gtb) := by
  intro w hw
  have hm : w ∈ gtb := by
    rcases List.mem_cons.mp hw with rfl | h
    · exact hc
    · exact h
  exact ⟨hm, good_of_word (List.mem_filter.mp hm).2⟩
theorem Mpre_blind {D : va_G} {tc : Nat → ClassId} {σ : SS} {vs : List Value} : FrameBlind (va_Pc vs (Mpre D tc b σ)) := by
  intro a U g mk q
  obtain ⟨q0, q1, q2, q3, q4⟩ := q
  exact ⟨q0, q1, va_K.moved (u := U) (U := U.calling g mk a) (Vm.Alike.refl U.vm) q2, q3.calling, q4⟩
theorem i_callV (C : Ctx l b V cc own nL h) {y : MethodName} {cy : ByteArray} {nLy hy rk n a ci index : Nat} {ret : Option FieldType} {vs : Nat → List Value} {As : List Value} {r : Int} {σ' : SS} {q : vw_C} (hM : Mt l y cy nLy ret hy rk vs σ r σ') (hY : YW y cy nLy ret n) (hI : Cond.instanceMethod y ∈ gtb ∧ Cond.selects y.cls y y ∈ gtb) (hl1 : Cond.methodLink own index y ∈ gtb)
    (hh : hy + 1 ≤ h) (hvs : vs b = .ref (b + a) :: As) (hn : As.length = n) (h1 : (sh a).1 = 1) (h2 : (sh a).2.1 = ci) (hq : vwCl[ci]? = some q) (hqy : q.1 = y.cls) (hst : (st.map fun v => v.category).sum ≤ 8) (hd : decode cc pc = .ok (.invokevirtual index, 3))
    (kk : rng rk r → V (pc + 3) Γ ((L, R, σ') : ZZ) ((retV rk r).toList ++ st)) : V pc Γ ((L, R, σ) : ZZ) (As.reverse ++ .ref (b + a) :: st) := by
  obtain ⟨p, e, Rm, s, m, args, below, meth, c, cells, slots, Q, D, tc, rfl, hx, hb, hml, hown, hts, hK, hfr, hlo, hce, hsl⟩ := C
  intro okσ okl ls H locs hl hH hA
  have hM := hM D tc b
  rw [hvs] at hM
  have cb : CallB Rm s args own index y cy nLy ret (Cond.code y cy nLy ret :: gtb) (rmH hy) 0 0 n :=
    callB_of n hts (gtb_in hY.1) rfl rfl rfl (hts _ hY.2.1) (hts _ hl1) hY.2.2.1 ⟨by show hy + 1 ≤ _; have := hfr.1; omega, by have := hY.2.2.2; show 8 + (nLy + 11) + 48 * hy ≤ _; omega⟩
  have hrecv := va_recv hK (va_P1 (hH a _ (cE_obj h1 h2))) (q0 := 0) hq rfl
  rw [hqy] at hrecv
  have hr := va_runV (As := As) (rest := st) (locs := locs) (cells := cells) (slots := slots) (g := F0 m pc ls (As.reverse ++ .ref (b + a) :: st)) (e := e) (below := below) (meth := meth) (b := b + a) (H := H) ⟨hx, hb, hml, hown, hts⟩ hM ⟨cb, hts _ hI.1, hts _ hI.2⟩ ⟨Mpre_blind, hrecv, fun U hU hW => ⟨rfl, okσ, va_K.moved hW.alike hK, hfr.2.warm hW, by rw [hU]; exact hH⟩⟩ rfl hn hl.1 rfl (by show 2 * 0 + _ ≤ 8; omega) hd ⟨hce, hsl⟩
  intro T hT X
  obtain ⟨v, st₀, t, T', Lc, h0, X', hLc, e1, e2, ⟨hv, ⟨hrr, okσ', hH'⟩, hz, hk⟩, stp⟩ := hr T hT X
  cases hv
  rw [h0] at hz hk
  have hA' : va_S (AA b) s.heap T'.heap (locs ++ Lc) := ⟨Nat.le_trans hA.1 (by rw [e1]; exact hz), fun q h1 h2 => by rw [e1, hk q (Nat.lt_of_lt_of_le h1 hA.1) h2]; exact hA.2.1 q h1 h2, fun q hq => by
      rcases List.mem_append.mp hq with h | h
      · exact hA.2.2 q h
      · exact hLc q h⟩
  obtain ⟨t2, a1, b1⟩ := kk hrr okσ' okl ls T'.heap (locs ++ Lc) hl (by rw [e1]; exact hH') hA' T' rfl X'
  exact ⟨t2, stp t2 a1, b1⟩
theorem i_callS (C : Ctx l b V cc own nL h) {y : MethodName} {cy : ByteArray} {nLy hy rk n index : Nat} {ret : Option FieldType} {vs : Nat → List Value} {As : List Value} {r : Int} {σ' : SS} (hM : Mt l y cy nLy ret hy rk vs σ r σ') (hY : YW y cy nLy ret n) (hI : Cond.static y ∈ gtb) (hl1 : Cond.methodLink own index y ∈ gtb)
    (hh : hy + 1 ≤ h) (hvs : vs b = As) (hn : As.length = n) (hst : (st.map fun v => v.category).sum ≤ 8) (hd : decode cc pc = .ok (.invokestatic index, 3))
    (kk : rng rk r → V (pc + 3) Γ ((L, R, σ') : ZZ) ((retV rk r).toList ++ st)) : V pc Γ ((L, R, σ) : ZZ) (As.reverse ++ st) := by
  obtain ⟨p, e, Rm, s, m, args, below, meth, c, cells, slots, Q, D, tc, rfl, hx, hb, hml, hown, hts, hK, hfr, hlo, hce, hsl⟩ := C
  intro okσ okl ls H locs hl hH hA
  have hM := hM D tc b
  rw [hvs] at hM
  have cb : CallB Rm s args own index y cy nLy ret (Cond.code y cy nLy ret :: gtb) (rmH hy) 0 0 n :=
    callB_of n hts (gtb_in hY.1) rfl rfl rfl (hts _ hY.2.1) (hts _ hl1) hY.2.2.1 ⟨by show hy + 1 ≤ _; have := hfr.1; omega, by have := hY.2.2.2; show 8 + (nLy + 11) + 48 * hy ≤ _; omega⟩
  have hr := va_runS (As := As) (rest := st) (locs := locs) (cells := cells) (slots := slots) (g := F0 m pc ls (As.reverse ++ st)) (e := e) (below := below) (meth := meth) (H := H) ⟨hx, hb, hml, hown, hts⟩ hM ⟨cb, hts _ hI⟩ ⟨Mpre_blind, fun U hU hW => ⟨rfl, okσ, va_K.moved hW.alike hK, hfr.2.warm hW, by rw [hU]; exact hH⟩⟩ rfl hn hl.1 rfl (by show 2 * 0 + _ ≤ 8; omega) hd ⟨hce, hsl⟩
  intro T hT X
  obtain ⟨v, st₀, t, T', Lc, h0, X', hLc, e1, e2, ⟨hv, ⟨hrr, okσ', hH'⟩, hz, hk⟩, stp⟩ := hr T hT X
  cases hv
  rw [h0] at hz hk
  have hA' : va_S (AA b) s.heap T'.heap (locs ++ Lc) := ⟨Nat.le_trans hA.1 (by rw [e1]; exact hz), fun q h1 h2 => by rw [e1, hk q (Nat.lt_of_lt_of_le h1 hA.1) h2]; exact hA.2.1 q h1 h2, fun q hq => by
      rcases List.mem_append.mp hq with h | h
      · exact hA.2.2 q h
      · exact hLc q h⟩
  obtain ⟨t2, a1, b1⟩ := kk hrr okσ' okl ls T'.heap (locs ++ Lc) hl (by rw [e1]; exact hH') hA' T' rfl X'
  exact ⟨t2, stp t2 a1, b1⟩
theorem i_callSN (C : Ctx l b V cc own nL h) {y : MethodName} {cy : ByteArray} {nLy hy rk n index : Nat} {ret : Option FieldType} {vs : Nat → List Value} {As : List Value} {r : Int} {σ' : SS} (hM : Mt l y cy nLy ret hy rk vs σ r σ') (hY : YW y cy nLy ret n) (hI : Cond.static y ∈ gtb) (hl1 : ∃ q ∈ nestL, q.1 = own ∧ q.2.1 = index ∧ q.2.2.1 = y)
    (hh : hy + 1 ≤ h) (hvs : vs b = As) (hn : As.length = n) (hst : (st.map fun v => v.category).sum ≤ 8) (hd : decode cc pc = .ok (.invokestatic index, 3))
    (kk : rng rk r → V (pc + 3) Γ ((L, R, σ') : ZZ) ((retV rk r).toList ++ st)) : V pc Γ ((L, R, σ) : ZZ) (As.reverse ++ st) := by
  obtain ⟨p, e, Rm, s, m, args, below, meth, c, cells, slots, Q, D, tc, rfl, hx, hb, hml, hown, hts, hK, hfr, hlo, hce, hsl⟩ := C
  intro okσ okl ls H locs hl hH hA
  have hM := hM D tc b
  rw [hvs] at hM
  obtain ⟨qn, hqn, qn1, qn2, qn3⟩ := hl1
  have hz := hfr.2 qn hqn
  rw [qn1, qn2, qn3] at hz
  have cb : va_CN Rm s args own index y qn.2.2.2 cy nLy ret (Cond.code y cy nLy ret :: gtb) (rmH hy) 0 0 n :=
    va_cnB n hts (gtb_in hY.1) rfl rfl rfl hz (hts _ hY.2.1) hY.2.2.1 ⟨by show hy + 1 ≤ _; have := hfr.1; omega, by have := hY.2.2.2; show 8 + (nLy + 11) + 48 * hy ≤ _; omega⟩
  have hr := va_runSN (As := As) (rest := st) (locs := locs) (cells := cells) (slots := slots) (g := F0 m pc ls (As.reverse ++ st)) (e := e) (below := below) (meth := meth) (H := H) ⟨hx, hb, hml, hown, hts⟩ hM ⟨cb, hts _ hI, trivial⟩ ⟨Mpre_blind, fun U hU hW => ⟨rfl, okσ, va_K.moved hW.alike hK, hfr.2.warm hW, by rw [hU]; exact hH⟩⟩ rfl hn hl.1 rfl (by show 2 * 0 + _ ≤ 8; omega) hd ⟨hce, hsl⟩
  intro T hT X
  obtain ⟨v, st₀, t, T', Lc, h0, X', hLc, e1, e2, ⟨hv, ⟨hrr, okσ', hH'⟩, hz, hk⟩, stp⟩ := hr T hT X
  cases hv
  rw [h0] at hz hk
  have hA' : va_S (AA b) s.heap T'.heap (locs ++ Lc) := ⟨Nat.le_trans hA.1 (by rw [e1]; exact hz), fun q h1 h2 => by rw [e1, hk q (Nat.lt_of_lt_of_le h1 hA.1) h2]; exact hA.2.1 q h1 h2, fun q hq => by
      rcases List.mem_append.mp hq with h | h
      · exact hA.2.2 q h
      · exact hLc q h⟩
  obtain ⟨t2, a1, b1⟩ := kk hrr okσ' okl ls T'.heap (locs ++ Lc) hl (by rw [e1]; exact hH') hA' T' rfl X'
  exact ⟨t2, stp t2 a1, b1⟩
end CALL
/-- the ways out of a method: where the answer is the owed one -/
def RetI (V : VV) (cc : ByteArray) (rk : Nat) (r : Int) (σ' : SS) : Prop :=
  (∀ (pc : Nat) (Γ : GG) (L : List Int) (R : List Nat), (rk = 0 ∨ (rk = 3 ∧ (r = 0 ∨ r = 1))) → inI r → decode cc pc = .ok (.ireturn, 1) → V pc Γ ((L, R, σ') : ZZ) [vI r]) ∧
  (∀ (pc : Nat) (Γ : GG) (L : List Int) (R : List Nat), rk = 1 → inL r → decode cc pc = .ok (.lreturn, 1) → V pc Γ ((L, R, σ') : ZZ) [vL r]) ∧
  (∀ (pc : Nat) (Γ : GG) (L : List Int) (R : List Nat), rk = 4 → r = 0 → decode cc pc = .ok (.return_, 1) → V pc Γ ((L, R, σ') : ZZ) [])
theorem Mt_of {l : Launch} {y : MethodName} {cc : ByteArray} {nL h rk : Nat} {ret : Option FieldType} {vs : Nat → List Value} {σ σ' : SS} {r : Int} {own : String} {Γ0 : GG} {L0 : List Int} {R0 : List Nat} (hy : plainName y.cls = true) (hyc : y.cls = own) (hret : ret = (match rk with | 0 => some .int | 1 => some .long | 3 => some .boolean | _ => none)) (hrk : rk = 0 ∨ rk = 1 ∨ rk = 3 ∨ rk = 4)
    (hvs : ∀ b, lv_args 0 (vs b) = lvG b Γ0 ((L0, R0, σ) : ZZ)) (hlen : ∀ b, (lg_sl (vs b)).length ≤ nL) (hok : okL nL Γ0 ((L0, R0, σ) : ZZ))
    (body : ∀ (b : Nat) (V : VV), Ctx l b V cc own nL h → RetI V cc rk r σ' → V 0 Γ0 ((L0, R0, σ) : ZZ) []) : Mt l y cc nL ret h rk vs σ r σ' := by
  intro D tc b
  refine Met.ofW (cc := cc) (maxL := nL) (ret := ret) hy rfl ?_
  intro p e s m args below meth c s₁ B hml hv
  obtain ⟨rfl, okσ, hK, hNW, hH⟩ := hv
  have hx := B.exec
  have hb := B.bytes
  have hr := B.returns
  have hts0 := atoms_spec (ws := Cond.code y cc nL ret :: gtb) B.pre
  have hts : ∀ w ∈ gtb, w.before (vs b).toArray s = true := fun w hw => hts0 w (List.mem_cons_of_mem _ hw)
  have hown : s.vm.findClass own = some m.cls := hyc ▸ findClass_of_methodNamed B.named
  have hlocks := B.notSynchronized
  have hl := lv_entry (vs b) (n := nL) (hlen b)
  rw [lg_entry_eq]
  generalize (lg_sl (vs b) ++ List.replicate (nL - (lg_sl (vs b)).length) Slot.unset).toArray = ls at hl ⊢
  rw [hvs b] at hl
  refine body b _ ⟨p, e, (headSpec (Cond.code y cc nL ret :: gtb) (rmH h)).room, s, m, (vs b).toArray, below, meth, c, 0, 0, MQ below _ _ s 0 0 (AA b), D, tc, rfl, hx, hb, hml, hown, hts, hK, ⟨Nat.le_refl _, hNW⟩, Nat.le_refl _, Nat.le_refl _, Nat.le_refl _⟩ ⟨?_, ?_, ?_⟩ okσ hok ls s.heap [] hl hH va_S.rf
  · intro pc Γ L R hk hir hd okσ' okl' ls' H' locs' hl' hH' hA'
    rcases hk with rfl | ⟨rfl, hr01⟩
    · exact W.iret (v := Int32.ofInt r) hx hb (hr.trans hret) (fun t ht hW => ⟨rfl, ⟨hir, okσ', by rw [ht]; exact hH'⟩, hA'.F ht⟩) hA'.2.2 hd
    · exact W.zret (v := Int32.ofInt r) (ty := .boolean) hx hb (hr.trans hret) (by rcases hr01 with rfl | rfl <;> decide +kernel) (fun t ht hW => ⟨rfl, ⟨hir, okσ', by rw [ht]; exact hH'⟩, hA'.F ht⟩) hA'.2.2 hd
  · intro pc Γ L R hk hir hd okσ' okl' ls' H' locs' hl' hH' hA'
    subst hk
    exact W.lret (v := Int64.ofInt r) hx hb (hr.trans hret) (fun t ht hW => ⟨rfl, ⟨hir, okσ', by rw [ht]; exact hH'⟩, hA'.F ht⟩) hA'.2.2 hd
  · intro pc Γ L R hk hr0 hd okσ' okl' ls' H' locs' hl' hH' hA'
    subst hk
    subst hr0
    exact W.vret hx hb (hr.trans hret) (fun t ht hW => ⟨rfl, ⟨inI_0, okσ', by rw [ht]; exact hH'⟩, hA'.F ht⟩) hA'.2.2 hd
