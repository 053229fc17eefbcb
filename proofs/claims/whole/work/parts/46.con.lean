/-! references written and read while the objects are made -/
section CON2
variable {l : Launch} {b : Nat} {V : V2} {cc : ByteArray} {own : String} {nL h N0 N1 pc : Nat} {Γ : GG} {L : List Int} {R : List Nat} {σ : SS} {ρ : PP} {N : Nat} {st : List Value}
theorem cE2_obj {tc : Nat → ClassId} {a ci : Nat} (h1 : (sh a).1 = 1) (h2 : (sh a).2.1 = ci) : cE2 tc b σ ρ a = some (.inr (ci, (fkX ci).mapIdx fun k kd => if kd = 2 then rv b (ρ a k) else vK b kd (σ a k) 0)) := by
  unfold cE2
  rw [if_pos h1, h2]
theorem cE2_ref {tc : Nat → ClassId} {a t : Nat} (h1 : (sh a).1 = 6) (h2 : (sh a).2.1 = t) : cE2 tc b σ ρ a = some (.inl (tc t, (sh a).2.2, .inr (.inr (.inr (.inr fun j => (ρ a j).map fun r => b + r))))) := by
  unfold cE2
  rw [if_neg (by rw [h1]; decide), if_pos h1, h2]
theorem fs2_at {ci k a : Nat} (h : (fkX ci)[k]? = some 2) : ((fkX ci).mapIdx fun k kd => if kd = 2 then rv b (ρ a k) else vK b kd (σ a k) 0)[k]? = some (rv b (ρ a k)) := by
  rw [List.getElem?_mapIdx, h]
  rfl
theorem fs2_setR {ci k a : Nat} {v : Option Nat} (h : (fkX ci)[k]? = some 2) : ((fkX ci).mapIdx fun j kd => if kd = 2 then rv b (upr ρ a k v a j) else vK b kd (σ a j) 0) = ((fkX ci).mapIdx fun j kd => if kd = 2 then rv b (ρ a j) else vK b kd (σ a j) 0).set k (rv b v) := by
  apply List.ext_getElem?
  intro j
  rw [List.getElem?_mapIdx]
  by_cases hj : j = k
  · subst hj
    rw [h, List.getElem?_set_self (by rw [List.length_mapIdx]; exact (List.getElem?_eq_some_iff.mp h).1)]
    simp [upr_same]
  · rw [List.getElem?_set_ne (fun q => hj q.symm), List.getElem?_mapIdx]
    simp [upr_same, hj]
theorem fs2_setI {ci k kn a : Nat} {x : Int} (h : (fkX ci)[k]? = some kn) (hk : kn ≠ 2) : ((fkX ci).mapIdx fun j kd => if kd = 2 then rv b (ρ a j) else vK b kd (ups σ a k x a j) 0) = ((fkX ci).mapIdx fun j kd => if kd = 2 then rv b (ρ a j) else vK b kd (σ a j) 0).set k (vK b kn x 0) := by
  apply List.ext_getElem?
  intro j
  rw [List.getElem?_mapIdx]
  by_cases hj : j = k
  · subst hj
    rw [h, List.getElem?_set_self (by rw [List.length_mapIdx]; exact (List.getElem?_eq_some_iff.mp h).1)]
    simp [ups_same, hk]
  · rw [List.getElem?_set_ne (fun q => hj q.symm), List.getElem?_mapIdx]
    simp [ups_same, hj]
/-- a final field of a reference, written in a constructor -/
def FR (own : String) (index ci k : Nat) : Prop := ∃ (Cn : String) (T : u_T) (Nf : Nat) (ty : Nat → FieldType), vwCl[ci]? = some (Cn, T, Nf) ∧ k < Nf ∧ (∀ w ∈ u_ws Cn T Nf, w ∈ gtb) ∧ Cond.fieldLink own index (T k).1 (T k).2.1 (T k).2.2.1 ∈ gtb ∧ (fkX ci)[k]? = some 2 ∧ (fkX ci).length = Nf ∧
  (∀ k, k < Nf → parseFieldDescriptor (T k).2.2.1 = some (ty k)) ∧ (∀ a, a < Nf → ∀ b, b < Nf → a ≠ b → (T a).2.1 ≠ (T b).2.1) ∧ (T k).2.2.2 = true ∧ (T k).1 = own ∧ ((∃ n, ty k = .object n) ∨ ∃ t, ty k = .array t)
theorem j_getR (C : Ctx2 l b V cc own nL h N0 N1) {a ci k index r : Nat} (hf : FL own index ci k 2) (h1 : (sh a).1 = 1) (h2 : (sh a).2.1 = ci) (ha : a < N) (hr : ρ a k = some r) (hd : decode cc pc = .ok (.getfield index, 3)) (kk : V (pc + 3) Γ ((L, R, σ, ρ, N) : Z2) (.ref (b + r) :: st)) : V pc Γ ((L, R, σ, ρ, N) : Z2) (.ref (b + a) :: st) := by
  obtain ⟨p, e, Rm, s, m, args, below, meth, c, Q, D, tc, rfl, hx, hb, hml, hown, hts, hK, hE, hfr, hlo, hce, hsl, hbs⟩ := C
  intro okσ okl hN ls H locs hl hH hA
  obtain ⟨Cn, T, Nf, hc, hk, hin, hlink, hkn⟩ := hf
  have hP := va_P1 (hH.2 a _ ha (cE2_obj h1 h2))
  have hv := fs2_at (b := b) (ρ := ρ) (σ := σ) (a := a) hkn
  rw [hr] at hv
  exact va_get hx hb hts hin hown hK hP 0 rfl hc k hk (hts _ hlink) (fun x hx => hx) hv hd (kk okσ okl hN ls H locs hl hH hA)
theorem j_putI (C : Ctx2 l b V cc own nL h N0 N1) {a ci k kn index : Nat} {x : Int} (hp : PL own index ci k kn) (h1 : (sh a).1 = 1) (h2 : (sh a).2.1 = ci) (ha : a < N) (hkx : kn = 0 ∨ kn = 1 ∨ (kn = 3 ∧ (x = 0 ∨ x = 1))) (hr : rng kn x) (hd : decode cc pc = .ok (.putfield index, 3)) (kk : V (pc + 3) Γ ((L, R, ups σ a k x, ρ, N) : Z2) st) : V pc Γ ((L, R, σ, ρ, N) : Z2) (vK b kn x 0 :: .ref (b + a) :: st) := by
  obtain ⟨p, e, Rm, s, m, args, below, meth, c, Q, D, tc, rfl, hx, hb, hml, hown, hts, hK, hE, hfr, hlo, hce, hsl, hbs⟩ := C
  intro okσ okl hN ls H locs hl hH hA
  obtain ⟨Cn, T, Nf, ty, hc, hk, hin, hlink, hkn, hlen, hty, hnm, hfin, htyk⟩ := hp
  have hcell := hH.2 a _ ha (cE2_obj h1 h2)
  obtain ⟨r, hr1, cell, q1, q2, q3, q4⟩ := hcell
  have hre : r = (Cn, T, Nf) := Option.some.inj (hr1.symm.trans hc)
  subst hre
  have hap := va_apart (own := own) hts hin ty hty hnm hK hc
  obtain ⟨hS, hfc, kC, hkC, hkind⟩ := hK.1 _ _ hc
  obtain ⟨cf, kf, fi, f, hi, hsl2⟩ := hS k hk
  have hlay := hts _ (hin _ (u_in_lay hk))
  unfold u_lay at hlay
  rw [if_neg (by rw [hfin]; decide)] at hlay
  have hst := (u_facts hfc hkC (u_lays hts hin hk) hi).1
  have hk2 : kn ≠ 2 := by
    rcases hkx with rfl | rfl | ⟨rfl, -⟩ <;> decide
  have hnf : narrow (ty k) (vK b kn x 0) = vK b kn x 0 ∧ fits (ty k) (vK b kn x 0) = true := by
    rw [htyk]
    rcases hkx with rfl | rfl | ⟨rfl, rfl | rfl⟩
    · exact ⟨rfl, rfl⟩
    · exact ⟨rfl, rfl⟩
    · exact ⟨show narrow FieldType.boolean (vI 0) = vI 0 by decide +kernel, show fits FieldType.boolean (vI 0) = true by decide +kernel⟩
    · exact ⟨show narrow FieldType.boolean (vI 1) = vI 1 by decide +kernel, show fits FieldType.boolean (vI 1) = true by decide +kernel⟩
  have h6 := u_store hfc hkC hkind hlay hi (hty k hk) hnf.1 hnf.2
  refine W.putK hx hb (f := f) ⟨hown, hts _ hlink, ⟨_, _, _, hi⟩, hst⟩ (by rw [q2]; exact h6) q1 q3 (by rw [hsl2]; exact k2_hasslot (q4 k hk)) rfl rfl hd fun H' e1 e2 e3 => ?_
  rw [hsl2] at e1 ⊢
  have hkd : kd a k = kn := by
    unfold kd
    rw [h1, h2]
    show (fkX ci).getD k 0 = kn
    rw [List.getD_eq_getElem?_getD, hkn]
    rfl
  refine kk (okS_upd okσ (by rw [hkd]; exact hr)) okl hN ls H' _ hl (Hp2_upd hH (fun a' ha' => ⟨ups_ne ha', rfl⟩) ?_ e2 e3) (hA.put e2 e3 (Nat.le_add_right _ _))
  intro e' he'
  rw [cE2_obj h1 h2, fs2_setI hkn hk2] at he'
  cases he'
  exact ⟨_, hc, t_OB.to (V := updV (vp_V ((fkX ci).mapIdx fun j kd => if kd = 2 then rv b (ρ a j) else vK b kd (σ a j) 0)) k (vK b kn x 0)) ⟨_, e1, q2, q3, t_set q4 hap hk _⟩ (fun j _ => vp_updV_set (by rw [List.length_mapIdx, hlen]; exact hk) _ j)⟩
theorem j_putR (C : Ctx2 l b V cc own nL h N0 N1) {a ci k index r : Nat} (hp : FR own index ci k) (h1 : (sh a).1 = 1) (h2 : (sh a).2.1 = ci) (ha : a < N) (hrl : own ≠ RL) (hd : decode cc pc = .ok (.putfield index, 3)) (kk : V (pc + 3) Γ ((L, R, σ, upr ρ a k (some r), N) : Z2) st) : V pc Γ ((L, R, σ, ρ, N) : Z2) (.ref (b + r) :: .ref (b + a) :: st) := by
  obtain ⟨p, e, Rm, s, m, args, below, meth, c, Q, D, tc, rfl, hx, hb, hml, hown, hts, hK, hE, hfr, hlo, hce, hsl, hbs⟩ := C
  intro okσ okl hN ls H locs hl hH hA
  obtain ⟨Cn, T, Nf, ty, hc, hk, hin, hlink, hkn, hlen, hty, hnm, hfin, hdecl, hrt⟩ := hp
  obtain ⟨hbs, hinm, -⟩ := hbs
  have hinm : meth.name = "<init>" := hinm.resolve_right hrl
  have hcell := hH.2 a _ ha (cE2_obj h1 h2)
  obtain ⟨r', hr1, cell, q1, q2, q3, q4⟩ := hcell
  have hre : r' = (Cn, T, Nf) := Option.some.inj (hr1.symm.trans hc)
  subst hre
  have hap := va_apart (own := own) hts hin ty hty hnm hK hc
  obtain ⟨hS, hfc, kC, hkC, hkind⟩ := hK.1 _ _ hc
  obtain ⟨cf, kf, fi, f, hi, hsl2⟩ := hS k hk
  have hlay := hts _ (hin _ (u_in_lay hk))
  unfold u_lay at hlay
  rw [if_pos hfin] at hlay
  have hst := (u_facts hfc hkC (u_lays hts hin hk) hi).1
  have hcf : m.cls = cf := by
    obtain ⟨_, _, c', _, _, _, -, -, hf', -, -, -, hown2, -⟩ := Cond.laysFinal_spec hlay
    have e1 : c' = cf := by have := hi.symm.trans hf'; simp at this; exact this.1.symm
    rw [hdecl] at hown2
    rw [← e1]; exact Option.some.inj (hown.symm.trans hown2)
  have hnf : narrow (ty k) (.ref (b + r)) = .ref (b + r) ∧ fits (ty k) (.ref (b + r)) = true := by
    rcases hrt with ⟨n, hn⟩ | ⟨t, hn⟩ <;> rw [hn] <;> exact ⟨rfl, rfl⟩
  have h6 := u_fits hfc hkC hkind (Or.inr hlay) hi (hty k hk) hnf.1 hnf.2
  refine W.putFinK hx hb hown (hts _ hlink) hi hst hcf hinm (by rw [q2]; exact h6) q1 q3 (by rw [hsl2]; exact k2_hasslot (q4 k hk)) rfl rfl hd fun H' e1 e2 e3 => ?_
  rw [hsl2] at e1 ⊢
  refine kk okσ okl hN ls H' _ hl (Hp2_upd hH (fun a' ha' => ⟨rfl, upr_ne ha'⟩) ?_ e2 e3) (hA.put e2 e3 (Nat.le_add_right _ _))
  intro e' he'
  rw [cE2_obj h1 h2, fs2_setR hkn] at he'
  cases he'
  exact ⟨_, hc, t_OB.to (V := updV (vp_V ((fkX ci).mapIdx fun j kd => if kd = 2 then rv b (ρ a j) else vK b kd (σ a j) 0)) k (rv b (some r))) ⟨_, e1, q2, q3, t_set q4 hap hk _⟩ (fun j _ => vp_updV_set (by rw [List.length_mapIdx, hlen]; exact hk) _ j)⟩
theorem j_anew (C : Ctx2 l b V cc own nL h N0 N1) {n : Int} {t index : Nat} {Cn : String} (hl1 : Cond.classLink own index Cn ∈ gtb) (ht : ∀ tc, (tysL tc)[t]? = some (tc t, .object Cn)) (hAO : ∀ tc U, Ext tc U → va_AO Cn U) (h1 : (sh N).1 = 6) (h2 : ((sh N).2.2 : Int) = n) (h3 : (sh N).2.1 = t) (hn : 0 ≤ n ∧ n < 3000) (hN1 : N + 1 ≤ N1) (hd : decode cc pc = .ok (.anewarray index, 3)) (k : V (pc + 3) Γ ((L, R, upA σ N (fun _ => 0), upP ρ N (fun _ => none), N + 1) : Z2) (.ref (b + N) :: st)) : V pc Γ ((L, R, σ, ρ, N) : Z2) (vI n :: st) := by
  obtain ⟨p, e, Rm, s, m, args, below, meth, c, Q, D, tc, rfl, hx, hb, hml, hown, hts, hK, hE, hfr, hlo, hce, hsl, hbs⟩ := C
  intro okσ okl hN ls H locs hl hH hA
  have hsz : H.size = b + N := hH.1
  have hN : N0 ≤ N := hN
  have hni : inI n := by unfold inI; omega
  have m1 := szN_mono hN1
  have m2 := szN_mono hN
  have e1 : szc N = n.toNat := by unfold szc; rw [if_neg (by rw [h1]; decide)]; omega
  have e2 : szN (N + 1) = szN N + n.toNat := by show szN N + szc N = _; rw [e1]
  have hcl : (Int32.ofInt n).toNatClampNeg = n.toNat := ofI_cl hni
  refine W.anew hx hb hown (hts _ hl1) (va_AO.use (hAO tc s hE)) rfl hd rfl (by rw [ofI_0, ofI_lt hni inI_0]; omega) (by rw [hcl]; omega) (by show N - N0 + 1 ≤ _; omega) (by rw [hcl]; show szN N - szN N0 + n.toNat ≤ _; omega) (fun cA kA comp f1 f2 f3 f4 => ?_)
  have c1 : N - N0 + 1 = N + 1 - N0 := by omega
  have c2 : szN N - szN N0 + n.toNat = szN (N + 1) - szN N0 := by omega
  show W _ _ _ _ _ _ _ _ _ _ _ _ (N - N0 + 1) (szN N - szN N0 + (Int32.ofInt n).toNatClampNeg) _ (F0 m (pc + 3) ls (.ref H.size :: st))
  rw [hcl, c1, c2, hsz]
  obtain ⟨kA', comp', g1, g2, g3, g4⟩ := (hK.2 t _ (ht tc)).2
  have eA : cA = tc t := Option.some.inj (f1.symm.trans g4)
  subst eA
  rw [arrV_new]
  generalize hH1 : H.push (arrV (tc t) n.toNat (fun _ => Value.null)) = H1
  have z1 : H1.size = H.size + 1 := by rw [← hH1, Array.size_push]
  have g1 : H1[H.size]? = some (arrV (tc t) n.toNat (fun _ => Value.null)) := by rw [← hH1, Array.getElem?_push_size]
  have o1 : ∀ q : Nat, q < H.size → H1[q]? = H[q]? := fun q hq => by rw [← hH1, Array.getElem?_push, if_neg (Nat.ne_of_lt hq)]
  refine k (okS_clr okσ) okl (Nat.le_succ_of_le hN) ls H1 locs hl (Hp2_new hH (fun a' ha => ⟨upA_ne ha, upP_ne ha⟩) (fun e' he' => ?_) z1 o1) ⟨Nat.le_trans hA.1 (by omega), fun q q1 q2 => (o1 q (Nat.lt_of_lt_of_le q1 hA.1)).trans (hA.2.1 q q1 q2), hA.2.2⟩
  rw [cE2_ref h1 h3] at he'
  cases he'
  rw [hsz] at g1
  show H1[b + N]? = some (vp_cell _ _)
  have e9 : (sh N).2.2 = n.toNat := by omega
  rw [g1, vp_cell_q]
  simp only [upP_same, e9]
  rfl
theorem j_aast (C : Ctx2 l b V cc own nL h N0 N1) {a v t ci : Nat} {i : Int} {r : vw_C} (ha : (sh a).1 = 6) (ha2 : (sh a).2.1 = t) (haN : a < N) (hv1 : (sh v).1 = 1) (hv2 : (sh v).2.1 = ci) (hvN : v < N) (hc : vwCl[ci]? = some r) (ht : ∀ tc, (tysL tc)[t]? = some (tc t, .object r.1)) (hi : inI i) (h0 : 0 ≤ i) (h1 : i < (sh a).2.2) (hd : decode cc pc = .ok (.aastore, 1)) (kk : V (pc + 1) Γ ((L, R, σ, upr ρ a i.toNat (some v), N) : Z2) st) : V pc Γ ((L, R, σ, ρ, N) : Z2) (.ref (b + v) :: vI i :: .ref (b + a) :: st) := by
  obtain ⟨p, e, Rm, s, m, args, below, meth, c, Q, D, tc, rfl, hx, hb, hml, hown, hts, hK, hE, hfr, hlo, hce, hsl, hbs⟩ := C
  intro okσ okl hN ls H locs hl hH hA
  have hP := hH.2 a _ haN (cE2_ref ha ha2)
  have hin := ofI_vin hi h0 h1
  have hlt : (Int32.ofInt i).toNatClampNeg < (sh a).2.2 := Nat.not_le.mp fun q => hin (Or.inr q)
  have hi0 : ¬ Int32.ofInt i < 0 := fun q => hin (Or.inl q)
  obtain ⟨r', hr', cellV, g1, g2, g3, -⟩ := hH.2 v _ hvN (cE2_obj hv1 hv2)
  have hcls := (hK.1 ci r hc).2
  obtain ⟨kA, comp, k1, k2, k3, -⟩ := (hK.2 t _ (ht tc)).2
  have hcomp : comp = D.1 ci := Option.some.inj (k3.symm.trans hcls.1)
  subst hcomp
  obtain ⟨kC, hkC, -⟩ := hcls.2
  refine W.aast hx hb hP (fun q h => by cases h) (fun h => by cases h) k1 k2 rfl hkC ⟨hi0, by show _ < (arrV _ _ _).slots.size; rw [arrV_size]; exact hlt⟩ g1 (fun q h => by rw [g3] at h; cases h) (by rw [g2]; exact hkC) (by rw [g2]; exact va_assign hcls) rfl rfl hd fun H1 e1 z1 oq => ?_
  refine kk okσ okl hN ls H1 _ hl (Hp2_upd hH (fun a' ha' => ⟨rfl, upr_ne ha'⟩) ?_ z1 oq) (hA.put z1 oq (Nat.le_add_right _ _))
  intro e' he'
  rw [cE2_ref ha ha2] at he'
  cases he'
  show H1[b + a]? = some (vp_cell _ _)
  rw [e1, ofI_cl hi]
  show some ((vp_cell (tc t) ((sh a).2.2, .inr (.inr (.inr (.inr fun j => (ρ a j).map fun r => b + r))))).setSlot _ _) = _
  rw [vp_cell_q, vp_cell_q, arrV_store]
  congr 2
  funext q
  by_cases hq : q = i.toNat
  · subst hq
    simp [updV, upr_same, va_rf]
  · simp [updV, upr_same, hq]
end CON2
