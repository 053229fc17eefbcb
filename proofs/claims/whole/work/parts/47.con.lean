/-! constructors: contract, call, start and end -/
def rm2 (h N0 N1 : Nat) : Room := { frames := h, cells := N1 - N0, slots := szN N1 - szN N0, locals := 48 * h }
def Mp2 (D : va_G) (tc : Nat → ClassId) (b : Nat) (ad : Nat × Nat) (σ : SS) (ρ : PP) (N : Nat) (U : State) : Prop := okS σ ∧ va_K D vwCl (tysL tc) U ∧ Ext tc U ∧ XX b ad U ∧ Hp2 D tc b σ ρ N U.heap
def Mt2 (l : Launch) (y : MethodName) (cc : ByteArray) (nL h N0 N1 : Nat) (vs : Nat → List Value) (σ : SS) (ρ : PP) (σ' : SS) (ρ' : PP) : Prop :=
  ∀ (D : va_G) (tc : Nat → ClassId) (b : Nat) (ad : Nat × Nat), Met l y (.code y cc nL none :: gtb) (rm2 h N0 N1) (va_Pc (vs b) (Mp2 D tc b ad σ ρ N0)) (fun _ s0 o t => o = .returned none ∧ (okS σ' ∧ Hp2 D tc b σ' ρ' N1 t.heap) ∧ va_F (BB b) s0 t) (N1 - N0) (szN N1 - szN N0) (BB b)
theorem Mp2_blind {D : va_G} {tc : Nat → ClassId} {b : Nat} {ad : Nat × Nat} {σ : SS} {ρ : PP} {N : Nat} {vs : List Value} : FrameBlind (va_Pc vs (Mp2 D tc b ad σ ρ N)) := by
  intro a U g mk q
  obtain ⟨q0, q1, q2, q3, q4, q5⟩ := q
  exact ⟨q0, q1, va_K.moved (u := U) (U := U.calling g mk a) (Vm.Alike.refl U.vm) q2, q3.moved (u := U) (U := U.calling g mk a) (Vm.Alike.refl U.vm), q4.calling, q5⟩
section CON3
variable {l : Launch} {b : Nat} {V : V2} {cc : ByteArray} {own : String} {nL h N0 N1 pc : Nat} {Γ : GG} {L : List Int} {R : List Nat} {σ σ' : SS} {ρ ρ' : PP} {N N' : Nat} {st : List Value}
theorem j_callI (C : Ctx2 l b V cc own nL h N0 N1) {y : MethodName} {cy : ByteArray} {nLy hy n a index : Nat} {vs : Nat → List Value} {As : List Value} (hM : Mt2 l y cy nLy hy N N' vs σ ρ σ' ρ') (hY : YW y cy nLy none n) (hyi : y.name = "<init>") (hI : Cond.instanceMethod y ∈ gtb)
    (hl1 : Cond.methodLink own index y ∈ gtb ∨ ∃ q ∈ nestL, q.1 = own ∧ q.2.1 = index ∧ q.2.2.1 = y) (hh : hy + 1 ≤ h) (hvs : vs b = .ref (b + a) :: As) (hn : As.length = n) (hNN : N ≤ N') (hN1 : N' ≤ N1) (hst : dep st ≤ 8) (hd : decode cc pc = .ok (.invokespecial index, 3))
    (kk : V (pc + 3) Γ ((L, R, σ', ρ', N') : Z2) st) : V pc Γ ((L, R, σ, ρ, N) : Z2) (As.reverse ++ .ref (b + a) :: st) := by
  obtain ⟨p, e, Rm, s, m, args, below, meth, c, Q, D, tc, rfl, hx, hb, hml, hown, hts, hK, hE, hfr, hlo, hce, hsl, hbs, hinm, ad, hXX⟩ := C
  intro okσ okl hN ls H locs hl hH hA
  have hN : N0 ≤ N := hN
  have hst : (st.map fun v => v.category).sum ≤ 8 := hst
  have m1 := szN_mono hN
  have m2 := szN_mono hNN
  have m3 := szN_mono hN1
  have hM := hM D tc b ad
  rw [hvs] at hM
  have hpre : PreS s H (va_Pc (.ref (b + a) :: As) (Mp2 D tc b ad σ ρ N)) (.ref (b + a) :: As) := ⟨Mp2_blind, fun U hU hW => ⟨rfl, okσ, va_K.moved hW.alike hK, hE.moved hW.alike, hXX.go hA hU hW, by rw [hU]; exact hH⟩⟩
  have hr : va_Run p l e Rm s m args below meth c H locs (N - N0) (szN N - szN N0) (N' - N) (szN N' - szN N) (F0 m pc ls (As.reverse ++ .ref (b + a) :: st)) st ((fun _ s0 o t => o = .returned none ∧ (okS σ' ∧ Hp2 D tc b σ' ρ' N' t.heap) ∧ va_F (BB b) s0 t : Array Value → State → Outcome → State → Prop) (Value.ref (b + a) :: As).toArray) (BB b) := by
    rcases hl1 with hl1 | ⟨q, hq, q1, q2, q3⟩
    · have cbb : CallB Rm s args own index y cy nLy none (Cond.code y cy nLy none :: gtb) (rm2 hy N N') (N' - N) (szN N' - szN N) n :=
        callB_of n hts (gtb_in hY.1) rfl rfl rfl (hts _ hY.2.1) (hts _ hl1) hY.2.2.1 ⟨by show hy + 1 ≤ _; omega, by have := hY.2.2.2; show 8 + (nLy + 11) + 48 * hy ≤ _; omega⟩
      exact va_runI (As := As) (rest := st) ⟨hx, hb, hml, hown, hts⟩ hM ⟨cbb, hyi, hts _ hI⟩ hpre rfl hn hl.1 rfl (by show 2 * 0 + _ ≤ 8; omega) hd ⟨by omega, by omega⟩
    · have hz := hXX.1 q hq
      rw [q1, q2, q3] at hz
      have cbb : va_CN Rm s args own index y q.2.2.2 cy nLy none (Cond.code y cy nLy none :: gtb) (rm2 hy N N') (N' - N) (szN N' - szN N) n :=
        va_cnB n hts (gtb_in hY.1) rfl rfl rfl hz (hts _ hY.2.1) hY.2.2.1 ⟨by show hy + 1 ≤ _; omega, by have := hY.2.2.2; show 8 + (nLy + 11) + 48 * hy ≤ _; omega⟩
      exact va_runIN (As := As) (rest := st) ⟨hx, hb, hml, hown, hts⟩ hM ⟨cbb, hyi, hts _ hI⟩ hpre rfl hn hl.1 rfl (by show 2 * 0 + _ ≤ 8; omega) hd ⟨by omega, by omega⟩
  intro T hT X
  obtain ⟨v, st₀, t, T', Lc, h0, X', hLc, e1, e2, ⟨hv, ⟨okσ', hH'⟩, hz, hk⟩, stp⟩ := hr T hT X
  cases hv
  rw [h0] at hz hk
  have hA' : va_S (BB b) s.heap T'.heap (locs ++ Lc) := ⟨Nat.le_trans hA.1 (by rw [e1]; exact hz), fun q h1 h2 => by rw [e1, hk q (Nat.lt_of_lt_of_le h1 hA.1) h2]; exact hA.2.1 q h1 h2, fun q hq => by
      rcases List.mem_append.mp hq with h | h
      · exact hA.2.2 q h
      · exact hLc q h⟩
  have c1 : N - N0 + (N' - N) = N' - N0 := by omega
  have c2 : szN N - szN N0 + (szN N' - szN N) = szN N' - szN N0 := by omega
  rw [c1, c2] at X'
  obtain ⟨t2, a1, b1⟩ := kk okσ' okl (Nat.le_trans hN hNN) ls T'.heap (locs ++ Lc) hl (by rw [e1]; exact hH') hA' T' rfl X'
  exact ⟨t2, stp t2 a1, b1⟩
end CON3
theorem Mt2_of {l : Launch} {y : MethodName} {cc : ByteArray} {nL h N0 N1 : Nat} {vs : Nat → List Value} {σ σ' : SS} {ρ ρ' : PP} {own : String} {Γ0 : GG} {L0 : List Int} {R0 : List Nat} (hy : plainName y.cls = true) (hyc : y.cls = own) (hyn : y.name = "<init>")
    (hvs : ∀ b, lv_args 0 (vs b) = lvG b Γ0 ((L0, R0, σ) : ZZ)) (hlen : ∀ b, (lg_sl (vs b)).length ≤ nL) (hok : okL nL Γ0 ((L0, R0, σ) : ZZ))
    (body : ∀ (b : Nat) (V : V2), Ctx2 l b V cc own nL h N0 N1 → (∀ (pc : Nat) (Γ : GG) (L : List Int) (R : List Nat), decode cc pc = .ok (.return_, 1) → V pc Γ ((L, R, σ', ρ', N1) : Z2) []) → V 0 Γ0 ((L0, R0, σ, ρ, N0) : Z2) []) : Mt2 l y cc nL h N0 N1 vs σ ρ σ' ρ' := by
  intro D tc b ad
  refine Met.ofW (cc := cc) (maxL := nL) (ret := none) hy rfl ?_
  intro p e s m args below meth c s₁ B hml hv
  obtain ⟨rfl, okσ, hK, hE, hXX, hH⟩ := hv
  have hx := B.exec
  have hb := B.bytes
  have hr := B.returns
  have hts0 := atoms_spec (ws := Cond.code y cc nL none :: gtb) B.pre
  have hts : ∀ w ∈ gtb, w.before (vs b).toArray s = true := fun w hw => hts0 w (List.mem_cons_of_mem _ hw)
  have hown : s.vm.findClass own = some m.cls := hyc ▸ findClass_of_methodNamed B.named
  have hin : meth.name = "<init>" := (name_of_methodNamed B.named B.method).1.trans hyn
  have hlocks := B.notSynchronized
  have hl := lv_entry (vs b) (n := nL) (hlen b)
  rw [lg_entry_eq]
  generalize (lg_sl (vs b) ++ List.replicate (nL - (lg_sl (vs b)).length) Slot.unset).toArray = ls at hl ⊢
  rw [hvs b] at hl
  have K := body b _ ⟨p, e, (headSpec (Cond.code y cc nL none :: gtb) (rm2 h N0 N1)).room, s, m, (vs b).toArray, below, meth, c, MQ below (fun _ s0 o t => o = .returned none ∧ (okS σ' ∧ Hp2 D tc b σ' ρ' N1 t.heap) ∧ va_F (BB b) s0 t) (vs b).toArray s (N1 - N0) (szN N1 - szN N0) (BB b), D, tc, rfl, hx, hb, hml, hown, hts, hK, hE, Nat.le_refl _, Nat.le_refl _, Nat.le_refl _, Nat.le_refl _, by have := hH.1; omega, Or.inl hin, ad, hXX⟩
    (fun pc Γ L R hd okσ' okl' hN' ls' H' locs' hl' hH' hA' => W.vret hx hb hr (fun t ht hW => ⟨rfl, ⟨okσ', by rw [ht]; exact hH'⟩, hA'.F ht⟩) hA'.2.2 hd) okσ hok (Nat.le_refl _) ls s.heap [] hl hH va_S.rf
  have e1 : N0 - N0 = 0 := Nat.sub_self _
  have e2 : szN N0 - szN N0 = 0 := Nat.sub_self _
  have K : W p l e (headSpec (Cond.code y cc nL none :: gtb) (rm2 h N0 N1)).room s m (vs b).toArray below meth c s.heap [] (N0 - N0) (szN N0 - szN N0) _ (F0 m 0 ls []) := K
  rw [e1, e2] at K
  exact K
