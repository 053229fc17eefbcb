/-! what holds between the calls -/
def StV (s : Nat) (V : Int) (σ : SS) : Prop := -1 ≤ σ (s + 30) 5 ∧ σ (s + 30) 5 ≤ σ (s + 1) 14 ∧ σ (s + 1) 14 ≤ V
/-- blocks within blocks: at most m deep, from one step to another -/
def NB (c : Nat → Int) : Nat → Int → Int → Prop
  | 0, fr, to => ∀ j : Nat, fr ≤ j → (j : Int) < to → ¬ (c (138 + 9 * j) = 7 ∨ c (138 + 9 * j) = 8)
  | m + 1, fr, to => ∀ j : Nat, fr ≤ j → (j : Int) < to → (c (138 + 9 * j) = 7 ∨ c (138 + 9 * j) = 8) → NB c m ((j : Int) + 1) (c (146 + 9 * j))
theorem NB_k {c c' : Nat → Int} (h : ∀ k, 136 ≤ k → k < 408 → c' k = c k) (h2 : c 137 ≤ 30) (W : ∀ i : Nat, (i : Int) < c 137 → c (146 + 9 * i) ≤ c 137) : ∀ (m : Nat) (fr to : Int), to ≤ c 137 → NB c m fr to → NB c' m fr to
  | 0, fr, to, ht, H => fun j h1 h3 => by rw [h (138 + 9 * j) (by omega) (by omega)]; exact H j h1 h3
  | m + 1, fr, to, ht, H => fun j h1 h3 hb => by
    rw [h (138 + 9 * j) (by omega) (by omega)] at hb
    rw [h (146 + 9 * j) (by omega) (by omega)]
    exact NB_k h h2 W m _ _ (W j (by omega)) (H j h1 h3 hb)
def WfF (c : Nat → Int) : Prop := (c 136 = 0 ∨ c 136 = 1) ∧ (0 ≤ c 137 ∧ c 137 ≤ 30) ∧ (∀ i : Nat, (i : Int) < c 137 → WfS c i) ∧ NB c 3 0 (c 137)
theorem WfF_NB {c c' : Nat → Int} (h : ∀ k, 136 ≤ k → k < 408 → c' k = c k) (H : WfF c) : NB c' 3 0 (c 137) := NB_k h H.2.1.2 (fun i hi => (H.2.2.1 i hi).2.1.2) 3 0 (c 137) (Int.le_refl _) H.2.2.2
def PkW (σ : SS) (a : Nat) (c w : Nat → Int) : Prop := PkS σ a c w ∧ EvR σ (a + 4) c ∧ WB c ∧ WQ c ∧ WfF c ∧ c 7 ≤ 9999
def VsR (V : Int) (σ : SS) : Prop := (0 ≤ σ 48 14 ∧ σ 48 14 ≤ V) ∧ (0 ≤ σ 152 14 ∧ σ 152 14 ≤ V) ∧ (0 ≤ σ 181 14 ∧ σ 181 14 ≤ V) ∧ (0 ≤ σ 210 14 ∧ σ 210 14 ≤ V)
def MkW (σ : SS) : Prop := σ 0 10 = σ 239 24 ∧ (0 ≤ σ 239 24 ∧ σ 239 24 ≤ 3) ∧ ∀ j : Nat, (j : Int) < σ 239 24 → PkW σ (152 + 29 * j) (cb σ (1 + j)) (wb σ (1 + j))
/-- the tape, byte by byte -/
def TpB (σ : SS) : Prop := σ 2 1 = σ 239 8 ∧ (0 ≤ σ 239 8 ∧ σ 239 8 ≤ 900) ∧ ∀ k : Nat, (k : Int) < σ 239 8 → σ 3 k = σ 243 k ∧ (-128 ≤ σ 3 k ∧ σ 3 k ≤ 127)
def Rel (V : Int) (σ : SS) : Prop := PkW σ 6 (σ 244) (σ 247) ∧ StK 5 (σ 244) V σ ∧ StV 86 V σ ∧ VsR V σ ∧ MkW σ ∧ TrR σ ∧ TpB σ ∧ MiR σ ∧ KwR σ
theorem PkW_c {σ σ' : SS} {a : Nat} {c w : Nat → Int} (h : ∀ k, k ≠ 14 → σ' a k = σ a k) (h2 : ∀ x, a < x → x < a + 29 → σ' x = σ x) (P : PkW σ a c w) : PkW σ' a c w := by
  obtain ⟨p1, p2, p3, p4⟩ := P
  exact ⟨PkS_c p3.1 h h2 p1, EvR_c (fun x h1 h3 => h2 x (by omega) (by omega)) p2, p3, p4⟩
theorem PkW_c0 {σ σ' : SS} {a : Nat} {c w : Nat → Int} (h2 : ∀ x, a ≤ x → x < a + 29 → σ' x = σ x) (P : PkW σ a c w) : PkW σ' a c w :=
  PkW_c (fun k _ => by rw [h2 a (by omega) (by omega)]) (fun x h1 h3 => h2 x (by omega) h3) P
theorem TrR_c {σ σ' : SS} (h : ∀ x, (144 ≤ x ∧ x ≤ 151) ∨ (240 ≤ x ∧ x ≤ 242) → σ' x = σ x) (H : TrR σ) : TrR σ' := by
  intro t ht
  rw [h (144 + 2 * t) (by omega), h (145 + 2 * t) (by omega), h 240 (by omega), h 241 (by omega), h 242 (by omega)]
  exact H t ht
theorem KwR_c {σ σ' : SS} (h : σ' 4 = σ 4) (H : KwR σ) : KwR σ' := by
  intro k hk
  rw [h]
  exact H k hk
theorem MkW_c {σ σ' : SS} (h0 : σ' 0 10 = σ 0 10) (h1 : σ' 239 24 = σ 239 24) (h2 : ∀ x, 152 ≤ x → x < 239 → σ' x = σ x) (h3 : ∀ k, 408 ≤ k → k < 1632 → σ' 244 k = σ 244 k) (h4 : σ' 247 = σ 247) (H : MkW σ) : MkW σ' := by
  obtain ⟨a1, a2, a3⟩ := H
  unfold MkW
  rw [h0, h1]
  refine ⟨a1, a2, fun j hj => ?_⟩
  have q := PkW_c0 (σ' := σ') (fun x g1 g2 => h2 x (by omega) (by omega)) (a3 j hj)
  have ec : ∀ k, k < 408 → cb σ' (1 + j) k = cb σ (1 + j) k := fun k hk => by
    unfold cb
    exact h3 _ (by omega) (by omega)
  have ew : wb σ' (1 + j) = wb σ (1 + j) := by unfold wb; rw [h4]
  rw [ew]
  exact PkW_k ec q
where
  PkW_k {σ : SS} {a : Nat} {c c' w : Nat → Int} (e : ∀ k, k < 408 → c' k = c k) (P : PkW σ a c w) : PkW σ a c' w := by
    obtain ⟨⟨p1, p2, p3, p4⟩, p5, ⟨w1, w2, w3, w4⟩, w5, w6, w7⟩ := P
    have hH := w1
    have hN := nC_c w1
    refine ⟨⟨?_, ?_, ?_, ?_⟩, ?_, ⟨?_, ?_, ?_, ?_⟩, ?_, ?_, ?_⟩
    · unfold kH
      rw [e 0 (by omega), e 1 (by omega), e 2 (by omega), e 3 (by omega), e 4 (by omega), e 5 (by omega), e 6 (by omega), e 7 (by omega), e 8 (by omega), e 9 (by omega)]
      exact p1
    · intro t ht
      rw [e 2 (by omega)] at ht
      rw [e _ (by omega), e _ (by omega), e _ (by omega)]
      exact p2 t ht
    · intro b hb
      rw [e 3 (by omega)] at hb
      have d1 := (w3 b (by omega) hb).1
      rw [e (28 + (b : Int)).toNat (by omega), e (34 + (b : Int)).toNat (by omega), e (40 + (b : Int)).toNat (by omega), e (46 + (b : Int)).toNat (by omega), e (52 + (b : Int)).toNat (by omega), e (58 + (b : Int)).toNat (by omega), e (64 + (b : Int)).toNat (by omega)]
      refine ⟨(p3 b hb).1, fun k hk => ?_⟩
      rw [e _ (by omega)]
      exact (p3 b hb).2 k hk
    · intro k hk
      rw [e 0 (by omega), e 1 (by omega)] at hk
      obtain ⟨v1, v2, v3, v4⟩ := cell_rng w1 hk
      unfold pondB
      rw [e 0 (by omega), e _ (by omega)]
      exact p4 k hk
    · obtain ⟨E1, E2, E3⟩ := p5
      unfold EvR
      rw [e 136 (by omega), e 137 (by omega)]
      refine ⟨E1, E2, fun i hi => ?_⟩
      have w8 := w6.2.1
      have q := E3 i hi
      unfold EvS at q ⊢
      rw [e (138 + 9 * i) (by omega), e (139 + 9 * i) (by omega), e (140 + 9 * i) (by omega), e (141 + 9 * i) (by omega), e (144 + 9 * i) (by omega), e (145 + 9 * i) (by omega), e (146 + 9 * i) (by omega)]
      exact q
    · unfold WH
      rw [e 0 (by omega), e 1 (by omega), e 2 (by omega), e 3 (by omega), e 4 (by omega), e 5 (by omega), e 6 (by omega), e 7 (by omega), e 8 (by omega), e 9 (by omega)]
      exact w1
    · intro t t0 t1
      rw [e 2 (by omega)] at t1
      unfold WTi
      rw [e (10 + t).toNat (by omega), e (16 + t).toNat (by omega), e (22 + t).toNat (by omega)]
      exact w2 t t0 t1
    · intro b b0 b1
      rw [e 3 (by omega)] at b1
      have ⟨d1, d2⟩ := w3 b b0 b1
      refine ⟨?_, fun k k0 k1 => ?_⟩
      · unfold WDi
        rw [e (28 + b).toNat (by omega), e (34 + b).toNat (by omega), e (40 + b).toNat (by omega), e (46 + b).toNat (by omega), e (52 + b).toNat (by omega), e (58 + b).toNat (by omega), e (64 + b).toNat (by omega), e 0 (by omega), e 1 (by omega)]
        exact d1
      · unfold enB
        rw [e (64 + b).toNat (by omega)] at k1
        rw [e _ (by omega), e 2 (by omega)]
        exact d2 k k0 k1
    · intro k k0 k1
      rw [e _ (by omega), e 0 (by omega), e 1 (by omega)]
      exact w4 k k0 k1
    · intro b b0 b1
      rw [e 3 (by omega)] at b1
      rw [e _ (by omega), e 7 (by omega)]
      exact w5 b b0 b1
    · have nb := WfF_NB (c' := c') (fun k _ hk => e k hk) w6
      obtain ⟨E1, E2, E3, E4⟩ := w6
      unfold WfF
      rw [e 136 (by omega), e 137 (by omega)]
      refine ⟨E1, E2, fun i hi => ?_, nb⟩
      have q := E3 i hi
      unfold WfS enS at q ⊢
      rw [e (138 + 9 * i) (by omega), e (139 + 9 * i) (by omega), e (140 + 9 * i) (by omega), e (141 + 9 * i) (by omega), e (144 + 9 * i) (by omega), e (145 + 9 * i) (by omega), e (146 + 9 * i) (by omega), e 137 (by omega), e 3 (by omega), e 2 (by omega)]
      exact q
    · rw [e 7 (by omega)]
      exact w7
/-! calls that change nothing but what is kept of the sound, and the status -/
def CF (σ σ' : SS) : Prop := ∀ a, ¬ (a = 5 ∨ (35 ≤ a ∧ a ≤ 46) ∨ (86 ≤ a ∧ a ≤ 141)) → σ' a = σ a
def CQ (V : Int) (c : Nat → Int) (st t b : Int) (σ σ' : SS) : Prop := (∀ a, ¬ (a = 0 ∨ a = 5 ∨ (35 ≤ a ∧ a ≤ 46) ∨ (86 ≤ a ∧ a ≤ 141)) → σ' a = σ a) ∧ (∀ k, k ≠ 11 → k ≠ 14 → k ≠ 15 → σ' 0 k = σ 0 k) ∧ (σ' 0 11 = st ∧ σ' 0 14 = t ∧ σ' 0 15 = b) ∧ StK 5 c V σ' ∧ StV 86 V σ'
def MQr (st t b : Int) (σ σ' : SS) : Prop := (∀ a, ¬ (a = 239 ∨ a = 245 ∨ a = 246 ∨ (248 ≤ a ∧ a ≤ 252)) → σ' a = σ a) ∧ (∀ k, k = 8 ∨ k = 10 ∨ k = 11 ∨ k = 24 ∨ k = 36 → σ' 239 k = σ 239 k) ∧ (σ' 239 0 = st ∧ σ' 239 2 = t ∧ σ' 239 3 = b)
theorem CF_r (σ : SS) : CF σ σ := fun _ _ => rfl
theorem CF_t {σ σ' σ'' : SS} (h : CF σ σ') (h2 : CF σ' σ'') : CF σ σ'' := fun a ha => by rw [h2 a ha, h a ha]
theorem StK_c {s : Nat} {c : Nat → Int} {V : Int} {σ σ' : SS} (hw : WH c) (h : ∀ a, s + 30 ≤ a → a ≤ s + 40 → σ' a = σ a) (h1 : σ' (s + 1) 14 = σ (s + 1) 14) (K : StK s c V σ) : StK s c V σ' := by
  unfold StK
  rw [h (s + 30) (by omega) (by omega), h1]
  exact ⟨K.1, fun g => StT_c hw (fun a h3 h4 => h a (by omega) (by omega)) (K.2 g)⟩
theorem CQ_fin {V : Int} {c : Nat → Int} {st : Int} {σ σ2 : SS} (hw : WH c) (h : CF σ σ2) (K : StK 5 c V σ2) (S : StV 86 V σ2) : CQ V c st (σ 0 14) (σ 0 15) σ (ups σ2 0 11 st) := by
  refine ⟨fun a ha => ?_, fun k h1 h2 h3 => ?_, ⟨?_, ?_, ?_⟩, ?_, ?_⟩
  · try simp (disch := omega) only [ups_11, upsN, upsA, upA_same, upA_neA, fl_at, fl_neA]; exact h a (by omega)
  · try simp (disch := omega) only [ups_11, upsN, upsA, upA_same, upA_neA, fl_at, fl_neA]; rw [h 0 (by omega)]
  · try simp (disch := omega) only [ups_11, upsN, upsA, upA_same, upA_neA, fl_at, fl_neA]
  · try simp (disch := omega) only [ups_11, upsN, upsA, upA_same, upA_neA, fl_at, fl_neA]; rw [h 0 (by omega)]
  · try simp (disch := omega) only [ups_11, upsN, upsA, upA_same, upA_neA, fl_at, fl_neA]; rw [h 0 (by omega)]
  · exact StK_c hw (fun a h1 h2 => by try simp (disch := omega) only [ups_11, upsN, upsA, upA_same, upA_neA, fl_at, fl_neA]) (by try simp (disch := omega) only [ups_11, upsN, upsA, upA_same, upA_neA, fl_at, fl_neA]) K
  · unfold StV
    try simp (disch := omega) only [ups_11, upsN, upsA, upA_same, upA_neA, fl_at, fl_neA]
    exact S
theorem Rel_q {V V' : Int} {st t b : Int} {σ σ1 σ2 : SS} (R : Rel V σ) (hV : V ≤ V') (C : CQ V' (σ 244) st t b σ σ1) (M : MQr st t b σ1 σ2) : Rel V' σ2 := by
  obtain ⟨r1, r2, r3, r4, r5, r6, r7, r8, r9⟩ := R
  obtain ⟨c1, c2, c3, c4, c5⟩ := C
  obtain ⟨m1, m2, m3⟩ := M
  have e : ∀ a, ¬ (a = 0 ∨ a = 5 ∨ (35 ≤ a ∧ a ≤ 46) ∨ (86 ≤ a ∧ a ≤ 141)) → ¬ (a = 239 ∨ a = 245 ∨ a = 246 ∨ (248 ≤ a ∧ a ≤ 252)) → σ2 a = σ a := fun a h1 h2 => by rw [m1 a h2, c1 a h1]
  have k0 : ∀ k, k ≠ 11 → k ≠ 14 → k ≠ 15 → σ2 0 k = σ 0 k := fun k h1 h2 h3 => by rw [m1 0 (by omega), c2 k h1 h2 h3]
  have k9 : ∀ k, k = 8 ∨ k = 10 ∨ k = 11 ∨ k = 24 ∨ k = 36 → σ2 239 k = σ 239 k := fun k hk => by rw [m2 k hk, c1 239 (by omega)]
  have e44 : σ2 244 = σ 244 := e _ (by omega) (by omega)
  have e47 : σ2 247 = σ 247 := e _ (by omega) (by omega)
  refine ⟨?_, ?_, ?_, ?_, ?_, ?_, ?_, ?_, ?_⟩
  · rw [e44, e47]
    exact PkW_c0 (fun x h1 h2 => e x (by omega) (by omega)) r1
  · rw [e44]
    exact StK_c r1.2.2.1.1 (fun a h1 h2 => m1 a (by omega)) (by rw [m1 _ (by omega)]) c4
  · unfold StV
    rw [m1 _ (by omega), m1 _ (by omega)]
    exact c5
  · unfold VsR at r4 ⊢
    rw [e 48 (by omega) (by omega), e 152 (by omega) (by omega), e 181 (by omega) (by omega), e 210 (by omega) (by omega)]
    omega
  · exact MkW_c (k0 10 (by omega) (by omega) (by omega)) (k9 24 (by omega)) (fun x h1 h2 => e x (by omega) (by omega)) (fun k _ _ => by rw [e44]) e47 r5
  · exact TrR_c (fun x hx => e x (by omega) (by omega)) r6
  · unfold TpB
    rw [e 2 (by omega) (by omega), e 3 (by omega) (by omega), e 243 (by omega) (by omega), k9 8 (by omega)]
    exact r7
  · unfold MiR at r8 ⊢
    rw [m1 0 (by omega)]
    rw [c3.1, c3.2.1, c3.2.2, m3.1, m3.2.1, m3.2.2, k9 10 (by omega), k9 11 (by omega), k9 36 (by omega), c2 12 (by omega) (by omega) (by omega), c2 13 (by omega) (by omega) (by omega), c2 9 (by omega) (by omega) (by omega), e 143 (by omega) (by omega), e 253 (by omega) (by omega)]
    exact ⟨rfl, rfl, rfl, r8.2.2.2.1, r8.2.2.2.2.1, r8.2.2.2.2.2.1, r8.2.2.2.2.2.2⟩
  · exact KwR_c (e 4 (by omega) (by omega)) r9
/-- a call, done by the class and then by the reference -/
def Ok (V : Int) (Fc Fm : SS → Option (Int × SS)) (σ : SS) : Prop := Wd (Fc σ) (fun r σ1 => Wd (Fm σ1) (fun r2 σ2 => r2 = r ∧ Rel V σ2))
set_option maxHeartbeats 8000000 in
theorem op_q {V V' : Int} {Fc Fm : SS → Option (Int × SS)} {σ : SS} (R : Rel V σ) (hV : V ≤ V') (r st t b : Int) (hc : Wd (Fc σ) (fun x σ1 => x = r ∧ CQ V' (σ 244) st t b σ σ1)) (hm : ∀ σ1 : SS, σ1 244 = σ 244 → σ1 239 = σ 239 → Wd (Fm σ1) (fun x σ2 => x = r ∧ MQr st t b σ1 σ2)) : Ok V' Fc Fm σ := by
  refine Wd_mono hc (fun x σ1 hx => ?_)
  obtain ⟨hx, C⟩ := hx
  refine Wd_mono (hm σ1 (C.1 _ (by omega)) (C.1 _ (by omega))) (fun y σ2 hy => ?_)
  obtain ⟨hy, M⟩ := hy
  exact ⟨by rw [hx, hy], Rel_q R hV C M⟩
theorem CF_look {σ σ' : SS} (lf : LkF 5 σ σ') : CF σ σ' := fun a ha => lf.1 a (by omega)
theorem StK_look {V : Int} {c : Nat → Int} {σ σ' : SS} (K : StK 5 c V σ) (lf : LkF 5 σ σ') (ls : LkS 5 c σ') : StK 5 c V σ' := by
  obtain ⟨k1, k2, k3⟩ := K.1
  have e : σ' (5 + 1) 14 = σ (5 + 1) 14 := by rw [lf.1 _ (by omega)]
  refine ⟨?_, fun _ => ls.1⟩
  rw [ls.2.1, e]
  omega
theorem StV_c {s : Nat} {V : Int} {σ σ' : SS} (h : ∀ a, s ≤ a → a ≤ s + 41 → σ' a = σ a) (S : StV s V σ) : StV s V σ' := by
  unfold StV
  rw [h _ (by omega) (by omega), h _ (by omega) (by omega)]
  exact S
/-- the reference's beginning: thrown and status -/
theorem MQ_fin {st : Int} {σ σ1 σ2 : SS} (h2 : ∀ a, ¬ (a = 239 ∨ a = 245 ∨ a = 246 ∨ (248 ≤ a ∧ a ≤ 252)) → σ2 a = σ1 a) (h3 : ∀ k, k = 2 ∨ k = 3 ∨ k = 8 ∨ k = 10 ∨ k = 11 ∨ k = 24 ∨ k = 36 → σ2 239 k = σ1 239 k) (h0 : σ2 239 0 = st) (e : σ1 239 = σ 239) : MQr st (σ 239 2) (σ 239 3) σ1 σ2 :=
  ⟨h2, fun k hk => h3 k (by omega), h0, by rw [h3 2 (by omega), e], by rw [h3 3 (by omega), e]⟩
