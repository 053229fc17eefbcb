/-! what an evaluation answers -/
def Wd {α β : Type} (x : Option (α × β)) (Q : α → β → Prop) : Prop := ∃ a b, x = some (a, b) ∧ Q a b
theorem Wd_some {α β : Type} (a : α) (b : β) (Q : α → β → Prop) : Wd (some (a, b)) Q = Q a b := by
  refine propext ⟨?_, fun h => ⟨a, b, rfl, h⟩⟩
  rintro ⟨a1, b1, e, h⟩
  cases e
  exact h
theorem Wd_bn {α β γ : Type} (x : Option (α × SS)) (f : α → SS → Option (β × γ)) (Q : β → γ → Prop) : Wd (bn x f) Q = Wd x (fun a s => Wd (f a s) Q) := by
  cases x with
  | none => refine propext ⟨?_, ?_⟩ <;> (rintro ⟨a, b, e, _⟩; cases e)
  | some y => obtain ⟨a, s⟩ := y; rw [Wd_some]; rfl
def kS (g : XS) (Q : OO → ZZ → Prop) (o : OO) (z : ZZ) : Prop := match o with
  | .inl 0 => Wd (g z) Q
  | o => Q o z
theorem kS_0 (g : XS) (Q : OO → ZZ → Prop) (z : ZZ) : kS g Q (.inl 0) z = Wd (g z) Q := rfl
theorem kS_b (g : XS) (Q : OO → ZZ → Prop) (k : Nat) (z : ZZ) : kS g Q (.inl (k + 1)) z = Q (.inl (k + 1)) z := rfl
theorem kS_r (g : XS) (Q : OO → ZZ → Prop) (v : Int) (z : ZZ) : kS g Q (.inr v) z = Q (.inr v) z := rfl
theorem Wd_sqM (x : Option (OO × ZZ)) (g : XS) (Q : OO → ZZ → Prop) : Wd (sqM x g) Q = Wd x (kS g Q) := by
  cases x with
  | none => refine propext ⟨?_, ?_⟩ <;> (rintro ⟨a, b, e, _⟩; cases e)
  | some y =>
    obtain ⟨o, z⟩ := y
    rw [Wd_some]
    match o with
    | .inl 0 => rfl
    | .inl (k + 1) => rw [sqM_b, Wd_some, kS_b]
    | .inr v => rw [sqM_r, Wd_some, kS_r]
def kO (Q : Int → SS → Prop) (o : OO) (z : ZZ) : Prop := match o with
  | .inr v => Q v z.2.2
  | _ => False
theorem kO_r (Q : Int → SS → Prop) (v : Int) (z : ZZ) : kO Q (.inr v) z = Q v z.2.2 := rfl
theorem Wd_outV (x : Option (OO × ZZ)) (Q : Int → SS → Prop) : Wd (outV x) Q = Wd x (kO Q) := by
  cases x with
  | none => refine propext ⟨?_, ?_⟩ <;> (rintro ⟨a, b, e, _⟩; cases e)
  | some y =>
    obtain ⟨o, z⟩ := y
    rw [Wd_some]
    match o with
    | .inl k =>
      rw [outV_0]
      refine propext ⟨?_, fun h => h.elim⟩
      rintro ⟨a, b, e, _⟩
      cases e
    | .inr v => rw [outV_r, Wd_some, kO_r]
theorem Wd_blkM (n : Nat) (z : ZZ) (x : Option (OO × ZZ)) (Q : OO → ZZ → Prop) : Wd (blkM n z x) Q = Wd x (fun o z1 => Q o (z1.1.take n ++ z.1.drop n, z1.2.1.take n ++ z.2.1.drop n, z1.2.2)) := by
  cases x with
  | none => refine propext ⟨?_, ?_⟩ <;> (rintro ⟨a, b, e, _⟩; cases e)
  | some y => obtain ⟨o, z1⟩ := y; rw [Wd_some, blkM_some, Wd_some]
def kW (Q : OO → ZZ → Prop) (o : OO) (z : ZZ) : Prop := match o with
  | .inl 1 => Q (.inl 0) z
  | o => Q o z
theorem kW_0 (Q : OO → ZZ → Prop) (z : ZZ) : kW Q (.inl 0) z = Q (.inl 0) z := rfl
theorem kW_1 (Q : OO → ZZ → Prop) (z : ZZ) : kW Q (.inl 1) z = Q (.inl 0) z := rfl
theorem kW_2 (Q : OO → ZZ → Prop) (k : Nat) (z : ZZ) : kW Q (.inl (k + 2)) z = Q (.inl (k + 2)) z := rfl
theorem kW_r (Q : OO → ZZ → Prop) (v : Int) (z : ZZ) : kW Q (.inr v) z = Q (.inr v) z := rfl
theorem Wd_swM (x : Option (OO × ZZ)) (Q : OO → ZZ → Prop) : Wd (swM x) Q = Wd x (kW Q) := by
  cases x with
  | none => refine propext ⟨?_, ?_⟩ <;> (rintro ⟨a, b, e, _⟩; cases e)
  | some y =>
    obtain ⟨o, z⟩ := y
    rw [Wd_some]
    match o with
    | .inl 0 => rw [swM_0, Wd_some, kW_0]
    | .inl 1 => rw [swM_1, Wd_some, kW_1]
    | .inl (k + 2) => rw [kW_2]; exact Wd_some _ _ _
    | .inr v => rw [swM_r, Wd_some, kW_r]
theorem Wd_ite {α β : Type} {c : Prop} [Decidable c] (x y : Option (α × β)) (Q : α → β → Prop) : Wd (if c then x else y) Q = if c then Wd x Q else Wd y Q := by split <;> rfl
theorem Wd_map {α β : Type} (x : Option Int) (f : Int → α × β) (Q : α → β → Prop) : Wd (x.map f) Q = ∃ v, x = some v ∧ Q (f v).1 (f v).2 := by
  cases x with
  | none =>
    refine propext ⟨?_, ?_⟩
    · rintro ⟨a, b, e, _⟩; cases e
    · rintro ⟨v, e, _⟩; cases e
  | some v =>
    refine propext ⟨?_, ?_⟩
    · rintro ⟨a, b, e, h⟩
      refine ⟨v, rfl, ?_⟩
      have e2 : f v = (a, b) := Option.some.inj e
      rw [e2]
      exact h
    · rintro ⟨v1, e, h⟩
      cases e
      exact ⟨(f v).1, (f v).2, rfl, h⟩
theorem Wd_mono {α β : Type} {x : Option (α × β)} {P Q : α → β → Prop} (h : Wd x P) (k : ∀ a b, P a b → Q a b) : Wd x Q := by
  obtain ⟨a, b, e, p⟩ := h
  exact ⟨a, b, e, k a b p⟩
theorem Wd_eq {α β : Type} {x : Option (α × β)} {a : α} {b : β} {Q : α → β → Prop} (h : x = some (a, b)) (q : Q a b) : Wd x Q := ⟨a, b, h, q⟩
theorem Wd_inv {α β : Type} {x : Option (α × β)} {Q : α → β → Prop} (h : Wd x Q) : ∃ a b, x = some (a, b) ∧ Q a b := h
/-! reading what was written -/
theorem ups_11 (σ : SS) (a k : Nat) (v : Int) : ups σ a k v a k = v := by unfold ups; simp
theorem upsN {σ : SS} {a k a' k' : Nat} {v : Int} (h : k' ≠ k) : ups σ a k v a' k' = σ a' k' := by unfold ups; exact if_neg (fun e => h e.2)
theorem upsA {σ : SS} {a k a' : Nat} {v : Int} (h : a' ≠ a) : ups σ a k v a' = σ a' := by funext k'; unfold ups; exact if_neg (fun e => h e.1)
theorem upA_neA {σ : SS} {a a' : Nat} {f : Nat → Int} (h : a' ≠ a) : upA σ a f a' = σ a' := if_neg h
theorem fl_neA {σ : SS} {a i a' : Nat} {g : Nat → Int} (h : a' ≠ a) : fl σ a i g a' = σ a' := upA_ne h
/-- a loop: what holds at its turn i, at most n turns, what it ends with -/
def kU (P : ZZ → Prop) (o : OO) (z : ZZ) : Prop := match o with
  | .inl 0 => P z
  | _ => False
theorem kU_0 (P : ZZ → Prop) (z : ZZ) : kU P (.inl 0) z = P z := rfl
def kL (u : XS) (P : ZZ → Prop) (Q : OO → ZZ → Prop) (o : OO) (z : ZZ) : Prop := match o with
  | .inl 0 => Wd (u z) (kU P)
  | .inl 1 => Q (.inl 0) z
  | .inl 2 => Wd (u z) (kU P)
  | .inl (_ + 3) => False
  | .inr v => Q (.inr v) z
theorem kL_0 (u : XS) (P : ZZ → Prop) (Q : OO → ZZ → Prop) (z : ZZ) : kL u P Q (.inl 0) z = Wd (u z) (kU P) := rfl
theorem kL_1 (u : XS) (P : ZZ → Prop) (Q : OO → ZZ → Prop) (z : ZZ) : kL u P Q (.inl 1) z = Q (.inl 0) z := rfl
theorem kL_2 (u : XS) (P : ZZ → Prop) (Q : OO → ZZ → Prop) (z : ZZ) : kL u P Q (.inl 2) z = Wd (u z) (kU P) := rfl
theorem kL_r (u : XS) (P : ZZ → Prop) (Q : OO → ZZ → Prop) (v : Int) (z : ZZ) : kL u P Q (.inr v) z = Q (.inr v) z := rfl
theorem Wd_it {c : XC} {f u : XS} (P : Nat → ZZ → Prop) (n : Nat) {z0 : ZZ} {Q : OO → ZZ → Prop} (h0 : P 0 z0)
    (h : ∀ i z, i < n → P i z → Wd (c z) (fun y s => if y = true then Wd (f (z.1, z.2.1, s)) (kL u (P (i + 1)) Q) else Q (.inl 0) (z.1, z.2.1, s)))
    (he : ∀ z, P n z → Wd (c z) (fun y s => if y = true then False else Q (.inl 0) (z.1, z.2.1, s))) : Wd (lp c f u z0) Q := by
  have key : ∀ (k i : Nat) (z : ZZ), i + k = n → P i z → ∃ m o z', lpN c f u m z = some (o, z') ∧ Q o z' := by
    intro k
    induction k with
    | zero =>
      intro i z hi hP
      have hi : i = n := by omega
      subst hi
      obtain ⟨y, s, hc, hy⟩ := he z hP
      cases y with
      | true =>
        rw [if_pos rfl] at hy
        exact hy.elim
      | false =>
        rw [if_neg (by decide)] at hy
        refine ⟨1, .inl 0, (z.1, z.2.1, s), ?_, hy⟩
        unfold lpN
        rw [hc, bn_some, if_neg (by decide)]
    | succ k ih =>
      intro i z hi hP
      obtain ⟨y, s, hc, hy⟩ := h i z (by omega) hP
      cases y with
      | false =>
        rw [if_neg (by decide)] at hy
        refine ⟨1, .inl 0, (z.1, z.2.1, s), ?_, hy⟩
        unfold lpN
        rw [hc, bn_some, if_neg (by decide)]
      | true =>
        rw [if_pos rfl] at hy
        obtain ⟨o, z1, e1, h1⟩ := hy
        match o, e1, h1 with
        | .inl 0, e1, h1 =>
          obtain ⟨o2, z2, e2, h2⟩ := h1
          match o2, e2, h2 with
          | .inl 0, e2, h2 =>
            obtain ⟨m, o3, z3, e3, q3⟩ := ih (i + 1) z2 (by omega) h2
            refine ⟨m + 1, o3, z3, ?_, q3⟩
            unfold lpN
            rw [hc, bn_some, if_pos rfl, e1]
            simp only
            rw [e2]
            exact e3
        | .inl 2, e1, h1 =>
          obtain ⟨o2, z2, e2, h2⟩ := h1
          match o2, e2, h2 with
          | .inl 0, e2, h2 =>
            obtain ⟨m, o3, z3, e3, q3⟩ := ih (i + 1) z2 (by omega) h2
            refine ⟨m + 1, o3, z3, ?_, q3⟩
            unfold lpN
            rw [hc, bn_some, if_pos rfl, e1]
            simp only
            rw [e2]
            exact e3
        | .inl 1, e1, h1 =>
          refine ⟨1, .inl 0, z1, ?_, h1⟩
          unfold lpN
          rw [hc, bn_some, if_pos rfl, e1]
          rfl
        | .inr v, e1, h1 =>
          refine ⟨1, .inr v, z1, ?_, h1⟩
          unfold lpN
          rw [hc, bn_some, if_pos rfl, e1]
  obtain ⟨m, o, z', e, q⟩ := key n 0 z0 (by omega) h0
  exact ⟨o, z', lp_of e, q⟩
