/-! statements -/
section STA
variable {l : Launch} {b : Nat} {V : VV} {Rt : Int → SS → Prop} {cc : ByteArray} {own : String} {nL h : Nat} {Γ Γ1 Γ2 : GG} {p q r : Nat} {B K : Nat × GG}
theorem dep_0 : dep [] ≤ 0 := Nat.le_refl 0
theorem s_sk : SG V Rt Γ p sk p Γ B K := by
  intro L R σ o z' he k
  cases he
  exact k
theorem s_sq {f g : XS} (h1 : SG V Rt Γ p f q Γ1 B K) (h2 : SG V Rt Γ1 q g r Γ2 B K) : SG V Rt Γ p (sq f g) r Γ2 B K := by
  intro L R σ o z' he k
  unfold sq at he
  cases hf : f (L, R, σ) with
  | none => rw [hf] at he; cases he
  | some w =>
    obtain ⟨o1, z1⟩ := w
    rw [hf] at he
    refine h1 L R σ o1 z1 hf ?_
    match o1, he with
    | .inl 0, he =>
      obtain ⟨L1, R1, s1⟩ := z1
      exact h2 L1 R1 s1 o z' he k
    | .inl 1, he => cases he; exact k
    | .inl (n + 2), he => cases he; exact k
    | .inr r, he => cases he; exact k
theorem s_istore_n (C : Ctx l b V cc own nL h) {j : Fin 4} {i : Nat} {e : XI} (h1 : EI V Γ 0 p e q) (hd : decode cc q = .ok (.istore_n j, 1)) (hj : (j : Nat) = i) (hi : i < nL) (hΓ : ∀ q ∈ Γ1, q ∈ stI i Γ) {q9 : Nat} (hq : q + 1 = q9) : SG V Rt Γ p (asI i e) q9 Γ1 B K := by
  subst hq
  intro L R σ o z' he k
  obtain ⟨x, s, e1, e2⟩ := bn_inv he
  cases e2
  exact h1 L R σ [] x s dep_0 e1 (fun hx => i_istore_n C hd hj hi hx (i_sub C hΓ k))
theorem s_istore (C : Ctx l b V cc own nL h) {i : Nat} {e : XI} (h1 : EI V Γ 0 p e q) (hd : decode cc q = .ok (.istore i, 2)) (hi : i < nL) (hΓ : ∀ q ∈ Γ1, q ∈ stI i Γ) {q9 : Nat} (hq : q + 2 = q9) : SG V Rt Γ p (asI i e) q9 Γ1 B K := by
  subst hq
  intro L R σ o z' he k
  obtain ⟨x, s, e1, e2⟩ := bn_inv he
  cases e2
  exact h1 L R σ [] x s dep_0 e1 (fun hx => i_istore C hd hi hx (i_sub C hΓ k))
theorem s_lstore_n (C : Ctx l b V cc own nL h) {j : Fin 4} {i : Nat} {e : XI} (h1 : EL V Γ 0 p e q) (hd : decode cc q = .ok (.lstore_n j, 1)) (hj : (j : Nat) = i) (hi : i + 1 < nL) (hΓ : ∀ q ∈ Γ1, q ∈ stL i Γ) {q9 : Nat} (hq : q + 1 = q9) : SG V Rt Γ p (asI i e) q9 Γ1 B K := by
  subst hq
  intro L R σ o z' he k
  obtain ⟨x, s, e1, e2⟩ := bn_inv he
  cases e2
  exact h1 L R σ [] x s dep_0 e1 (fun hx => i_lstore_n C hd hj hi hx (i_sub C hΓ k))
theorem s_lstore (C : Ctx l b V cc own nL h) {i : Nat} {e : XI} (h1 : EL V Γ 0 p e q) (hd : decode cc q = .ok (.lstore i, 2)) (hi : i + 1 < nL) (hΓ : ∀ q ∈ Γ1, q ∈ stL i Γ) {q9 : Nat} (hq : q + 2 = q9) : SG V Rt Γ p (asI i e) q9 Γ1 B K := by
  subst hq
  intro L R σ o z' he k
  obtain ⟨x, s, e1, e2⟩ := bn_inv he
  cases e2
  exact h1 L R σ [] x s dep_0 e1 (fun hx => i_lstore C hd hi hx (i_sub C hΓ k))
theorem s_astore_n (C : Ctx l b V cc own nL h) {j : Fin 4} {i : Nat} {e : XR} (h1 : ER b V Γ 0 p e q) (hd : decode cc q = .ok (.astore_n j, 1)) (hj : (j : Nat) = i) (hi : i < nL) (hΓ : ∀ q ∈ Γ1, q ∈ stR i Γ) {q9 : Nat} (hq : q + 1 = q9) : SG V Rt Γ p (asR i e) q9 Γ1 B K := by
  subst hq
  intro L R σ o z' he k
  obtain ⟨x, s, e1, e2⟩ := bn_inv he
  cases e2
  exact h1 L R σ [] x s dep_0 e1 (i_astore_n C hd hj hi (i_sub C hΓ k))
theorem s_astore (C : Ctx l b V cc own nL h) {i : Nat} {e : XR} (h1 : ER b V Γ 0 p e q) (hd : decode cc q = .ok (.astore i, 2)) (hi : i < nL) (hΓ : ∀ q ∈ Γ1, q ∈ stR i Γ) {q9 : Nat} (hq : q + 2 = q9) : SG V Rt Γ p (asR i e) q9 Γ1 B K := by
  subst hq
  intro L R σ o z' he k
  obtain ⟨x, s, e1, e2⟩ := bn_inv he
  cases e2
  exact h1 L R σ [] x s dep_0 e1 (i_astore C hd hi (i_sub C hΓ k))
theorem s_inc (C : Ctx l b V cc own nL h) {i g : Nat} {n : Int} (hd : decode cc p = .ok (.iinc i n, 3)) (hg : Γ[g]? = some (i, 0)) (hi : i < nL) (hΓ : ∀ q ∈ Γ1, q ∈ stI i Γ) {q9 : Nat} (hq : p + 3 = q9) : SG V Rt Γ p (inc i n) q9 Γ1 B K := by
  subst hq
  intro L R σ o z' he k
  cases he
  exact i_iinc C hd hg hi (i_sub C hΓ k)
theorem s_pfI (C : Ctx l b V cc own nL h) {e : XR} {x : XI} {ci fi index : Nat} (h1 : ER b V Γ 0 p e q) (h2 : EI V Γ 1 q x r) (hp : PL own index ci fi 0) (hd : decode cc r = .ok (.putfield index, 3)) {q9 : Nat} (hq : r + 3 = q9) : SG V Rt Γ p (pfI ci fi e x) q9 Γ B K := by
  subst hq
  intro L R σ o z' he k
  obtain ⟨a, s, e1, e2⟩ := bn_inv he
  obtain ⟨v, s2, e3, e4⟩ := bn_inv e2
  obtain ⟨⟨c1, c2⟩, e5⟩ := ite_inv e4
  cases e5
  exact h1 L R σ [] a s dep_0 e1 (h2 L R s _ v s2 (by rw [dep_r]; decide) e3 (fun hv => i_put (kn := 0) C hp c1 c2 (Or.inl rfl) hv hd k))
theorem s_pfL (C : Ctx l b V cc own nL h) {e : XR} {x : XI} {ci fi index : Nat} (h1 : ER b V Γ 0 p e q) (h2 : EL V Γ 1 q x r) (hp : PL own index ci fi 1) (hd : decode cc r = .ok (.putfield index, 3)) {q9 : Nat} (hq : r + 3 = q9) : SG V Rt Γ p (pfI ci fi e x) q9 Γ B K := by
  subst hq
  intro L R σ o z' he k
  obtain ⟨a, s, e1, e2⟩ := bn_inv he
  obtain ⟨v, s2, e3, e4⟩ := bn_inv e2
  obtain ⟨⟨c1, c2⟩, e5⟩ := ite_inv e4
  cases e5
  exact h1 L R σ [] a s dep_0 e1 (h2 L R s _ v s2 (by rw [dep_r]; decide) e3 (fun hv => i_put (kn := 1) C hp c1 c2 (Or.inr (Or.inl rfl)) hv hd k))
theorem s_pfZ (C : Ctx l b V cc own nL h) {e : XR} {x : XI} {ci fi index : Nat} (h1 : ER b V Γ 0 p e q) (h2 : EI V Γ 1 q x r) (hp : PL own index ci fi 3) (hd : decode cc r = .ok (.putfield index, 3)) {q9 : Nat} (hq : r + 3 = q9) : SG V Rt Γ p (pfZ ci fi e x) q9 Γ B K := by
  subst hq
  intro L R σ o z' he k
  obtain ⟨a, s, e1, e2⟩ := bn_inv he
  obtain ⟨v, s2, e3, e4⟩ := bn_inv e2
  obtain ⟨⟨⟨c1, c2⟩, c3⟩, e5⟩ := ite_inv e4
  cases e5
  exact h1 L R σ [] a s dep_0 e1 (h2 L R s _ v s2 (by rw [dep_r]; decide) e3 (fun hv => i_put (kn := 3) C hp c1 c2 (Or.inr (Or.inr ⟨rfl, c3⟩)) hv hd k))
theorem s_pfOI (C : Ctx l b V cc own nL h) {f : Int → Int → Option Int} {e : XR} {x : XI} {ci fi index : Nat} (h1 : ER b V Γ 0 p e q) (hdup : decode cc q = .ok (.dup, 1)) (hf : FL own index ci fi 0) (hget : decode cc (q + 1) = .ok (.getfield index, 3)) (h2 : EI V Γ 2 (q + 1 + 3) x r) (hi : ∀ (z : ZZ) (st : List Value) (x y v : Int), inI x → inI y → f x y = some v → (inI v → V (r + 1) Γ z (vI v :: st)) → V r Γ z (vI y :: vI x :: st)) (hp : PL own index ci fi 0) (hd : decode cc (r + 1) = .ok (.putfield index, 3)) {q9 : Nat} (hq : r + 1 + 3 = q9) : SG V Rt Γ p (pfO ci fi f e x) q9 Γ B K := by
  subst hq
  intro L R σ o z' he k
  obtain ⟨a, s, e1, e2⟩ := bn_inv he
  obtain ⟨⟨c1, c2⟩, e3⟩ := ite_inv e2
  obtain ⟨y, s2, e4, e5⟩ := bn_inv e3
  obtain ⟨u, e6, e7⟩ := map_inv e5
  cases e7
  refine h1 L R σ [] a s dep_0 e1 (i_dup C hdup rfl (i_get C hf c1 c2 hget (i_ok C (fun okσ okl => ?_))))
  have hk := okσ a fi
  have hf2 := hf
  obtain ⟨Cn, T, N, hc, hlt, hin, hlink, hkn⟩ := hf2
  unfold kd at hk
  rw [c1, c2] at hk
  simp only [List.getD_eq_getElem?_getD, hkn, Option.getD_some] at hk
  exact h2 L R s _ y s2 (by show dep (vI _ :: .ref _ :: []) ≤ _; rw [dep_i, dep_r]; decide) e4 (fun hy => hi _ _ _ _ _ hk hy e6 (fun hu => i_put (kn := 0) C hp c1 c2 (Or.inl rfl) hu hd k))
theorem s_pfOL (C : Ctx l b V cc own nL h) {f : Int → Int → Option Int} {e : XR} {x : XI} {ci fi index : Nat} (h1 : ER b V Γ 0 p e q) (hdup : decode cc q = .ok (.dup, 1)) (hf : FL own index ci fi 1) (hget : decode cc (q + 1) = .ok (.getfield index, 3)) (h2 : EL V Γ 3 (q + 1 + 3) x r) (hi : ∀ (z : ZZ) (st : List Value) (x y v : Int), inL x → inL y → f x y = some v → (inL v → V (r + 1) Γ z (vL v :: st)) → V r Γ z (vL y :: vL x :: st)) (hp : PL own index ci fi 1) (hd : decode cc (r + 1) = .ok (.putfield index, 3)) {q9 : Nat} (hq : r + 1 + 3 = q9) : SG V Rt Γ p (pfO ci fi f e x) q9 Γ B K := by
  subst hq
  intro L R σ o z' he k
  obtain ⟨a, s, e1, e2⟩ := bn_inv he
  obtain ⟨⟨c1, c2⟩, e3⟩ := ite_inv e2
  obtain ⟨y, s2, e4, e5⟩ := bn_inv e3
  obtain ⟨u, e6, e7⟩ := map_inv e5
  cases e7
  refine h1 L R σ [] a s dep_0 e1 (i_dup C hdup rfl (i_get C hf c1 c2 hget (i_ok C (fun okσ okl => ?_))))
  have hk := okσ a fi
  have hf2 := hf
  obtain ⟨Cn, T, N, hc, hlt, hin, hlink, hkn⟩ := hf2
  unfold kd at hk
  rw [c1, c2] at hk
  simp only [List.getD_eq_getElem?_getD, hkn, Option.getD_some] at hk
  exact h2 L R s _ y s2 (by show dep (vL _ :: .ref _ :: []) ≤ _; rw [dep_l, dep_r]; decide) e4 (fun hy => hi _ _ _ _ _ hk hy e6 (fun hu => i_put (kn := 1) C hp c1 c2 (Or.inr (Or.inl rfl)) hu hd k))
theorem s_iast (C : Ctx l b V cc own nL h) {e : XR} {i x : XI} {r2 : Nat} (h1 : ER b V Γ 0 p e q) (h2 : EI V Γ 1 q i r) (h3 : EI V Γ 2 r x r2) (hd : decode cc r2 = .ok (.iastore, 1)) {q9 : Nat} (hq : r2 + 1 = q9) : SG V Rt Γ p (paI 2 e i x) q9 Γ B K := by
  subst hq
  intro L R σ o z' he k
  obtain ⟨a, s, e1, e2⟩ := bn_inv he
  obtain ⟨y, s2, e3, e4⟩ := bn_inv e2
  obtain ⟨v, s3, e5, e6⟩ := bn_inv e4
  obtain ⟨⟨c1, c2, c3⟩, e7⟩ := ite_inv e6
  cases e7
  exact h1 L R σ [] a s dep_0 e1 (h2 L R s _ y s2 (by rw [dep_r]; decide) e3 (fun hy => h3 L R s2 _ v s3 (by rw [dep_i, dep_r]; decide) e5 (fun hv => i_iast C c1 hy c2 c3 hv hd k)))
theorem s_last (C : Ctx l b V cc own nL h) {e : XR} {i x : XI} {r2 : Nat} (h1 : ER b V Γ 0 p e q) (h2 : EI V Γ 1 q i r) (h3 : EL V Γ 2 r x r2) (hd : decode cc r2 = .ok (.lastore, 1)) {q9 : Nat} (hq : r2 + 1 = q9) : SG V Rt Γ p (paI 3 e i x) q9 Γ B K := by
  subst hq
  intro L R σ o z' he k
  obtain ⟨a, s, e1, e2⟩ := bn_inv he
  obtain ⟨y, s2, e3, e4⟩ := bn_inv e2
  obtain ⟨v, s3, e5, e6⟩ := bn_inv e4
  obtain ⟨⟨c1, c2, c3⟩, e7⟩ := ite_inv e6
  cases e7
  exact h1 L R σ [] a s dep_0 e1 (h2 L R s _ y s2 (by rw [dep_r]; decide) e3 (fun hy => h3 L R s2 _ v s3 (by rw [dep_i, dep_r]; decide) e5 (fun hv => i_last C c1 hy c2 c3 hv hd k)))
theorem s_bast (C : Ctx l b V cc own nL h) {e : XR} {i x : XI} {r2 : Nat} (h1 : ER b V Γ 0 p e q) (h2 : EI V Γ 1 q i r) (h3 : EI V Γ 2 r x r2) (hd : decode cc r2 = .ok (.bastore, 1)) {q9 : Nat} (hq : r2 + 1 = q9) : SG V Rt Γ p (paI 4 e i x) q9 Γ B K := by
  subst hq
  intro L R σ o z' he k
  obtain ⟨a, s, e1, e2⟩ := bn_inv he
  obtain ⟨y, s2, e3, e4⟩ := bn_inv e2
  obtain ⟨v, s3, e5, e6⟩ := bn_inv e4
  obtain ⟨⟨c1, c2, c3⟩, e7⟩ := ite_inv e6
  cases e7
  exact h1 L R σ [] a s dep_0 e1 (h2 L R s _ y s2 (by rw [dep_r]; decide) e3 (fun hy => h3 L R s2 _ v s3 (by rw [dep_i, dep_r]; decide) e5 (fun hv => i_bast C c1 hy c2 c3 trivial hd k)))
theorem s_zast (C : Ctx l b V cc own nL h) {e : XR} {i x : XI} {r2 : Nat} (h1 : ER b V Γ 0 p e q) (h2 : EI V Γ 1 q i r) (h3 : EI V Γ 2 r x r2) (hd : decode cc r2 = .ok (.bastore, 1)) {q9 : Nat} (hq : r2 + 1 = q9) : SG V Rt Γ p (paI 5 e i x) q9 Γ B K := by
  subst hq
  intro L R σ o z' he k
  obtain ⟨a, s, e1, e2⟩ := bn_inv he
  obtain ⟨y, s2, e3, e4⟩ := bn_inv e2
  obtain ⟨v, s3, e5, e6⟩ := bn_inv e4
  obtain ⟨⟨c1, c2, c3⟩, e7⟩ := ite_inv e6
  cases e7
  exact h1 L R σ [] a s dep_0 e1 (h2 L R s _ y s2 (by rw [dep_r]; decide) e3 (fun hy => h3 L R s2 _ v s3 (by rw [dep_i, dep_r]; decide) e5 (fun hv => i_zast C c1 hy c2 c3 trivial hd k)))
theorem s_paOI (C : Ctx l b V cc own nL h) {f : Int → Int → Option Int} {e : XR} {i x : XI} {r2 : Nat} (h1 : ER b V Γ 0 p e q) (h2 : EI V Γ 1 q i r) (hdup : decode cc r = .ok (.dup2, 1)) (hld : decode cc (r + 1) = .ok (.iaload, 1)) (h3 : EI V Γ 3 (r + 1 + 1) x r2) (hi : ∀ (z : ZZ) (st : List Value) (x y v : Int), inI x → inI y → f x y = some v → (inI v → V (r2 + 1) Γ z (vI v :: st)) → V r2 Γ z (vI y :: vI x :: st)) (hd : decode cc (r2 + 1) = .ok (.iastore, 1)) {q9 : Nat} (hq : r2 + 1 + 1 = q9) : SG V Rt Γ p (paO 2 f e i x) q9 Γ B K := by
  subst hq
  intro L R σ o z' he k
  obtain ⟨a, s, e1, e2⟩ := bn_inv he
  obtain ⟨y, s2, e3, e4⟩ := bn_inv e2
  obtain ⟨⟨c1, c2, c3⟩, e5⟩ := ite_inv e4
  obtain ⟨u, s3, e6, e7⟩ := bn_inv e5
  obtain ⟨t, e8, e9⟩ := map_inv e7
  cases e9
  refine h1 L R σ [] a s dep_0 e1 (h2 L R s _ y s2 (by rw [dep_r]; decide) e3 (fun hy => i_dup2 C hdup rfl rfl (i_iald C c1 hy c2 c3 hld (i_ok C (fun okσ okl => ?_)))))
  have hk := okσ a y.toNat
  unfold kd at hk
  rw [c1] at hk
  exact h3 L R s2 _ u s3 (by rw [dep_i, dep_i, dep_r]; decide) e6 (fun hu => hi _ _ _ _ _ hk hu e8 (fun ht => i_iast C c1 hy c2 c3 ht hd k))
theorem s_paOL (C : Ctx l b V cc own nL h) {f : Int → Int → Option Int} {e : XR} {i x : XI} {r2 : Nat} (h1 : ER b V Γ 0 p e q) (h2 : EI V Γ 1 q i r) (hdup : decode cc r = .ok (.dup2, 1)) (hld : decode cc (r + 1) = .ok (.laload, 1)) (h3 : EL V Γ 4 (r + 1 + 1) x r2) (hi : ∀ (z : ZZ) (st : List Value) (x y v : Int), inL x → inL y → f x y = some v → (inL v → V (r2 + 1) Γ z (vL v :: st)) → V r2 Γ z (vL y :: vL x :: st)) (hd : decode cc (r2 + 1) = .ok (.lastore, 1)) {q9 : Nat} (hq : r2 + 1 + 1 = q9) : SG V Rt Γ p (paO 3 f e i x) q9 Γ B K := by
  subst hq
  intro L R σ o z' he k
  obtain ⟨a, s, e1, e2⟩ := bn_inv he
  obtain ⟨y, s2, e3, e4⟩ := bn_inv e2
  obtain ⟨⟨c1, c2, c3⟩, e5⟩ := ite_inv e4
  obtain ⟨u, s3, e6, e7⟩ := bn_inv e5
  obtain ⟨t, e8, e9⟩ := map_inv e7
  cases e9
  refine h1 L R σ [] a s dep_0 e1 (h2 L R s _ y s2 (by rw [dep_r]; decide) e3 (fun hy => i_dup2 C hdup rfl rfl (i_lald C c1 hy c2 c3 hld (i_ok C (fun okσ okl => ?_)))))
  have hk := okσ a y.toNat
  unfold kd at hk
  rw [c1] at hk
  exact h3 L R s2 _ u s3 (by rw [dep_l, dep_i, dep_r]; decide) e6 (fun hu => hi _ _ _ _ _ hk hu e8 (fun ht => i_last C c1 hy c2 c3 ht hd k))
theorem s_pop (C : Ctx l b V cc own nL h) {e : XI} (h1 : EI V Γ 0 p e q) (hd : decode cc q = .ok (.pop, 1)) {q9 : Nat} (hq : q + 1 = q9) : SG V Rt Γ p (exI e) q9 Γ B K := by
  subst hq
  intro L R σ o z' he k
  obtain ⟨x, s, e1, e2⟩ := bn_inv he
  cases e2
  exact h1 L R σ [] x s dep_0 e1 (fun _ => i_pop C hd rfl k)
theorem s_exV {e : XI} (h1 : EV V Γ 0 p e q) : SG V Rt Γ p (exI e) q Γ B K := by
  intro L R σ o z' he k
  obtain ⟨x, s, e1, e2⟩ := bn_inv he
  cases e2
  exact h1 L R σ [] x s dep_0 e1 k
theorem s_if {c : XC} {f g : XS} {t e : Nat} (hc : EC V Γ 0 p c t e) (h1 : SG V Rt Γ t f q Γ1 B K) (h2 : SG V Rt Γ e g q Γ1 B K) : SG V Rt Γ p (iff c f g) q Γ1 B K := by
  intro L R σ o z' he k
  obtain ⟨y, s, e1, e2⟩ := bn_inv he
  refine hc L R σ [] y s dep_0 e1 (fun hy => ?_) (fun hy => ?_)
  · rw [if_pos hy] at e2
    exact h1 L R s o z' e2 k
  · rw [if_neg (by rw [hy]; decide)] at e2
    exact h2 L R s o z' e2 k
theorem s_goto (C : Ctx l b V cc own nL h) {f : XS} {off : Int} {q2 : Nat} (h1 : SG V Rt Γ p f q Γ1 B K) (hd : decode cc q = .ok (.goto off, 3)) (ht : (q : Int) + off = (q2 : Int)) : SG V Rt Γ p f q2 Γ1 B K := by
  intro L R σ o z' he k
  refine h1 L R σ o z' he ?_
  match o, k with
  | .inl 0, k => exact i_goto C hd ht k
  | .inl 1, k => exact k
  | .inl (n + 2), k => exact k
  | .inr r, k => exact k
theorem s_brk (C : Ctx l b V cc own nL h) {off : Int} {pb : Nat} (hd : decode cc p = .ok (.goto off, 3)) (ht : (p : Int) + off = (pb : Int)) (hs : ∀ q ∈ Γ2, q ∈ Γ) : SG V Rt Γ p brk q Γ1 (pb, Γ2) K := by
  intro L R σ o z' he k
  cases he
  exact i_goto C hd ht (i_sub C hs k)
theorem s_cnt (C : Ctx l b V cc own nL h) {off : Int} {pb : Nat} (hd : decode cc p = .ok (.goto off, 3)) (ht : (p : Int) + off = (pb : Int)) (hs : ∀ q ∈ Γ2, q ∈ Γ) : SG V Rt Γ p cnt q Γ1 B (pb, Γ2) := by
  intro L R σ o z' he k
  cases he
  exact i_goto C hd ht (i_sub C hs k)
theorem s_brk0 (C : Ctx l b V cc own nL h) {pb : Nat} (hs : ∀ q ∈ Γ2, q ∈ Γ) : SG V Rt Γ pb brk q Γ1 (pb, Γ2) K := by
  intro L R σ o z' he k
  cases he
  exact i_sub C hs k
theorem s_cnt0 (C : Ctx l b V cc own nL h) {pb : Nat} (hs : ∀ q ∈ Γ2, q ∈ Γ) : SG V Rt Γ pb cnt q Γ1 B (pb, Γ2) := by
  intro L R σ o z' he k
  cases he
  exact i_sub C hs k
/-- the ways out, as the owed answer has them -/
def RtE (r : Int) (σ' : SS) : Int → SS → Prop := fun x s => x = r ∧ s = σ'
theorem s_rtI {e : XI} {r0 : Int} {σ0 : SS} (X : RetI V cc 0 r0 σ0) (h1 : EI V Γ 0 p e q) (hd : decode cc q = .ok (.ireturn, 1)) : SG V (RtE r0 σ0) Γ p (rtI e) r Γ1 B K := by
  intro L R σ o z' he k
  obtain ⟨x, s, e1, e2⟩ := bn_inv he
  cases e2
  obtain ⟨k1, k2⟩ := k
  simp only at k2
  subst k1
  subst k2
  exact h1 L R σ [] _ _ dep_0 e1 (fun hx => X.1 q Γ L R (Or.inl rfl) hx hd)
theorem s_rtZ {e : XI} {r0 : Int} {σ0 : SS} (X : RetI V cc 3 r0 σ0) (h1 : EI V Γ 0 p e q) (hd : decode cc q = .ok (.ireturn, 1)) : SG V (RtE r0 σ0) Γ p (rtZ e) r Γ1 B K := by
  intro L R σ o z' he k
  obtain ⟨x, s, e1, e2⟩ := bn_inv he
  obtain ⟨c1, e2⟩ := ite_inv e2
  cases e2
  obtain ⟨k1, k2⟩ := k
  simp only at k2
  subst k1
  subst k2
  exact h1 L R σ [] _ _ dep_0 e1 (fun hx => X.1 q Γ L R (Or.inr ⟨rfl, c1⟩) hx hd)
theorem s_rtL {e : XI} {r0 : Int} {σ0 : SS} (X : RetI V cc 1 r0 σ0) (h1 : EL V Γ 0 p e q) (hd : decode cc q = .ok (.lreturn, 1)) : SG V (RtE r0 σ0) Γ p (rtI e) r Γ1 B K := by
  intro L R σ o z' he k
  obtain ⟨x, s, e1, e2⟩ := bn_inv he
  cases e2
  obtain ⟨k1, k2⟩ := k
  simp only at k2
  subst k1
  subst k2
  exact h1 L R σ [] _ _ dep_0 e1 (fun hx => X.2.1 q Γ L R rfl hx hd)
theorem s_rtV {r0 : Int} {σ0 : SS} (X : RetI V cc 4 r0 σ0) (hd : decode cc p = .ok (.return_, 1)) : SG V (RtE r0 σ0) Γ p rtV r Γ1 B K := by
  intro L R σ o z' he k
  cases he
  obtain ⟨k1, k2⟩ := k
  simp only at k2
  subst k2
  exact X.2.2 p Γ L R rfl k1.symm hd
theorem getD_take {α : Type} {l1 l2 : List α} {n j : Nat} {x : α} (h : j < n) (hl : n ≤ l1.length) : (l1.take n ++ l2.drop n).getD j x = l1.getD j x := by
  rw [List.getD_eq_getElem?_getD, List.getD_eq_getElem?_getD, List.getElem?_append_left (by rw [List.length_take]; omega), List.getElem?_take_of_lt h]
theorem s_blk (C : Ctx l b V cc own nL h) {f : XS} {n : Nat} {pb pk : Nat} {Γb Γk : GG} (h1 : SG V Rt Γ p f q Γ1 (pb, Γb) (pk, Γk)) (hn : n ≤ nL) (hs : ∀ q ∈ Γ2, q ∈ Γ1) (g0 : ∀ q ∈ Γ2, q.1 < n) (g1 : ∀ q ∈ Γb, q.1 < n) (g2 : ∀ q ∈ Γk, q.1 < n) : SG V Rt Γ p (blk n f) q Γ2 (pb, Γb) (pk, Γk) := by
  intro L R σ o z' he k
  unfold blk at he
  cases hf : f (L, R, σ) with
  | none => rw [hf] at he; cases he
  | some w =>
    obtain ⟨o1, L1, R1, s1⟩ := w
    rw [hf] at he
    cases he
    refine i_ok C (fun okσ okl => h1 L R σ _ _ hf ?_)
    have fin : ∀ (pc : Nat) (G : GG), (∀ q ∈ G, q.1 < n) → V pc G ((L1.take n ++ L.drop n, R1.take n ++ R.drop n, s1) : ZZ) [] → V pc G ((L1, R1, s1) : ZZ) [] := by
      intro pc G hG kk
      refine i_ok C (fun okσ2 okl2 => ?_)
      have a1 : L.length = nL := okl.1
      have a2 : R.length = nL := okl.2.1
      have a3 : L1.length = nL := okl2.1
      have a4 : R1.length = nL := okl2.2.1
      refine i_dead C ?_ ?_ (fun q hq => ⟨getD_take (hG q hq) (by omega), getD_take (hG q hq) (by omega)⟩) kk
      · simp only [List.length_append, List.length_take, List.length_drop]
        omega
      · simp only [List.length_append, List.length_take, List.length_drop]
        omega
    match o, k with
    | .inl 0, k => exact i_sub C hs (fin _ _ g0 k)
    | .inl 1, k => exact fin _ _ g1 k
    | .inl (n + 2), k => exact fin _ _ g2 k
    | .inr r, k => exact k
theorem lpN_mono {c : XC} {f u : XS} : ∀ (n m : Nat) (z : ZZ) (r : OO × ZZ), lpN c f u n z = some r → n ≤ m → lpN c f u m z = some r
  | 0, _, _, _, h, _ => by cases h
  | n + 1, 0, _, _, _, h => by omega
  | n + 1, m + 1, z, r, h, hm => by
    unfold lpN at h ⊢
    obtain ⟨y, s, e1, e2⟩ := bn_inv h
    rw [e1, bn_some]
    by_cases hy : y = true
    · rw [if_pos hy] at e2 ⊢
      cases hf : f (z.1, z.2.1, s) with
      | none => rw [hf] at e2; cases e2
      | some w =>
        obtain ⟨o1, z1⟩ := w
        rw [hf] at e2
        match o1, e2 with
        | .inl 1, e2 => exact e2
        | .inl 0, e2 =>
          simp only at e2 ⊢
          cases hu : u z1 with
          | none => rw [hu] at e2; cases e2
          | some w =>
            obtain ⟨o2, z2⟩ := w
            rw [hu] at e2
            match o2, e2 with
            | .inl 0, e2 => exact lpN_mono n m z2 r e2 (by omega)
            | .inl (k + 1), e2 => cases e2
            | .inr v, e2 => cases e2
        | .inl (j + 2), e2 =>
          simp only at e2 ⊢
          cases hu : u z1 with
          | none => rw [hu] at e2; cases e2
          | some w =>
            obtain ⟨o2, z2⟩ := w
            rw [hu] at e2
            match o2, e2 with
            | .inl 0, e2 => exact lpN_mono n m z2 r e2 (by omega)
            | .inl (k + 1), e2 => cases e2
            | .inr v, e2 => cases e2
        | .inr v, e2 => exact e2
    · rw [if_neg hy] at e2 ⊢
      exact e2
theorem lp_of {c : XC} {f u : XS} {n : Nat} {z : ZZ} {r : OO × ZZ} (h : lpN c f u n z = some r) : lp c f u z = some r := by
  have hex : ∃ r : OO × ZZ, ∃ n, lpN c f u n z = some r := ⟨r, n, h⟩
  unfold lp
  rw [dif_pos hex]
  obtain ⟨m, hm⟩ := Classical.choose_spec hex
  have h1 := lpN_mono n (max n m) z r h (Nat.le_max_left _ _)
  have h2 := lpN_mono m (max n m) z _ hm (Nat.le_max_right _ _)
  rw [h1] at h2
  exact h2.symm
theorem lp_inv {c : XC} {f u : XS} {z : ZZ} {r : OO × ZZ} (h : lp c f u z = some r) : ∃ n, lpN c f u n z = some r := by
  unfold lp at h
  split at h
  · rename_i hex
    obtain ⟨n, hn⟩ := Classical.choose_spec hex
    exact ⟨n, by rw [hn, ← h]⟩
  · cases h
theorem s_wh (C : Ctx l b V cc own nL h) {c : XC} {f : XS} {tb : Nat} (hc : EC V Γ 0 p c tb q) (h1 : SG V Rt Γ tb f p Γ (q, Γ) (p, Γ)) : SG V Rt Γ p (lp c f sk) q Γ B K := by
  have key : ∀ (n : Nat) (L : List Int) (R : List Nat) (σ : SS) (o : OO) (z' : ZZ), lpN c f sk n (L, R, σ) = some (o, z') → oK V Rt (exG q Γ B K) o z' → V p Γ (L, R, σ) [] := by
    intro n
    induction n with
    | zero => intro L R σ o z' he; cases he
    | succ n ih =>
      intro L R σ o z' he k
      unfold lpN at he
      obtain ⟨y, s, e1, e2⟩ := bn_inv he
      refine hc L R σ [] y s dep_0 e1 (fun hy => ?_) (fun hy => ?_)
      · rw [if_pos hy] at e2
        cases hf : f (L, R, s) with
        | none => simp only [hf] at e2; cases e2
        | some w =>
          obtain ⟨o1, L1, R1, s1⟩ := w
          simp only [hf] at e2
          refine h1 L R s o1 _ hf ?_
          match o1, e2 with
          | .inl 1, e2 => cases e2; exact k
          | .inl 0, e2 => exact ih L1 R1 s1 o z' e2 k
          | .inl (j + 2), e2 => exact ih L1 R1 s1 o z' e2 k
          | .inr v, e2 => cases e2; exact k
      · rw [if_neg (by rw [hy]; decide)] at e2
        cases e2
        exact k
  intro L R σ o z' he k
  obtain ⟨n, hn⟩ := lp_inv he
  exact key n L R σ o z' hn k
theorem s_lp (C : Ctx l b V cc own nL h) {c : XC} {f u : XS} {tb pu qu : Nat} {off : Int} (hc : EC V Γ 0 p c tb q) (h1 : SG V Rt Γ tb f pu Γ (q, Γ) (pu, Γ)) (h2 : SG V Rt Γ pu u qu Γ (q, Γ) (pu, Γ)) (hd : decode cc qu = .ok (.goto off, 3)) (ht : (qu : Int) + off = (p : Int)) : SG V Rt Γ p (lp c f u) q Γ B K := by
  have key : ∀ (n : Nat) (L : List Int) (R : List Nat) (σ : SS) (o : OO) (z' : ZZ), lpN c f u n (L, R, σ) = some (o, z') → oK V Rt (exG q Γ B K) o z' → V p Γ (L, R, σ) [] := by
    intro n
    induction n with
    | zero => intro L R σ o z' he; cases he
    | succ n ih =>
      intro L R σ o z' he k
      unfold lpN at he
      obtain ⟨y, s, e1, e2⟩ := bn_inv he
      refine hc L R σ [] y s dep_0 e1 (fun hy => ?_) (fun hy => ?_)
      · rw [if_pos hy] at e2
        cases hf : f (L, R, s) with
        | none => simp only [hf] at e2; cases e2
        | some w =>
          obtain ⟨o1, L1, R1, s1⟩ := w
          simp only [hf] at e2
          refine h1 L R s o1 _ hf ?_
          have goon : ∀ e3 : (match u (L1, R1, s1) with | some (.inl 0, z2) => lpN c f u n z2 | _ => none) = some (o, z'), V pu Γ ((L1, R1, s1) : ZZ) [] := by
            intro e3
            cases hu : u (L1, R1, s1) with
            | none => rw [hu] at e3; cases e3
            | some w =>
              obtain ⟨o2, L2, R2, s2⟩ := w
              rw [hu] at e3
              match o2, e3, hu with
              | .inl 0, e3, hu => exact h2 L1 R1 s1 _ _ hu (i_goto C hd ht (ih L2 R2 s2 o z' e3 k))
              | .inl (j + 1), e3, hu => cases e3
              | .inr v, e3, hu => cases e3
          match o1, e2 with
          | .inl 1, e2 => cases e2; exact k
          | .inl 0, e2 => exact goon e2
          | .inl (j + 2), e2 => exact goon e2
          | .inr v, e2 => cases e2; exact k
      · rw [if_neg (by rw [hy]; decide)] at e2
        cases e2
        exact k
  intro L R σ o z' he k
  obtain ⟨n, hn⟩ := lp_inv he
  exact key n L R σ o z' hn k
theorem s_sw {e : XI} {f : Int → XS} {tg : Int → Nat} (h1 : EI V Γ 0 p e r) (hi : ∀ (x : Int) (z : ZZ), inI x → V (tg x) Γ z [] → V r Γ z [vI x]) (h2 : ∀ x : Int, SG V Rt Γ (tg x) (f x) q Γ1 (q, Γ1) K) : SG V Rt Γ p (sw e f) q Γ1 B K := by
  intro L R σ o z' he k
  obtain ⟨x, s, e1, e2⟩ := bn_inv he
  refine h1 L R σ [] x s dep_0 e1 (fun hx => hi x _ hx ?_)
  cases hf : f x (L, R, s) with
  | none => simp only [hf] at e2; cases e2
  | some w =>
    obtain ⟨o1, z1⟩ := w
    simp only [hf] at e2
    refine h2 x L R s o1 z1 hf ?_
    match o1, e2 with
    | .inl 1, e2 => cases e2; exact k
    | .inl 0, e2 => cases e2; exact k
    | .inl (j + 2), e2 => cases e2; exact k
    | .inr v, e2 => cases e2; exact k
theorem s_sub (C : Ctx l b V cc own nL h) {f : XS} (h1 : SG V Rt Γ p f q Γ1 B K) (hs : ∀ q ∈ Γ2, q ∈ Γ1) : SG V Rt Γ p f q Γ2 B K := by
  intro L R σ o z' he k
  refine h1 L R σ o z' he ?_
  match o, k with
  | .inl 0, k => exact i_sub C hs k
  | .inl 1, k => exact k
  | .inl (n + 2), k => exact k
  | .inr r, k => exact k
def outV (o : Option (OO × ZZ)) : Option (Int × SS) := match o with
  | some (.inr v, z) => some (v, z.2.2)
  | _ => none
theorem s_fin {f : XS} {r0 : Int} {σ0 : SS} {L : List Int} {R : List Nat} {σ : SS} (h1 : SG V (RtE r0 σ0) Γ p f q Γ1 B K) (he : outV (f (L, R, σ)) = some (r0, σ0)) : V p Γ (L, R, σ) [] := by
  unfold outV at he
  split at he
  · rename_i v z hf
    cases he
    exact h1 L R σ _ _ hf ⟨rfl, rfl⟩
  · cases he
end STA
