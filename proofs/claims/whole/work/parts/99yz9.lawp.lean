/-! the law's own answers: each call agrees, and Rel goes on -/
section LAWP
variable {V : Int} {σ : SS} {L : List Int} {R : List Nat} {bS Ls : Nat} {xs : Nat → Int} {i : Int}
def LBk (X : XS) (V : Int) (L : List Int) (R : List Nat) (σ : SS) : Prop := ∃ (σ' : SS) (V' : Int), X (L, R, σ) = some (.inl 0, (L, R, σ')) ∧ Rel V' σ' ∧ V' ≤ V + 12020
theorem lr_at {k a : Nat} (h : R.getD k 0 = a) : ∀ σ : SS, lR k (L, R, σ) = some (a, σ) := by
  intro σ
  show some (R.getD k 0, σ) = _
  rw [h]
theorem ci_at (n : Int) : ∀ σ : SS, cI n (L, R, σ) = some (n, σ) := fun _ => rfl
theorem o1_at {e : XI} {x : Int} (h : ∀ σ : SS, e (L, R, σ) = some (x, σ)) : ∀ σ : SS, op1 (fun x => some x) e (L, R, σ) = some (x, σ) := by
  intro σ
  unfold op1
  rw [h σ, bn_some]
  rfl
theorem o2_at {f : Int → Int → Int} {a b : XI} {x y : Int} (ha : ∀ σ : SS, a (L, R, σ) = some (x, σ)) (hb : ∀ σ : SS, b (L, R, σ) = some (y, σ)) : ∀ σ : SS, op2 (fun x y => some (f x y)) a b (L, R, σ) = some (f x y, σ) := by
  intro σ
  unfold op2
  rw [ha σ, bn_some]
  show bn (b (L, R, σ)) _ = _
  rw [hb σ, bn_some]
  rfl
theorem tn_at {e : XI} {x : Int} (h : ∀ σ : SS, e (L, R, σ) = some (x, σ)) : ∀ σ : SS, tern (cmp1 (fun x => decide (¬ x = 0)) e) (cI 1) (cI 0) (L, R, σ) = some (if x = 0 then (0 : Int) else 1, σ) := by
  intro σ
  have c : cmp1 (fun x => decide (¬ x = 0)) e (L, R, σ) = some (decide (¬ x = 0), σ) := by
    unfold cmp1
    rw [h σ, bn_some]
  unfold tern
  rw [c, bn_some]
  by_cases q : x = 0
  · rw [if_pos q, if_neg (by simp [q])]
    rfl
  · rw [if_neg q, if_pos (by simp [q])]
    rfl
theorem tn_01 (x : Int) : (if x = 0 then (0 : Int) else 1) = 0 ∨ (if x = 0 then (0 : Int) else 1) = 1 := by
  by_cases q : x = 0
  · left; rw [if_pos q]
  · right; rw [if_neg q]
theorem sc_at {c : Int} (hR0 : R.getD 0 0 = bS) (hL : L.getD 3 0 = i) (hi : 0 ≤ i ∧ i + 6 ≤ (Ls : Int) ∧ Ls ≤ 3072) (hc : 0 ≤ c ∧ c ≤ 5) : ∀ σ : SS, scrI bS xs Ls (op2 (fun x y => some (wI (x + y))) (lI 3) (cI c)) (L, R, σ) = some (xs (i + c).toNat, σ) := by
  intro σ
  have q : op2 (fun x y => some (wI (x + y))) (lI 3) (cI c) (L, R, σ) = some (wI (i + c), σ) := o2_at (f := fun x y => wI (x + y)) (a := lI 3) (b := cI c) (fun σ => by show some (L.getD 3 0, σ) = _; rw [hL]) (ci_at c) σ
  rw [wI_id (show inI (i + c) by unfold inI; omega)] at q
  unfold scrI
  rw [q, bn_some]
  exact if_pos ⟨hR0, by omega, by omega⟩
theorem in_x {x : Int} (h : inI x) : -2147483648 ≤ x ∧ x ≤ 2147483647 := by
  unfold inI at h
  omega
theorem s11 : (sh 0).1 = 1 ∧ (sh 0).2.1 = 11 := by rw [sh_0]; exact ⟨rfl, rfl⟩
theorem s12 : (sh 239).1 = 1 ∧ (sh 239).2.1 = 12 := by rw [sh_239]; exact ⟨rfl, rfl⟩
theorem cv_n {ci a : Nat} {F : Nat → SS → Option (Int × SS)} {r : XR} (h0 : ∀ σ : SS, r (L, R, σ) = some (a, σ)) (hs : (sh a).1 = 1 ∧ (sh a).2.1 = ci) : ∀ σ : SS, caV_ ci F r (L, R, σ) = F a σ := by
  intro σ
  unfold caV_
  rw [h0 σ, bn_some]
  exact if_pos hs
theorem cv_i {ci a : Nat} {F : Nat → Int → SS → Option (Int × SS)} {r : XR} {e1 : XI} {x1 : Int} (h0 : ∀ σ : SS, r (L, R, σ) = some (a, σ)) (h1 : ∀ σ : SS, e1 (L, R, σ) = some (x1, σ)) (hs : (sh a).1 = 1 ∧ (sh a).2.1 = ci) : ∀ σ : SS, caV_i ci F r e1 (L, R, σ) = F a x1 σ := by
  intro σ
  unfold caV_i
  rw [h0 σ, bn_some]
  show bn (e1 (L, R, σ)) _ = _
  rw [h1 σ, bn_some]
  exact if_pos hs
theorem cv_ii {ci a : Nat} {F : Nat → Int → Int → SS → Option (Int × SS)} {r : XR} {e1 e2 : XI} {x1 x2 : Int} (h0 : ∀ σ : SS, r (L, R, σ) = some (a, σ)) (h1 : ∀ σ : SS, e1 (L, R, σ) = some (x1, σ)) (h2 : ∀ σ : SS, e2 (L, R, σ) = some (x2, σ)) (hs : (sh a).1 = 1 ∧ (sh a).2.1 = ci) : ∀ σ : SS, caV_ii ci F r e1 e2 (L, R, σ) = F a x1 x2 σ := by
  intro σ
  unfold caV_ii
  rw [h0 σ, bn_some]
  show bn (e1 (L, R, σ)) _ = _
  rw [h1 σ, bn_some]
  show bn (e2 (L, R, σ)) _ = _
  rw [h2 σ, bn_some]
  exact if_pos hs
theorem cv_iii {ci a : Nat} {F : Nat → Int → Int → Int → SS → Option (Int × SS)} {r : XR} {e1 e2 e3 : XI} {x1 x2 x3 : Int} (h0 : ∀ σ : SS, r (L, R, σ) = some (a, σ)) (h1 : ∀ σ : SS, e1 (L, R, σ) = some (x1, σ)) (h2 : ∀ σ : SS, e2 (L, R, σ) = some (x2, σ)) (h3 : ∀ σ : SS, e3 (L, R, σ) = some (x3, σ)) (hs : (sh a).1 = 1 ∧ (sh a).2.1 = ci) : ∀ σ : SS, caV_iii ci F r e1 e2 e3 (L, R, σ) = F a x1 x2 x3 σ := by
  intro σ
  unfold caV_iii
  rw [h0 σ, bn_some]
  show bn (e1 (L, R, σ)) _ = _
  rw [h1 σ, bn_some]
  show bn (e2 (L, R, σ)) _ = _
  rw [h2 σ, bn_some]
  show bn (e3 (L, R, σ)) _ = _
  rw [h3 σ, bn_some]
  exact if_pos hs
theorem cv_iiii {ci a : Nat} {F : Nat → Int → Int → Int → Int → SS → Option (Int × SS)} {r : XR} {e1 e2 e3 e4 : XI} {x1 x2 x3 x4 : Int} (h0 : ∀ σ : SS, r (L, R, σ) = some (a, σ)) (h1 : ∀ σ : SS, e1 (L, R, σ) = some (x1, σ)) (h2 : ∀ σ : SS, e2 (L, R, σ) = some (x2, σ)) (h3 : ∀ σ : SS, e3 (L, R, σ) = some (x3, σ)) (h4 : ∀ σ : SS, e4 (L, R, σ) = some (x4, σ)) (hs : (sh a).1 = 1 ∧ (sh a).2.1 = ci) : ∀ σ : SS, caV_iiii ci F r e1 e2 e3 e4 (L, R, σ) = F a x1 x2 x3 x4 σ := by
  intro σ
  unfold caV_iiii
  rw [h0 σ, bn_some]
  show bn (e1 (L, R, σ)) _ = _
  rw [h1 σ, bn_some]
  show bn (e2 (L, R, σ)) _ = _
  rw [h2 σ, bn_some]
  show bn (e3 (L, R, σ)) _ = _
  rw [h3 σ, bn_some]
  show bn (e4 (L, R, σ)) _ = _
  rw [h4 σ, bn_some]
  exact if_pos hs
theorem cv_iiiii {ci a : Nat} {F : Nat → Int → Int → Int → Int → Int → SS → Option (Int × SS)} {r : XR} {e1 e2 e3 e4 e5 : XI} {x1 x2 x3 x4 x5 : Int} (h0 : ∀ σ : SS, r (L, R, σ) = some (a, σ)) (h1 : ∀ σ : SS, e1 (L, R, σ) = some (x1, σ)) (h2 : ∀ σ : SS, e2 (L, R, σ) = some (x2, σ)) (h3 : ∀ σ : SS, e3 (L, R, σ) = some (x3, σ)) (h4 : ∀ σ : SS, e4 (L, R, σ) = some (x4, σ)) (h5 : ∀ σ : SS, e5 (L, R, σ) = some (x5, σ)) (hs : (sh a).1 = 1 ∧ (sh a).2.1 = ci) : ∀ σ : SS, caV_iiiii ci F r e1 e2 e3 e4 e5 (L, R, σ) = F a x1 x2 x3 x4 x5 σ := by
  intro σ
  unfold caV_iiiii
  rw [h0 σ, bn_some]
  show bn (e1 (L, R, σ)) _ = _
  rw [h1 σ, bn_some]
  show bn (e2 (L, R, σ)) _ = _
  rw [h2 σ, bn_some]
  show bn (e3 (L, R, σ)) _ = _
  rw [h3 σ, bn_some]
  show bn (e4 (L, R, σ)) _ = _
  rw [h4 σ, bn_some]
  show bn (e5 (L, R, σ)) _ = _
  rw [h5 σ, bn_some]
  exact if_pos hs
theorem cv_iil {ci a : Nat} {F : Nat → Int → Int → Int → SS → Option (Int × SS)} {r : XR} {e1 e2 e3 : XI} {x1 x2 x3 : Int} (h0 : ∀ σ : SS, r (L, R, σ) = some (a, σ)) (h1 : ∀ σ : SS, e1 (L, R, σ) = some (x1, σ)) (h2 : ∀ σ : SS, e2 (L, R, σ) = some (x2, σ)) (h3 : ∀ σ : SS, e3 (L, R, σ) = some (x3, σ)) (hs : (sh a).1 = 1 ∧ (sh a).2.1 = ci) : ∀ σ : SS, caV_iil ci F r e1 e2 e3 (L, R, σ) = F a x1 x2 x3 σ := by
  intro σ
  unfold caV_iil
  rw [h0 σ, bn_some]
  show bn (e1 (L, R, σ)) _ = _
  rw [h1 σ, bn_some]
  show bn (e2 (L, R, σ)) _ = _
  rw [h2 σ, bn_some]
  show bn (e3 (L, R, σ)) _ = _
  rw [h3 σ, bn_some]
  exact if_pos hs
theorem lb_go {V' : Int} {A B : XI} {Fc Fm : SS → Option (Int × SS)} (hA : ∀ σ : SS, A (L, R, σ) = Fc σ) (hB : ∀ σ : SS, B (L, R, σ) = Fm σ) (hV : V' ≤ V + 12020) (ok : Ok V' Fc Fm σ) : LBk (iff (cmp2 (fun x y => decide (¬ x = y)) A B) (rtZ (cI 0)) sk) V L R σ := by
  obtain ⟨r, σ1, e1, r2, σ2, e2, hr, hR⟩ := ok
  rw [hr] at e2
  refine ⟨σ2, V', ?_, hR, hV⟩
  have c : cmp2 (fun x y => decide (¬ x = y)) A B (L, R, σ) = some (decide (¬ r = r), σ2) := by
    unfold cmp2
    rw [hA σ, e1, bn_some]
    show bn (B (L, R, σ1)) _ = _
    rw [hB σ1, e2, bn_some]
  have d : decide (¬ r = r) = false := by simp
  rw [d] at c
  show bn (cmp2 (fun x y => decide (¬ x = y)) A B (L, R, σ)) _ = _
  rw [c, bn_some]
  try rfl
theorem lb_0 (hR0 : R.getD 0 0 = bS) (hR1 : R.getD 1 0 = 0) (hR2 : R.getD 2 0 = 239) (hL : L.getD 3 0 = i) (hi : 0 ≤ i ∧ i + 6 ≤ (Ls : Int) ∧ Ls ≤ 3072) (hx : ∀ j, inI (xs j)) (hV : V ≤ 1000000000) (hr : Rel V σ) : LBk (LB_0 bS xs Ls) V L R σ := by
  unfold LB_0
  exact lb_go (cv_n (ci := 11) (a := 0) (lr_at hR1)  s11) (cv_n (ci := 12) (a := 239) (lr_at hR2)  s12) (by omega) (op_status hr)
theorem lb_1 (hR0 : R.getD 0 0 = bS) (hR1 : R.getD 1 0 = 0) (hR2 : R.getD 2 0 = 239) (hL : L.getD 3 0 = i) (hi : 0 ≤ i ∧ i + 6 ≤ (Ls : Int) ∧ Ls ≤ 3072) (hx : ∀ j, inI (xs j)) (hV : V ≤ 1000000000) (hr : Rel V σ) : LBk (LB_1 bS xs Ls) V L R σ := by
  unfold LB_1
  exact lb_go (cv_n (ci := 11) (a := 0) (lr_at hR1)  s11) (cv_n (ci := 12) (a := 239) (lr_at hR2)  s12) (by omega) (op_top hr)
theorem lb_2 (hR0 : R.getD 0 0 = bS) (hR1 : R.getD 1 0 = 0) (hR2 : R.getD 2 0 = 239) (hL : L.getD 3 0 = i) (hi : 0 ≤ i ∧ i + 6 ≤ (Ls : Int) ∧ Ls ≤ 3072) (hx : ∀ j, inI (xs j)) (hV : V ≤ 1000000000) (hr : Rel V σ) : LBk (LB_2 bS xs Ls) V L R σ := by
  unfold LB_2
  exact lb_go (cv_n (ci := 11) (a := 0) (lr_at hR1)  s11) (cv_n (ci := 12) (a := 239) (lr_at hR2)  s12) (by omega) (op_bottom hr)
theorem lb_3 (hR0 : R.getD 0 0 = bS) (hR1 : R.getD 1 0 = 0) (hR2 : R.getD 2 0 = 239) (hL : L.getD 3 0 = i) (hi : 0 ≤ i ∧ i + 6 ≤ (Ls : Int) ∧ Ls ≤ 3072) (hx : ∀ j, inI (xs j)) (hV : V ≤ 1000000000) (hr : Rel V σ) : LBk (LB_3 bS xs Ls) V L R σ := by
  unfold LB_3
  exact lb_go (cv_iii (ci := 11) (a := 0) (lr_at hR1) (sc_at (c := 1) hR0 hL hi (by omega)) (sc_at (c := 2) hR0 hL hi (by omega)) (sc_at (c := 3) hR0 hL hi (by omega)) s11) (cv_iii (ci := 12) (a := 239) (lr_at hR2) (sc_at (c := 1) hR0 hL hi (by omega)) (sc_at (c := 2) hR0 hL hi (by omega)) (sc_at (c := 3) hR0 hL hi (by omega)) s12) (by omega) (op_tray hr _ _ _)
theorem lb_4 (hR0 : R.getD 0 0 = bS) (hR1 : R.getD 1 0 = 0) (hR2 : R.getD 2 0 = 239) (hL : L.getD 3 0 = i) (hi : 0 ≤ i ∧ i + 6 ≤ (Ls : Int) ∧ Ls ≤ 3072) (hx : ∀ j, inI (xs j)) (hV : V ≤ 1000000000) (hr : Rel V σ) : LBk (LB_4 bS xs Ls) V L R σ := by
  unfold LB_4
  exact lb_go (cv_iil (ci := 11) (a := 0) (lr_at hR1) (sc_at (c := 1) hR0 hL hi (by omega)) (sc_at (c := 2) hR0 hL hi (by omega)) (o2_at (f := orL) (o2_at (f := shlL) (o1_at (sc_at (c := 3) hR0 hL hi (by omega))) (ci_at 32)) (o2_at (f := andL) (o1_at (sc_at (c := 4) hR0 hL hi (by omega))) (ci_at 4294967295))) s11) (cv_iil (ci := 12) (a := 239) (lr_at hR2) (sc_at (c := 1) hR0 hL hi (by omega)) (sc_at (c := 2) hR0 hL hi (by omega)) (o2_at (f := orL) (o2_at (f := shlL) (o1_at (sc_at (c := 3) hR0 hL hi (by omega))) (ci_at 32)) (o2_at (f := andL) (o1_at (sc_at (c := 4) hR0 hL hi (by omega))) (ci_at 4294967295))) s12) (by omega) (op_write hr _ _ _)
theorem lb_5 (hR0 : R.getD 0 0 = bS) (hR1 : R.getD 1 0 = 0) (hR2 : R.getD 2 0 = 239) (hL : L.getD 3 0 = i) (hi : 0 ≤ i ∧ i + 6 ≤ (Ls : Int) ∧ Ls ≤ 3072) (hx : ∀ j, inI (xs j)) (hV : V ≤ 1000000000) (hr : Rel V σ) : LBk (LB_5 bS xs Ls) V L R σ := by
  unfold LB_5
  exact lb_go (cv_ii (ci := 11) (a := 0) (lr_at hR1) (sc_at (c := 1) hR0 hL hi (by omega)) (sc_at (c := 2) hR0 hL hi (by omega)) s11) (cv_ii (ci := 12) (a := 239) (lr_at hR2) (sc_at (c := 1) hR0 hL hi (by omega)) (sc_at (c := 2) hR0 hL hi (by omega)) s12) (by omega) (op_read hr _ _)
theorem lb_6 (hR0 : R.getD 0 0 = bS) (hR1 : R.getD 1 0 = 0) (hR2 : R.getD 2 0 = 239) (hL : L.getD 3 0 = i) (hi : 0 ≤ i ∧ i + 6 ≤ (Ls : Int) ∧ Ls ≤ 3072) (hx : ∀ j, inI (xs j)) (hV : V ≤ 1000000000) (hr : Rel V σ) : LBk (LB_6 bS xs Ls) V L R σ := by
  unfold LB_6
  exact lb_go (cv_iiiii (ci := 11) (a := 0) (lr_at hR1) (sc_at (c := 1) hR0 hL hi (by omega)) (sc_at (c := 2) hR0 hL hi (by omega)) (sc_at (c := 3) hR0 hL hi (by omega)) (sc_at (c := 4) hR0 hL hi (by omega)) (sc_at (c := 5) hR0 hL hi (by omega)) s11) (cv_iiiii (ci := 12) (a := 239) (lr_at hR2) (sc_at (c := 1) hR0 hL hi (by omega)) (sc_at (c := 2) hR0 hL hi (by omega)) (sc_at (c := 3) hR0 hL hi (by omega)) (sc_at (c := 4) hR0 hL hi (by omega)) (sc_at (c := 5) hR0 hL hi (by omega)) s12) (by omega) (op_pour hr (in_x (hx _)) (in_x (hx _)) (in_x (hx _)))
theorem lb_7 (hR0 : R.getD 0 0 = bS) (hR1 : R.getD 1 0 = 0) (hR2 : R.getD 2 0 = 239) (hL : L.getD 3 0 = i) (hi : 0 ≤ i ∧ i + 6 ≤ (Ls : Int) ∧ Ls ≤ 3072) (hx : ∀ j, inI (xs j)) (hV : V ≤ 1000000000) (hr : Rel V σ) : LBk (LB_7 bS xs Ls) V L R σ := by
  unfold LB_7
  exact lb_go (cv_iiiii (ci := 11) (a := 0) (lr_at hR1) (sc_at (c := 1) hR0 hL hi (by omega)) (sc_at (c := 2) hR0 hL hi (by omega)) (sc_at (c := 3) hR0 hL hi (by omega)) (sc_at (c := 4) hR0 hL hi (by omega)) (sc_at (c := 5) hR0 hL hi (by omega)) s11) (cv_iiiii (ci := 12) (a := 239) (lr_at hR2) (sc_at (c := 1) hR0 hL hi (by omega)) (sc_at (c := 2) hR0 hL hi (by omega)) (sc_at (c := 3) hR0 hL hi (by omega)) (sc_at (c := 4) hR0 hL hi (by omega)) (sc_at (c := 5) hR0 hL hi (by omega)) s12) (by omega) (op_feed hr _ _ _ _ _)
theorem lb_8 (hR0 : R.getD 0 0 = bS) (hR1 : R.getD 1 0 = 0) (hR2 : R.getD 2 0 = 239) (hL : L.getD 3 0 = i) (hi : 0 ≤ i ∧ i + 6 ≤ (Ls : Int) ∧ Ls ≤ 3072) (hx : ∀ j, inI (xs j)) (hV : V ≤ 1000000000) (hr : Rel V σ) : LBk (LB_8 bS xs Ls) V L R σ := by
  unfold LB_8
  exact lb_go (cv_i (ci := 11) (a := 0) (lr_at hR1) (sc_at (c := 1) hR0 hL hi (by omega)) s11) (cv_i (ci := 12) (a := 239) (lr_at hR2) (sc_at (c := 1) hR0 hL hi (by omega)) s12) (by omega) (op_park hr (by omega) _)
theorem lb_9 (hR0 : R.getD 0 0 = bS) (hR1 : R.getD 1 0 = 0) (hR2 : R.getD 2 0 = 239) (hL : L.getD 3 0 = i) (hi : 0 ≤ i ∧ i + 6 ≤ (Ls : Int) ∧ Ls ≤ 3072) (hx : ∀ j, inI (xs j)) (hV : V ≤ 1000000000) (hr : Rel V σ) : LBk (LB_9 bS xs Ls) V L R σ := by
  unfold LB_9
  exact lb_go (cv_i (ci := 11) (a := 0) (lr_at hR1) (sc_at (c := 1) hR0 hL hi (by omega)) s11) (cv_i (ci := 12) (a := 239) (lr_at hR2) (sc_at (c := 1) hR0 hL hi (by omega)) s12) (by omega) (op_evenings hr _)
theorem lb_10 (hR0 : R.getD 0 0 = bS) (hR1 : R.getD 1 0 = 0) (hR2 : R.getD 2 0 = 239) (hL : L.getD 3 0 = i) (hi : 0 ≤ i ∧ i + 6 ≤ (Ls : Int) ∧ Ls ≤ 3072) (hx : ∀ j, inI (xs j)) (hV : V ≤ 1000000000) (hr : Rel V σ) : LBk (LB_10 bS xs Ls) V L R σ := by
  unfold LB_10
  exact lb_go (cv_i (ci := 11) (a := 0) (lr_at hR1) (sc_at (c := 1) hR0 hL hi (by omega)) s11) (cv_i (ci := 12) (a := 239) (lr_at hR2) (sc_at (c := 1) hR0 hL hi (by omega)) s12) (by omega) (op_fault hr _)
theorem lb_11 (hR0 : R.getD 0 0 = bS) (hR1 : R.getD 1 0 = 0) (hR2 : R.getD 2 0 = 239) (hL : L.getD 3 0 = i) (hi : 0 ≤ i ∧ i + 6 ≤ (Ls : Int) ∧ Ls ≤ 3072) (hx : ∀ j, inI (xs j)) (hV : V ≤ 1000000000) (hr : Rel V σ) : LBk (LB_11 bS xs Ls) V L R σ := by
  unfold LB_11
  exact lb_go (cv_i (ci := 11) (a := 0) (lr_at hR1) (sc_at (c := 1) hR0 hL hi (by omega)) s11) (cv_i (ci := 12) (a := 239) (lr_at hR2) (sc_at (c := 1) hR0 hL hi (by omega)) s12) (by omega) (op_many hr _)
theorem lb_12 (hR0 : R.getD 0 0 = bS) (hR1 : R.getD 1 0 = 0) (hR2 : R.getD 2 0 = 239) (hL : L.getD 3 0 = i) (hi : 0 ≤ i ∧ i + 6 ≤ (Ls : Int) ∧ Ls ≤ 3072) (hx : ∀ j, inI (xs j)) (hV : V ≤ 1000000000) (hr : Rel V σ) : LBk (LB_12 bS xs Ls) V L R σ := by
  unfold LB_12
  exact lb_go (cv_ii (ci := 11) (a := 0) (lr_at hR1) (sc_at (c := 1) hR0 hL hi (by omega)) (sc_at (c := 2) hR0 hL hi (by omega)) s11) (cv_ii (ci := 12) (a := 239) (lr_at hR2) (sc_at (c := 1) hR0 hL hi (by omega)) (sc_at (c := 2) hR0 hL hi (by omega)) s12) (by omega) (op_tune hr _ _)
theorem lb_13 (hR0 : R.getD 0 0 = bS) (hR1 : R.getD 1 0 = 0) (hR2 : R.getD 2 0 = 239) (hL : L.getD 3 0 = i) (hi : 0 ≤ i ∧ i + 6 ≤ (Ls : Int) ∧ Ls ≤ 3072) (hx : ∀ j, inI (xs j)) (hV : V ≤ 1000000000) (hr : Rel V σ) : LBk (LB_13 bS xs Ls) V L R σ := by
  unfold LB_13
  exact lb_go (cv_ii (ci := 11) (a := 0) (lr_at hR1) (sc_at (c := 1) hR0 hL hi (by omega)) (sc_at (c := 2) hR0 hL hi (by omega)) s11) (cv_ii (ci := 12) (a := 239) (lr_at hR2) (sc_at (c := 1) hR0 hL hi (by omega)) (sc_at (c := 2) hR0 hL hi (by omega)) s12) (by omega) (op_band hr _ _)
theorem lb_14 (hR0 : R.getD 0 0 = bS) (hR1 : R.getD 1 0 = 0) (hR2 : R.getD 2 0 = 239) (hL : L.getD 3 0 = i) (hi : 0 ≤ i ∧ i + 6 ≤ (Ls : Int) ∧ Ls ≤ 3072) (hx : ∀ j, inI (xs j)) (hV : V ≤ 1000000000) (hr : Rel V σ) : LBk (LB_14 bS xs Ls) V L R σ := by
  unfold LB_14
  exact lb_go (cv_ii (ci := 11) (a := 0) (lr_at hR1) (sc_at (c := 1) hR0 hL hi (by omega)) (sc_at (c := 2) hR0 hL hi (by omega)) s11) (cv_ii (ci := 12) (a := 239) (lr_at hR2) (sc_at (c := 1) hR0 hL hi (by omega)) (sc_at (c := 2) hR0 hL hi (by omega)) s12) (by omega) (op_entry hr _ _)
theorem lb_15 (hR0 : R.getD 0 0 = bS) (hR1 : R.getD 1 0 = 0) (hR2 : R.getD 2 0 = 239) (hL : L.getD 3 0 = i) (hi : 0 ≤ i ∧ i + 6 ≤ (Ls : Int) ∧ Ls ≤ 3072) (hx : ∀ j, inI (xs j)) (hV : V ≤ 1000000000) (hr : Rel V σ) : LBk (LB_15 bS xs Ls) V L R σ := by
  unfold LB_15
  exact lb_go (cv_ii (ci := 11) (a := 0) (lr_at hR1) (sc_at (c := 1) hR0 hL hi (by omega)) (sc_at (c := 2) hR0 hL hi (by omega)) s11) (cv_ii (ci := 12) (a := 239) (lr_at hR2) (sc_at (c := 1) hR0 hL hi (by omega)) (sc_at (c := 2) hR0 hL hi (by omega)) s12) (by omega) (op_pond hr _ _)
theorem lb_16 (hR0 : R.getD 0 0 = bS) (hR1 : R.getD 1 0 = 0) (hR2 : R.getD 2 0 = 239) (hL : L.getD 3 0 = i) (hi : 0 ≤ i ∧ i + 6 ≤ (Ls : Int) ∧ Ls ≤ 3072) (hx : ∀ j, inI (xs j)) (hV : V ≤ 1000000000) (hr : Rel V σ) : LBk (LB_16 bS xs Ls) V L R σ := by
  unfold LB_16
  exact lb_go (cv_i (ci := 11) (a := 0) (lr_at hR1) (sc_at (c := 1) hR0 hL hi (by omega)) s11) (cv_i (ci := 12) (a := 239) (lr_at hR2) (sc_at (c := 1) hR0 hL hi (by omega)) s12) (by omega) (op_hour hr _)
theorem lb_17 (hR0 : R.getD 0 0 = bS) (hR1 : R.getD 1 0 = 0) (hR2 : R.getD 2 0 = 239) (hL : L.getD 3 0 = i) (hi : 0 ≤ i ∧ i + 6 ≤ (Ls : Int) ∧ Ls ≤ 3072) (hx : ∀ j, inI (xs j)) (hV : V ≤ 1000000000) (hr : Rel V σ) : LBk (LB_17 bS xs Ls) V L R σ := by
  unfold LB_17
  exact lb_go (cv_i (ci := 11) (a := 0) (lr_at hR1) (sc_at (c := 1) hR0 hL hi (by omega)) s11) (cv_i (ci := 12) (a := 239) (lr_at hR2) (sc_at (c := 1) hR0 hL hi (by omega)) s12) (by omega) (op_wind hr (by omega) _)
theorem lb_18 (hR0 : R.getD 0 0 = bS) (hR1 : R.getD 1 0 = 0) (hR2 : R.getD 2 0 = 239) (hL : L.getD 3 0 = i) (hi : 0 ≤ i ∧ i + 6 ≤ (Ls : Int) ∧ Ls ≤ 3072) (hx : ∀ j, inI (xs j)) (hV : V ≤ 1000000000) (hr : Rel V σ) : LBk (LB_18 bS xs Ls) V L R σ := by
  unfold LB_18
  exact lb_go (cv_i (ci := 11) (a := 0) (lr_at hR1) (tn_at (sc_at (c := 1) hR0 hL hi (by omega))) s11) (cv_i (ci := 12) (a := 239) (lr_at hR2) (tn_at (sc_at (c := 1) hR0 hL hi (by omega))) s12) (by omega) (op_rain hr (by omega) (tn_01 _))
theorem lb_19 (hR0 : R.getD 0 0 = bS) (hR1 : R.getD 1 0 = 0) (hR2 : R.getD 2 0 = 239) (hL : L.getD 3 0 = i) (hi : 0 ≤ i ∧ i + 6 ≤ (Ls : Int) ∧ Ls ≤ 3072) (hx : ∀ j, inI (xs j)) (hV : V ≤ 1000000000) (hr : Rel V σ) : LBk (LB_19 bS xs Ls) V L R σ := by
  unfold LB_19
  exact lb_go (cv_iii (ci := 11) (a := 0) (lr_at hR1) (sc_at (c := 1) hR0 hL hi (by omega)) (sc_at (c := 2) hR0 hL hi (by omega)) (sc_at (c := 3) hR0 hL hi (by omega)) s11) (cv_iii (ci := 12) (a := 239) (lr_at hR2) (sc_at (c := 1) hR0 hL hi (by omega)) (sc_at (c := 2) hR0 hL hi (by omega)) (sc_at (c := 3) hR0 hL hi (by omega)) s12) (by omega) (op_set hr _ _ _)
theorem lb_20 (hR0 : R.getD 0 0 = bS) (hR1 : R.getD 1 0 = 0) (hR2 : R.getD 2 0 = 239) (hL : L.getD 3 0 = i) (hi : 0 ≤ i ∧ i + 6 ≤ (Ls : Int) ∧ Ls ≤ 3072) (hx : ∀ j, inI (xs j)) (hV : V ≤ 1000000000) (hr : Rel V σ) : LBk (LB_20 bS xs Ls) V L R σ := by
  unfold LB_20
  exact lb_go (cv_i (ci := 11) (a := 0) (lr_at hR1) (sc_at (c := 1) hR0 hL hi (by omega)) s11) (cv_i (ci := 12) (a := 239) (lr_at hR2) (sc_at (c := 1) hR0 hL hi (by omega)) s12) (by omega) (op_drop hr _)
theorem lb_21 (hR0 : R.getD 0 0 = bS) (hR1 : R.getD 1 0 = 0) (hR2 : R.getD 2 0 = 239) (hL : L.getD 3 0 = i) (hi : 0 ≤ i ∧ i + 6 ≤ (Ls : Int) ∧ Ls ≤ 3072) (hx : ∀ j, inI (xs j)) (hV : V ≤ 1000000000) (hr : Rel V σ) : LBk (LB_21 bS xs Ls) V L R σ := by
  unfold LB_21
  exact lb_go (cv_iii (ci := 11) (a := 0) (lr_at hR1) (sc_at (c := 1) hR0 hL hi (by omega)) (sc_at (c := 2) hR0 hL hi (by omega)) (sc_at (c := 3) hR0 hL hi (by omega)) s11) (cv_iii (ci := 12) (a := 239) (lr_at hR2) (sc_at (c := 1) hR0 hL hi (by omega)) (sc_at (c := 2) hR0 hL hi (by omega)) (sc_at (c := 3) hR0 hL hi (by omega)) s12) (by omega) (op_move hr (by omega) _ _ _)
theorem lb_22 (hR0 : R.getD 0 0 = bS) (hR1 : R.getD 1 0 = 0) (hR2 : R.getD 2 0 = 239) (hL : L.getD 3 0 = i) (hi : 0 ≤ i ∧ i + 6 ≤ (Ls : Int) ∧ Ls ≤ 3072) (hx : ∀ j, inI (xs j)) (hV : V ≤ 1000000000) (hr : Rel V σ) : LBk (LB_22 bS xs Ls) V L R σ := by
  unfold LB_22
  exact lb_go (cv_ii (ci := 11) (a := 0) (lr_at hR1) (sc_at (c := 1) hR0 hL hi (by omega)) (sc_at (c := 2) hR0 hL hi (by omega)) s11) (cv_ii (ci := 12) (a := 239) (lr_at hR2) (sc_at (c := 1) hR0 hL hi (by omega)) (sc_at (c := 2) hR0 hL hi (by omega)) s12) (by omega) (op_train hr (by omega) _ _)
theorem lb_23 (hR0 : R.getD 0 0 = bS) (hR1 : R.getD 1 0 = 0) (hR2 : R.getD 2 0 = 239) (hL : L.getD 3 0 = i) (hi : 0 ≤ i ∧ i + 6 ≤ (Ls : Int) ∧ Ls ≤ 3072) (hx : ∀ j, inI (xs j)) (hV : V ≤ 1000000000) (hr : Rel V σ) : LBk (LB_23 bS xs Ls) V L R σ := by
  unfold LB_23
  exact lb_go (cv_ii (ci := 11) (a := 0) (lr_at hR1) (sc_at (c := 1) hR0 hL hi (by omega)) (sc_at (c := 2) hR0 hL hi (by omega)) s11) (cv_ii (ci := 12) (a := 239) (lr_at hR2) (sc_at (c := 1) hR0 hL hi (by omega)) (sc_at (c := 2) hR0 hL hi (by omega)) s12) (by omega) (op_soothe hr _ _)
theorem lb_24 (hR0 : R.getD 0 0 = bS) (hR1 : R.getD 1 0 = 0) (hR2 : R.getD 2 0 = 239) (hL : L.getD 3 0 = i) (hi : 0 ≤ i ∧ i + 6 ≤ (Ls : Int) ∧ Ls ≤ 3072) (hx : ∀ j, inI (xs j)) (hV : V ≤ 1000000000) (hr : Rel V σ) : LBk (LB_24 bS xs Ls) V L R σ := by
  unfold LB_24
  exact lb_go (cv_ii (ci := 11) (a := 0) (lr_at hR1) (sc_at (c := 1) hR0 hL hi (by omega)) (sc_at (c := 2) hR0 hL hi (by omega)) s11) (cv_ii (ci := 12) (a := 239) (lr_at hR2) (sc_at (c := 1) hR0 hL hi (by omega)) (sc_at (c := 2) hR0 hL hi (by omega)) s12) (by omega) (op_rule hr (by omega) _ _)
theorem lb_25 (hR0 : R.getD 0 0 = bS) (hR1 : R.getD 1 0 = 0) (hR2 : R.getD 2 0 = 239) (hL : L.getD 3 0 = i) (hi : 0 ≤ i ∧ i + 6 ≤ (Ls : Int) ∧ Ls ≤ 3072) (hx : ∀ j, inI (xs j)) (hV : V ≤ 1000000000) (hr : Rel V σ) : LBk (LB_25 bS xs Ls) V L R σ := by
  unfold LB_25
  exact lb_go (cv_iii (ci := 11) (a := 0) (lr_at hR1) (sc_at (c := 1) hR0 hL hi (by omega)) (sc_at (c := 2) hR0 hL hi (by omega)) (tn_at (sc_at (c := 3) hR0 hL hi (by omega))) s11) (cv_iii (ci := 12) (a := 239) (lr_at hR2) (sc_at (c := 1) hR0 hL hi (by omega)) (sc_at (c := 2) hR0 hL hi (by omega)) (tn_at (sc_at (c := 3) hR0 hL hi (by omega))) s12) (by omega) (op_dig hr (by omega) _ _ (tn_01 _))
theorem lb_26 (hR0 : R.getD 0 0 = bS) (hR1 : R.getD 1 0 = 0) (hR2 : R.getD 2 0 = 239) (hL : L.getD 3 0 = i) (hi : 0 ≤ i ∧ i + 6 ≤ (Ls : Int) ∧ Ls ≤ 3072) (hx : ∀ j, inI (xs j)) (hV : V ≤ 1000000000) (hr : Rel V σ) : LBk (LB_26 bS xs Ls) V L R σ := by
  unfold LB_26
  exact lb_go (cv_i (ci := 11) (a := 0) (lr_at hR1) (sc_at (c := 1) hR0 hL hi (by omega)) s11) (cv_i (ci := 12) (a := 239) (lr_at hR2) (sc_at (c := 1) hR0 hL hi (by omega)) s12) (by omega) (op_plays hr _)
theorem lb_27 (hR0 : R.getD 0 0 = bS) (hR1 : R.getD 1 0 = 0) (hR2 : R.getD 2 0 = 239) (hL : L.getD 3 0 = i) (hi : 0 ≤ i ∧ i + 6 ≤ (Ls : Int) ∧ Ls ≤ 3072) (hx : ∀ j, inI (xs j)) (hV : V ≤ 1000000000) (hr : Rel V σ) : LBk (LB_27 bS xs Ls) V L R σ := by
  unfold LB_27
  exact lb_go (cv_iiii (ci := 11) (a := 0) (lr_at hR1) (sc_at (c := 1) hR0 hL hi (by omega)) (sc_at (c := 2) hR0 hL hi (by omega)) (sc_at (c := 3) hR0 hL hi (by omega)) (sc_at (c := 4) hR0 hL hi (by omega)) s11) (cv_iiii (ci := 12) (a := 239) (lr_at hR2) (sc_at (c := 1) hR0 hL hi (by omega)) (sc_at (c := 2) hR0 hL hi (by omega)) (sc_at (c := 3) hR0 hL hi (by omega)) (sc_at (c := 4) hR0 hL hi (by omega)) s12) (by omega) (op_heard hr _ _ _ _)
theorem lb_28 (hR0 : R.getD 0 0 = bS) (hR1 : R.getD 1 0 = 0) (hR2 : R.getD 2 0 = 239) (hL : L.getD 3 0 = i) (hi : 0 ≤ i ∧ i + 6 ≤ (Ls : Int) ∧ Ls ≤ 3072) (hx : ∀ j, inI (xs j)) (hV : V ≤ 1000000000) (hr : Rel V σ) : LBk (LB_28 bS xs Ls) V L R σ := by
  unfold LB_28
  exact lb_go (cv_ii (ci := 11) (a := 0) (lr_at hR1) (sc_at (c := 1) hR0 hL hi (by omega)) (sc_at (c := 2) hR0 hL hi (by omega)) s11) (cv_ii (ci := 12) (a := 239) (lr_at hR2) (sc_at (c := 1) hR0 hL hi (by omega)) (sc_at (c := 2) hR0 hL hi (by omega)) s12) (by omega) (op_loudest hr _ _)
theorem lb_29 (hR0 : R.getD 0 0 = bS) (hR1 : R.getD 1 0 = 0) (hR2 : R.getD 2 0 = 239) (hL : L.getD 3 0 = i) (hi : 0 ≤ i ∧ i + 6 ≤ (Ls : Int) ∧ Ls ≤ 3072) (hx : ∀ j, inI (xs j)) (hV : V ≤ 1000000000) (hr : Rel V σ) : LBk (LB_29 bS xs Ls) V L R σ := by
  unfold LB_29
  exact lb_go (cv_ii (ci := 11) (a := 0) (lr_at hR1) (sc_at (c := 1) hR0 hL hi (by omega)) (sc_at (c := 2) hR0 hL hi (by omega)) s11) (cv_ii (ci := 12) (a := 239) (lr_at hR2) (sc_at (c := 1) hR0 hL hi (by omega)) (sc_at (c := 2) hR0 hL hi (by omega)) s12) (by omega) (op_holder hr _ _)
theorem lb_30 (hR0 : R.getD 0 0 = bS) (hR1 : R.getD 1 0 = 0) (hR2 : R.getD 2 0 = 239) (hL : L.getD 3 0 = i) (hi : 0 ≤ i ∧ i + 6 ≤ (Ls : Int) ∧ Ls ≤ 3072) (hx : ∀ j, inI (xs j)) (hV : V ≤ 1000000000) (hr : Rel V σ) : LBk (LB_30 bS xs Ls) V L R σ := by
  unfold LB_30
  exact lb_go (cv_i (ci := 11) (a := 0) (lr_at hR1) (sc_at (c := 1) hR0 hL hi (by omega)) s11) (cv_i (ci := 12) (a := 239) (lr_at hR2) (sc_at (c := 1) hR0 hL hi (by omega)) s12) (by omega) (op_lawns hr _)
theorem lb_31 (hR0 : R.getD 0 0 = bS) (hR1 : R.getD 1 0 = 0) (hR2 : R.getD 2 0 = 239) (hL : L.getD 3 0 = i) (hi : 0 ≤ i ∧ i + 6 ≤ (Ls : Int) ∧ Ls ≤ 3072) (hx : ∀ j, inI (xs j)) (hV : V ≤ 1000000000) (hr : Rel V σ) : LBk (LB_31 bS xs Ls) V L R σ := by
  unfold LB_31
  exact lb_go (cv_i (ci := 11) (a := 0) (lr_at hR1) (sc_at (c := 1) hR0 hL hi (by omega)) s11) (cv_i (ci := 12) (a := 239) (lr_at hR2) (sc_at (c := 1) hR0 hL hi (by omega)) s12) (by omega) (op_ponds hr _)
theorem lb_32 (hR0 : R.getD 0 0 = bS) (hR1 : R.getD 1 0 = 0) (hR2 : R.getD 2 0 = 239) (hL : L.getD 3 0 = i) (hi : 0 ≤ i ∧ i + 6 ≤ (Ls : Int) ∧ Ls ≤ 3072) (hx : ∀ j, inI (xs j)) (hV : V ≤ 1000000000) (hr : Rel V σ) : LBk (LB_32 bS xs Ls) V L R σ := by
  unfold LB_32
  exact lb_go (cv_i (ci := 11) (a := 0) (lr_at hR1) (sc_at (c := 1) hR0 hL hi (by omega)) s11) (cv_i (ci := 12) (a := 239) (lr_at hR2) (sc_at (c := 1) hR0 hL hi (by omega)) s12) (by omega) (op_copyHeld hr _)
theorem lb_33 (hR0 : R.getD 0 0 = bS) (hR1 : R.getD 1 0 = 0) (hR2 : R.getD 2 0 = 239) (hL : L.getD 3 0 = i) (hi : 0 ≤ i ∧ i + 6 ≤ (Ls : Int) ∧ Ls ≤ 3072) (hx : ∀ j, inI (xs j)) (hV : V ≤ 1000000000) (hr : Rel V σ) : LBk (LB_33 bS xs Ls) V L R σ := by
  unfold LB_33
  exact lb_go (cv_iii (ci := 11) (a := 0) (lr_at hR1) (sc_at (c := 1) hR0 hL hi (by omega)) (sc_at (c := 2) hR0 hL hi (by omega)) (sc_at (c := 3) hR0 hL hi (by omega)) s11) (cv_iii (ci := 12) (a := 239) (lr_at hR2) (sc_at (c := 1) hR0 hL hi (by omega)) (sc_at (c := 2) hR0 hL hi (by omega)) (sc_at (c := 3) hR0 hL hi (by omega)) s12) (by omega) (op_holderIn hr (by omega) _ _ _)
theorem lb_34 (hR0 : R.getD 0 0 = bS) (hR1 : R.getD 1 0 = 0) (hR2 : R.getD 2 0 = 239) (hL : L.getD 3 0 = i) (hi : 0 ≤ i ∧ i + 6 ≤ (Ls : Int) ∧ Ls ≤ 3072) (hx : ∀ j, inI (xs j)) (hV : V ≤ 1000000000) (hr : Rel V σ) : LBk (LB_34 bS xs Ls) V L R σ := by
  unfold LB_34
  exact lb_go (cv_ii (ci := 11) (a := 0) (lr_at hR1) (sc_at (c := 1) hR0 hL hi (by omega)) (sc_at (c := 2) hR0 hL hi (by omega)) s11) (cv_ii (ci := 12) (a := 239) (lr_at hR2) (sc_at (c := 1) hR0 hL hi (by omega)) (sc_at (c := 2) hR0 hL hi (by omega)) s12) (by omega) (op_pointsIn hr (by omega) _ _)
theorem lb_35 (hR0 : R.getD 0 0 = bS) (hR1 : R.getD 1 0 = 0) (hR2 : R.getD 2 0 = 239) (hL : L.getD 3 0 = i) (hi : 0 ≤ i ∧ i + 6 ≤ (Ls : Int) ∧ Ls ≤ 3072) (hx : ∀ j, inI (xs j)) (hV : V ≤ 1000000000) (hr : Rel V σ) : LBk (LB_35 bS xs Ls) V L R σ := by
  unfold LB_35
  exact lb_go (cv_ii (ci := 11) (a := 0) (lr_at hR1) (sc_at (c := 1) hR0 hL hi (by omega)) (sc_at (c := 2) hR0 hL hi (by omega)) s11) (cv_ii (ci := 12) (a := 239) (lr_at hR2) (sc_at (c := 1) hR0 hL hi (by omega)) (sc_at (c := 2) hR0 hL hi (by omega)) s12) (by omega) (op_lipsIn hr (by omega) _ _)
theorem lb_36 (hR0 : R.getD 0 0 = bS) (hR1 : R.getD 1 0 = 0) (hR2 : R.getD 2 0 = 239) (hL : L.getD 3 0 = i) (hi : 0 ≤ i ∧ i + 6 ≤ (Ls : Int) ∧ Ls ≤ 3072) (hx : ∀ j, inI (xs j)) (hV : V ≤ 1000000000) (hr : Rel V σ) : LBk (LB_36 bS xs Ls) V L R σ := by
  unfold LB_36
  exact lb_go (cv_i (ci := 11) (a := 0) (lr_at hR1) (sc_at (c := 1) hR0 hL hi (by omega)) s11) (cv_i (ci := 12) (a := 239) (lr_at hR2) (sc_at (c := 1) hR0 hL hi (by omega)) s12) (by omega) (op_tiredIn hr (by omega) _)
theorem lb_37 (hR0 : R.getD 0 0 = bS) (hR1 : R.getD 1 0 = 0) (hR2 : R.getD 2 0 = 239) (hL : L.getD 3 0 = i) (hi : 0 ≤ i ∧ i + 6 ≤ (Ls : Int) ∧ Ls ≤ 3072) (hx : ∀ j, inI (xs j)) (hV : V ≤ 1000000000) (hr : Rel V σ) : LBk (LB_37 bS xs Ls) V L R σ := by
  unfold LB_37
  exact lb_go (cv_ii (ci := 11) (a := 0) (lr_at hR1) (sc_at (c := 1) hR0 hL hi (by omega)) (sc_at (c := 2) hR0 hL hi (by omega)) s11) (cv_ii (ci := 12) (a := 239) (lr_at hR2) (sc_at (c := 1) hR0 hL hi (by omega)) (sc_at (c := 2) hR0 hL hi (by omega)) s12) (by omega) (op_changesIn hr (by omega) _ _)
theorem lb_38 (hR0 : R.getD 0 0 = bS) (hR1 : R.getD 1 0 = 0) (hR2 : R.getD 2 0 = 239) (hL : L.getD 3 0 = i) (hi : 0 ≤ i ∧ i + 6 ≤ (Ls : Int) ∧ Ls ≤ 3072) (hx : ∀ j, inI (xs j)) (hV : V ≤ 1000000000) (hr : Rel V σ) : LBk (LB_38 bS xs Ls) V L R σ := by
  unfold LB_38
  exact lb_go (cv_iiii (ci := 11) (a := 0) (lr_at hR1) (sc_at (c := 1) hR0 hL hi (by omega)) (sc_at (c := 2) hR0 hL hi (by omega)) (sc_at (c := 3) hR0 hL hi (by omega)) (sc_at (c := 4) hR0 hL hi (by omega)) s11) (cv_iiii (ci := 12) (a := 239) (lr_at hR2) (sc_at (c := 1) hR0 hL hi (by omega)) (sc_at (c := 2) hR0 hL hi (by omega)) (sc_at (c := 3) hR0 hL hi (by omega)) (sc_at (c := 4) hR0 hL hi (by omega)) s12) (by omega) (op_holding hr (by omega) _ _ _ _)
theorem lb_39 (hR0 : R.getD 0 0 = bS) (hR1 : R.getD 1 0 = 0) (hR2 : R.getD 2 0 = 239) (hL : L.getD 3 0 = i) (hi : 0 ≤ i ∧ i + 6 ≤ (Ls : Int) ∧ Ls ≤ 3072) (hx : ∀ j, inI (xs j)) (hV : V ≤ 1000000000) (hr : Rel V σ) : LBk (LB_39 bS xs Ls) V L R σ := by
  unfold LB_39
  exact lb_go (cv_iiiii (ci := 11) (a := 0) (lr_at hR1) (sc_at (c := 1) hR0 hL hi (by omega)) (sc_at (c := 2) hR0 hL hi (by omega)) (sc_at (c := 3) hR0 hL hi (by omega)) (sc_at (c := 4) hR0 hL hi (by omega)) (sc_at (c := 5) hR0 hL hi (by omega)) s11) (cv_iiiii (ci := 12) (a := 239) (lr_at hR2) (sc_at (c := 1) hR0 hL hi (by omega)) (sc_at (c := 2) hR0 hL hi (by omega)) (sc_at (c := 3) hR0 hL hi (by omega)) (sc_at (c := 4) hR0 hL hi (by omega)) (sc_at (c := 5) hR0 hL hi (by omega)) s12) (by omega) (op_holdingAt hr (by omega) _ _ _ _ _)
theorem lb_40 (hR0 : R.getD 0 0 = bS) (hR1 : R.getD 1 0 = 0) (hR2 : R.getD 2 0 = 239) (hL : L.getD 3 0 = i) (hi : 0 ≤ i ∧ i + 6 ≤ (Ls : Int) ∧ Ls ≤ 3072) (hx : ∀ j, inI (xs j)) (hV : V ≤ 1000000000) (hr : Rel V σ) : LBk (LB_40 bS xs Ls) V L R σ := by
  unfold LB_40
  exact lb_go (cv_i (ci := 11) (a := 0) (lr_at hR1) (sc_at (c := 1) hR0 hL hi (by omega)) s11) (cv_i (ci := 12) (a := 239) (lr_at hR2) (sc_at (c := 1) hR0 hL hi (by omega)) s12) (by omega) (op_best hr _)
theorem lb_41 (hR0 : R.getD 0 0 = bS) (hR1 : R.getD 1 0 = 0) (hR2 : R.getD 2 0 = 239) (hL : L.getD 3 0 = i) (hi : 0 ≤ i ∧ i + 6 ≤ (Ls : Int) ∧ Ls ≤ 3072) (hx : ∀ j, inI (xs j)) (hV : V ≤ 1000000000) (hr : Rel V σ) : LBk (LB_41 bS xs Ls) V L R σ := by
  unfold LB_41
  exact lb_go (cv_i (ci := 11) (a := 0) (lr_at hR1) (sc_at (c := 1) hR0 hL hi (by omega)) s11) (cv_i (ci := 12) (a := 239) (lr_at hR2) (sc_at (c := 1) hR0 hL hi (by omega)) s12) (by omega) (op_bestLawns hr _)
theorem lb_42 (hR0 : R.getD 0 0 = bS) (hR1 : R.getD 1 0 = 0) (hR2 : R.getD 2 0 = 239) (hL : L.getD 3 0 = i) (hi : 0 ≤ i ∧ i + 6 ≤ (Ls : Int) ∧ Ls ≤ 3072) (hx : ∀ j, inI (xs j)) (hV : V ≤ 1000000000) (hr : Rel V σ) : LBk (LB_42 bS xs Ls) V L R σ := by
  unfold LB_42
  exact lb_go (cv_iii (ci := 11) (a := 0) (lr_at hR1) (sc_at (c := 1) hR0 hL hi (by omega)) (sc_at (c := 2) hR0 hL hi (by omega)) (sc_at (c := 3) hR0 hL hi (by omega)) s11) (cv_iii (ci := 12) (a := 239) (lr_at hR2) (sc_at (c := 1) hR0 hL hi (by omega)) (sc_at (c := 2) hR0 hL hi (by omega)) (sc_at (c := 3) hR0 hL hi (by omega)) s12) (by omega) (op_low hr _ _ _)
theorem lb_43 (hR0 : R.getD 0 0 = bS) (hR1 : R.getD 1 0 = 0) (hR2 : R.getD 2 0 = 239) (hL : L.getD 3 0 = i) (hi : 0 ≤ i ∧ i + 6 ≤ (Ls : Int) ∧ Ls ≤ 3072) (hx : ∀ j, inI (xs j)) (hV : V ≤ 1000000000) (hr : Rel V σ) : LBk (LB_43 bS xs Ls) V L R σ := by
  unfold LB_43
  exact lb_go (cv_iii (ci := 11) (a := 0) (lr_at hR1) (sc_at (c := 1) hR0 hL hi (by omega)) (sc_at (c := 2) hR0 hL hi (by omega)) (sc_at (c := 3) hR0 hL hi (by omega)) s11) (cv_iii (ci := 12) (a := 239) (lr_at hR2) (sc_at (c := 1) hR0 hL hi (by omega)) (sc_at (c := 2) hR0 hL hi (by omega)) (sc_at (c := 3) hR0 hL hi (by omega)) s12) (by omega) (op_game hr _ _ _)
theorem lb_44 (hR0 : R.getD 0 0 = bS) (hR1 : R.getD 1 0 = 0) (hR2 : R.getD 2 0 = 239) (hL : L.getD 3 0 = i) (hi : 0 ≤ i ∧ i + 6 ≤ (Ls : Int) ∧ Ls ≤ 3072) (hx : ∀ j, inI (xs j)) (hV : V ≤ 1000000000) (hr : Rel V σ) : LBk (LB_44 bS xs Ls) V L R σ := by
  unfold LB_44
  exact lb_go (cv_iii (ci := 11) (a := 0) (lr_at hR1) (sc_at (c := 1) hR0 hL hi (by omega)) (sc_at (c := 2) hR0 hL hi (by omega)) (sc_at (c := 3) hR0 hL hi (by omega)) s11) (cv_iii (ci := 12) (a := 239) (lr_at hR2) (sc_at (c := 1) hR0 hL hi (by omega)) (sc_at (c := 2) hR0 hL hi (by omega)) (sc_at (c := 3) hR0 hL hi (by omega)) s12) (by omega) (op_moveOf hr _ _ _)
theorem lb_45 (hR0 : R.getD 0 0 = bS) (hR1 : R.getD 1 0 = 0) (hR2 : R.getD 2 0 = 239) (hL : L.getD 3 0 = i) (hi : 0 ≤ i ∧ i + 6 ≤ (Ls : Int) ∧ Ls ≤ 3072) (hx : ∀ j, inI (xs j)) (hV : V ≤ 1000000000) (hr : Rel V σ) : LBk (LB_45 bS xs Ls) V L R σ := by
  unfold LB_45
  exact lb_go (cv_i (ci := 11) (a := 0) (lr_at hR1) (sc_at (c := 1) hR0 hL hi (by omega)) s11) (cv_i (ci := 12) (a := 239) (lr_at hR2) (sc_at (c := 1) hR0 hL hi (by omega)) s12) (by omega) (op_ally hr _)
theorem lb_46 (hR0 : R.getD 0 0 = bS) (hR1 : R.getD 1 0 = 0) (hR2 : R.getD 2 0 = 239) (hL : L.getD 3 0 = i) (hi : 0 ≤ i ∧ i + 6 ≤ (Ls : Int) ∧ Ls ≤ 3072) (hx : ∀ j, inI (xs j)) (hV : V ≤ 1000000000) (hr : Rel V σ) : LBk (LB_46 bS xs Ls) V L R σ := by
  unfold LB_46
  exact lb_go (cv_i (ci := 11) (a := 0) (lr_at hR1) (sc_at (c := 1) hR0 hL hi (by omega)) s11) (cv_i (ci := 12) (a := 239) (lr_at hR2) (sc_at (c := 1) hR0 hL hi (by omega)) s12) (by omega) (op_stable hr _)
theorem lb_47 (hR0 : R.getD 0 0 = bS) (hR1 : R.getD 1 0 = 0) (hR2 : R.getD 2 0 = 239) (hL : L.getD 3 0 = i) (hi : 0 ≤ i ∧ i + 6 ≤ (Ls : Int) ∧ Ls ≤ 3072) (hx : ∀ j, inI (xs j)) (hV : V ≤ 1000000000) (hr : Rel V σ) : LBk (LB_47 bS xs Ls) V L R σ := by
  unfold LB_47
  exact lb_go (cv_n (ci := 11) (a := 0) (lr_at hR1)  s11) (cv_n (ci := 12) (a := 239) (lr_at hR2)  s12) (by omega) (op_alliance hr)
theorem lb_48 (hR0 : R.getD 0 0 = bS) (hR1 : R.getD 1 0 = 0) (hR2 : R.getD 2 0 = 239) (hL : L.getD 3 0 = i) (hi : 0 ≤ i ∧ i + 6 ≤ (Ls : Int) ∧ Ls ≤ 3072) (hx : ∀ j, inI (xs j)) (hV : V ≤ 1000000000) (hr : Rel V σ) : LBk (LB_48 bS xs Ls) V L R σ := by
  unfold LB_48
  exact lb_go (cv_iiii (ci := 11) (a := 0) (lr_at hR1) (sc_at (c := 1) hR0 hL hi (by omega)) (sc_at (c := 2) hR0 hL hi (by omega)) (sc_at (c := 3) hR0 hL hi (by omega)) (sc_at (c := 4) hR0 hL hi (by omega)) s11) (cv_iiii (ci := 12) (a := 239) (lr_at hR2) (sc_at (c := 1) hR0 hL hi (by omega)) (sc_at (c := 2) hR0 hL hi (by omega)) (sc_at (c := 3) hR0 hL hi (by omega)) (sc_at (c := 4) hR0 hL hi (by omega)) s12) (by omega) (op_together hr _ _ _ _)
theorem lb_49 (hR0 : R.getD 0 0 = bS) (hR1 : R.getD 1 0 = 0) (hR2 : R.getD 2 0 = 239) (hL : L.getD 3 0 = i) (hi : 0 ≤ i ∧ i + 6 ≤ (Ls : Int) ∧ Ls ≤ 3072) (hx : ∀ j, inI (xs j)) (hV : V ≤ 1000000000) (hr : Rel V σ) : LBk (LB_49 bS xs Ls) V L R σ := by
  unfold LB_49
  exact lb_go (cv_iii (ci := 11) (a := 0) (lr_at hR1) (sc_at (c := 1) hR0 hL hi (by omega)) (sc_at (c := 2) hR0 hL hi (by omega)) (sc_at (c := 3) hR0 hL hi (by omega)) s11) (cv_iii (ci := 12) (a := 239) (lr_at hR2) (sc_at (c := 1) hR0 hL hi (by omega)) (sc_at (c := 2) hR0 hL hi (by omega)) (sc_at (c := 3) hR0 hL hi (by omega)) s12) (by omega) (op_fits hr _ _ _)
theorem lb_50 (hR0 : R.getD 0 0 = bS) (hR1 : R.getD 1 0 = 0) (hR2 : R.getD 2 0 = 239) (hL : L.getD 3 0 = i) (hi : 0 ≤ i ∧ i + 6 ≤ (Ls : Int) ∧ Ls ≤ 3072) (hx : ∀ j, inI (xs j)) (hV : V ≤ 1000000000) (hr : Rel V σ) : LBk (LB_50 bS xs Ls) V L R σ := by
  unfold LB_50
  exact lb_go (cv_iiii (ci := 11) (a := 0) (lr_at hR1) (sc_at (c := 1) hR0 hL hi (by omega)) (sc_at (c := 2) hR0 hL hi (by omega)) (sc_at (c := 3) hR0 hL hi (by omega)) (sc_at (c := 4) hR0 hL hi (by omega)) s11) (cv_iiii (ci := 12) (a := 239) (lr_at hR2) (sc_at (c := 1) hR0 hL hi (by omega)) (sc_at (c := 2) hR0 hL hi (by omega)) (sc_at (c := 3) hR0 hL hi (by omega)) (sc_at (c := 4) hR0 hL hi (by omega)) s12) (by omega) (op_fitsAt hr _ _ _ _)
theorem lb_51 (hR0 : R.getD 0 0 = bS) (hR1 : R.getD 1 0 = 0) (hR2 : R.getD 2 0 = 239) (hL : L.getD 3 0 = i) (hi : 0 ≤ i ∧ i + 6 ≤ (Ls : Int) ∧ Ls ≤ 3072) (hx : ∀ j, inI (xs j)) (hV : V ≤ 1000000000) (hr : Rel V σ) : LBk (LB_51 bS xs Ls) V L R σ := by
  unfold LB_51
  exact lb_go (cv_iiii (ci := 11) (a := 0) (lr_at hR1) (sc_at (c := 1) hR0 hL hi (by omega)) (sc_at (c := 2) hR0 hL hi (by omega)) (sc_at (c := 3) hR0 hL hi (by omega)) (sc_at (c := 4) hR0 hL hi (by omega)) s11) (cv_iiii (ci := 12) (a := 239) (lr_at hR2) (sc_at (c := 1) hR0 hL hi (by omega)) (sc_at (c := 2) hR0 hL hi (by omega)) (sc_at (c := 3) hR0 hL hi (by omega)) (sc_at (c := 4) hR0 hL hi (by omega)) s12) (by omega) (op_quiet hr _ _ _ _)
theorem lb_52 (hR0 : R.getD 0 0 = bS) (hR1 : R.getD 1 0 = 0) (hR2 : R.getD 2 0 = 239) (hL : L.getD 3 0 = i) (hi : 0 ≤ i ∧ i + 6 ≤ (Ls : Int) ∧ Ls ≤ 3072) (hx : ∀ j, inI (xs j)) (hV : V ≤ 1000000000) (hr : Rel V σ) : LBk (LB_52 bS xs Ls) V L R σ := by
  unfold LB_52
  exact lb_go (cv_iiii (ci := 11) (a := 0) (lr_at hR1) (sc_at (c := 1) hR0 hL hi (by omega)) (sc_at (c := 2) hR0 hL hi (by omega)) (sc_at (c := 3) hR0 hL hi (by omega)) (sc_at (c := 4) hR0 hL hi (by omega)) s11) (cv_iiii (ci := 12) (a := 239) (lr_at hR2) (sc_at (c := 1) hR0 hL hi (by omega)) (sc_at (c := 2) hR0 hL hi (by omega)) (sc_at (c := 3) hR0 hL hi (by omega)) (sc_at (c := 4) hR0 hL hi (by omega)) s12) (by omega) (op_quietSteps hr _ _ _ _)
theorem lb_53 (hR0 : R.getD 0 0 = bS) (hR1 : R.getD 1 0 = 0) (hR2 : R.getD 2 0 = 239) (hL : L.getD 3 0 = i) (hi : 0 ≤ i ∧ i + 6 ≤ (Ls : Int) ∧ Ls ≤ 3072) (hx : ∀ j, inI (xs j)) (hV : V ≤ 1000000000) (hr : Rel V σ) : LBk (LB_53 bS xs Ls) V L R σ := by
  unfold LB_53
  exact lb_go (cv_ii (ci := 11) (a := 0) (lr_at hR1) (sc_at (c := 1) hR0 hL hi (by omega)) (sc_at (c := 2) hR0 hL hi (by omega)) s11) (cv_ii (ci := 12) (a := 239) (lr_at hR2) (sc_at (c := 1) hR0 hL hi (by omega)) (sc_at (c := 2) hR0 hL hi (by omega)) s12) (by omega) (op_wet hr _ _)
theorem lb_54 (hR0 : R.getD 0 0 = bS) (hR1 : R.getD 1 0 = 0) (hR2 : R.getD 2 0 = 239) (hL : L.getD 3 0 = i) (hi : 0 ≤ i ∧ i + 6 ≤ (Ls : Int) ∧ Ls ≤ 3072) (hx : ∀ j, inI (xs j)) (hV : V ≤ 1000000000) (hr : Rel V σ) : LBk (LB_54 bS xs Ls) V L R σ := by
  unfold LB_54
  exact lb_go (cv_i (ci := 11) (a := 0) (lr_at hR1) (sc_at (c := 1) hR0 hL hi (by omega)) s11) (cv_i (ci := 12) (a := 239) (lr_at hR2) (sc_at (c := 1) hR0 hL hi (by omega)) s12) (by omega) (op_live hr (by omega) _)
theorem lb_55 (hR0 : R.getD 0 0 = bS) (hR1 : R.getD 1 0 = 0) (hR2 : R.getD 2 0 = 239) (hL : L.getD 3 0 = i) (hi : 0 ≤ i ∧ i + 6 ≤ (Ls : Int) ∧ Ls ≤ 3072) (hx : ∀ j, inI (xs j)) (hV : V ≤ 1000000000) (hr : Rel V σ) : LBk (LB_55 bS xs Ls) V L R σ := by
  unfold LB_55
  exact lb_go (cv_i (ci := 11) (a := 0) (lr_at hR1) (sc_at (c := 1) hR0 hL hi (by omega)) s11) (cv_i (ci := 12) (a := 239) (lr_at hR2) (sc_at (c := 1) hR0 hL hi (by omega)) s12) (by omega) (op_lived hr _)
theorem lb_56 (hR0 : R.getD 0 0 = bS) (hR1 : R.getD 1 0 = 0) (hR2 : R.getD 2 0 = 239) (hL : L.getD 3 0 = i) (hi : 0 ≤ i ∧ i + 6 ≤ (Ls : Int) ∧ Ls ≤ 3072) (hx : ∀ j, inI (xs j)) (hV : V ≤ 1000000000) (hr : Rel V σ) : LBk (LB_56 bS xs Ls) V L R σ := by
  unfold LB_56
  exact lb_go (cv_iii (ci := 11) (a := 0) (lr_at hR1) (sc_at (c := 1) hR0 hL hi (by omega)) (sc_at (c := 2) hR0 hL hi (by omega)) (sc_at (c := 3) hR0 hL hi (by omega)) s11) (cv_iii (ci := 12) (a := 239) (lr_at hR2) (sc_at (c := 1) hR0 hL hi (by omega)) (sc_at (c := 2) hR0 hL hi (by omega)) (sc_at (c := 3) hR0 hL hi (by omega)) s12) (by omega) (op_mean hr (by omega) _ _ _)
theorem lb_57 (hR0 : R.getD 0 0 = bS) (hR1 : R.getD 1 0 = 0) (hR2 : R.getD 2 0 = 239) (hL : L.getD 3 0 = i) (hi : 0 ≤ i ∧ i + 6 ≤ (Ls : Int) ∧ Ls ≤ 3072) (hx : ∀ j, inI (xs j)) (hV : V ≤ 1000000000) (hr : Rel V σ) : LBk (LB_57 bS xs Ls) V L R σ := by
  unfold LB_57
  exact lb_go (cv_n (ci := 11) (a := 0) (lr_at hR1)  s11) (cv_n (ci := 12) (a := 239) (lr_at hR2)  s12) (by omega) (op_mark hr (by omega))
theorem lb_58 (hR0 : R.getD 0 0 = bS) (hR1 : R.getD 1 0 = 0) (hR2 : R.getD 2 0 = 239) (hL : L.getD 3 0 = i) (hi : 0 ≤ i ∧ i + 6 ≤ (Ls : Int) ∧ Ls ≤ 3072) (hx : ∀ j, inI (xs j)) (hV : V ≤ 1000000000) (hr : Rel V σ) : LBk (LB_58 bS xs Ls) V L R σ := by
  unfold LB_58
  exact lb_go (cv_n (ci := 11) (a := 0) (lr_at hR1)  s11) (cv_n (ci := 12) (a := 239) (lr_at hR2)  s12) (by omega) (op_back hr (by omega))
theorem lbx_ok (x : Int) (hR0 : R.getD 0 0 = bS) (hR1 : R.getD 1 0 = 0) (hR2 : R.getD 2 0 = 239) (hL : L.getD 3 0 = i) (hi : 0 ≤ i ∧ i + 6 ≤ (Ls : Int) ∧ Ls ≤ 3072) (hx : ∀ j, inI (xs j)) (hV : V ≤ 1000000000) (hr : Rel V σ) : LBk (LBx bS xs Ls x) V L R σ := by
  unfold LBx
  by_cases h0 : x = 0
  · rw [if_pos h0]; exact lb_0 hR0 hR1 hR2 hL hi hx hV hr
  rw [if_neg h0]
  by_cases h1 : x = 1
  · rw [if_pos h1]; exact lb_1 hR0 hR1 hR2 hL hi hx hV hr
  rw [if_neg h1]
  by_cases h2 : x = 2
  · rw [if_pos h2]; exact lb_2 hR0 hR1 hR2 hL hi hx hV hr
  rw [if_neg h2]
  by_cases h3 : x = 3
  · rw [if_pos h3]; exact lb_3 hR0 hR1 hR2 hL hi hx hV hr
  rw [if_neg h3]
  by_cases h4 : x = 4
  · rw [if_pos h4]; exact lb_4 hR0 hR1 hR2 hL hi hx hV hr
  rw [if_neg h4]
  by_cases h5 : x = 5
  · rw [if_pos h5]; exact lb_5 hR0 hR1 hR2 hL hi hx hV hr
  rw [if_neg h5]
  by_cases h6 : x = 6
  · rw [if_pos h6]; exact lb_6 hR0 hR1 hR2 hL hi hx hV hr
  rw [if_neg h6]
  by_cases h7 : x = 7
  · rw [if_pos h7]; exact lb_7 hR0 hR1 hR2 hL hi hx hV hr
  rw [if_neg h7]
  by_cases h8 : x = 8
  · rw [if_pos h8]; exact lb_8 hR0 hR1 hR2 hL hi hx hV hr
  rw [if_neg h8]
  by_cases h9 : x = 9
  · rw [if_pos h9]; exact lb_9 hR0 hR1 hR2 hL hi hx hV hr
  rw [if_neg h9]
  by_cases h10 : x = 10
  · rw [if_pos h10]; exact lb_10 hR0 hR1 hR2 hL hi hx hV hr
  rw [if_neg h10]
  by_cases h11 : x = 11
  · rw [if_pos h11]; exact lb_11 hR0 hR1 hR2 hL hi hx hV hr
  rw [if_neg h11]
  by_cases h12 : x = 12
  · rw [if_pos h12]; exact lb_12 hR0 hR1 hR2 hL hi hx hV hr
  rw [if_neg h12]
  by_cases h13 : x = 13
  · rw [if_pos h13]; exact lb_13 hR0 hR1 hR2 hL hi hx hV hr
  rw [if_neg h13]
  by_cases h14 : x = 14
  · rw [if_pos h14]; exact lb_14 hR0 hR1 hR2 hL hi hx hV hr
  rw [if_neg h14]
  by_cases h15 : x = 15
  · rw [if_pos h15]; exact lb_15 hR0 hR1 hR2 hL hi hx hV hr
  rw [if_neg h15]
  by_cases h16 : x = 16
  · rw [if_pos h16]; exact lb_16 hR0 hR1 hR2 hL hi hx hV hr
  rw [if_neg h16]
  by_cases h17 : x = 17
  · rw [if_pos h17]; exact lb_17 hR0 hR1 hR2 hL hi hx hV hr
  rw [if_neg h17]
  by_cases h18 : x = 18
  · rw [if_pos h18]; exact lb_18 hR0 hR1 hR2 hL hi hx hV hr
  rw [if_neg h18]
  by_cases h19 : x = 19
  · rw [if_pos h19]; exact lb_19 hR0 hR1 hR2 hL hi hx hV hr
  rw [if_neg h19]
  by_cases h20 : x = 20
  · rw [if_pos h20]; exact lb_20 hR0 hR1 hR2 hL hi hx hV hr
  rw [if_neg h20]
  by_cases h21 : x = 21
  · rw [if_pos h21]; exact lb_21 hR0 hR1 hR2 hL hi hx hV hr
  rw [if_neg h21]
  by_cases h22 : x = 22
  · rw [if_pos h22]; exact lb_22 hR0 hR1 hR2 hL hi hx hV hr
  rw [if_neg h22]
  by_cases h23 : x = 23
  · rw [if_pos h23]; exact lb_23 hR0 hR1 hR2 hL hi hx hV hr
  rw [if_neg h23]
  by_cases h24 : x = 24
  · rw [if_pos h24]; exact lb_24 hR0 hR1 hR2 hL hi hx hV hr
  rw [if_neg h24]
  by_cases h25 : x = 25
  · rw [if_pos h25]; exact lb_25 hR0 hR1 hR2 hL hi hx hV hr
  rw [if_neg h25]
  by_cases h26 : x = 26
  · rw [if_pos h26]; exact lb_26 hR0 hR1 hR2 hL hi hx hV hr
  rw [if_neg h26]
  by_cases h27 : x = 27
  · rw [if_pos h27]; exact lb_27 hR0 hR1 hR2 hL hi hx hV hr
  rw [if_neg h27]
  by_cases h28 : x = 28
  · rw [if_pos h28]; exact lb_28 hR0 hR1 hR2 hL hi hx hV hr
  rw [if_neg h28]
  by_cases h29 : x = 29
  · rw [if_pos h29]; exact lb_29 hR0 hR1 hR2 hL hi hx hV hr
  rw [if_neg h29]
  by_cases h30 : x = 30
  · rw [if_pos h30]; exact lb_30 hR0 hR1 hR2 hL hi hx hV hr
  rw [if_neg h30]
  by_cases h31 : x = 31
  · rw [if_pos h31]; exact lb_31 hR0 hR1 hR2 hL hi hx hV hr
  rw [if_neg h31]
  by_cases h32 : x = 32
  · rw [if_pos h32]; exact lb_32 hR0 hR1 hR2 hL hi hx hV hr
  rw [if_neg h32]
  by_cases h33 : x = 33
  · rw [if_pos h33]; exact lb_33 hR0 hR1 hR2 hL hi hx hV hr
  rw [if_neg h33]
  by_cases h34 : x = 34
  · rw [if_pos h34]; exact lb_34 hR0 hR1 hR2 hL hi hx hV hr
  rw [if_neg h34]
  by_cases h35 : x = 35
  · rw [if_pos h35]; exact lb_35 hR0 hR1 hR2 hL hi hx hV hr
  rw [if_neg h35]
  by_cases h36 : x = 36
  · rw [if_pos h36]; exact lb_36 hR0 hR1 hR2 hL hi hx hV hr
  rw [if_neg h36]
  by_cases h37 : x = 37
  · rw [if_pos h37]; exact lb_37 hR0 hR1 hR2 hL hi hx hV hr
  rw [if_neg h37]
  by_cases h38 : x = 38
  · rw [if_pos h38]; exact lb_38 hR0 hR1 hR2 hL hi hx hV hr
  rw [if_neg h38]
  by_cases h39 : x = 39
  · rw [if_pos h39]; exact lb_39 hR0 hR1 hR2 hL hi hx hV hr
  rw [if_neg h39]
  by_cases h40 : x = 40
  · rw [if_pos h40]; exact lb_40 hR0 hR1 hR2 hL hi hx hV hr
  rw [if_neg h40]
  by_cases h41 : x = 41
  · rw [if_pos h41]; exact lb_41 hR0 hR1 hR2 hL hi hx hV hr
  rw [if_neg h41]
  by_cases h42 : x = 42
  · rw [if_pos h42]; exact lb_42 hR0 hR1 hR2 hL hi hx hV hr
  rw [if_neg h42]
  by_cases h43 : x = 43
  · rw [if_pos h43]; exact lb_43 hR0 hR1 hR2 hL hi hx hV hr
  rw [if_neg h43]
  by_cases h44 : x = 44
  · rw [if_pos h44]; exact lb_44 hR0 hR1 hR2 hL hi hx hV hr
  rw [if_neg h44]
  by_cases h45 : x = 45
  · rw [if_pos h45]; exact lb_45 hR0 hR1 hR2 hL hi hx hV hr
  rw [if_neg h45]
  by_cases h46 : x = 46
  · rw [if_pos h46]; exact lb_46 hR0 hR1 hR2 hL hi hx hV hr
  rw [if_neg h46]
  by_cases h47 : x = 47
  · rw [if_pos h47]; exact lb_47 hR0 hR1 hR2 hL hi hx hV hr
  rw [if_neg h47]
  by_cases h48 : x = 48
  · rw [if_pos h48]; exact lb_48 hR0 hR1 hR2 hL hi hx hV hr
  rw [if_neg h48]
  by_cases h49 : x = 49
  · rw [if_pos h49]; exact lb_49 hR0 hR1 hR2 hL hi hx hV hr
  rw [if_neg h49]
  by_cases h50 : x = 50
  · rw [if_pos h50]; exact lb_50 hR0 hR1 hR2 hL hi hx hV hr
  rw [if_neg h50]
  by_cases h51 : x = 51
  · rw [if_pos h51]; exact lb_51 hR0 hR1 hR2 hL hi hx hV hr
  rw [if_neg h51]
  by_cases h52 : x = 52
  · rw [if_pos h52]; exact lb_52 hR0 hR1 hR2 hL hi hx hV hr
  rw [if_neg h52]
  by_cases h53 : x = 53
  · rw [if_pos h53]; exact lb_53 hR0 hR1 hR2 hL hi hx hV hr
  rw [if_neg h53]
  by_cases h54 : x = 54
  · rw [if_pos h54]; exact lb_54 hR0 hR1 hR2 hL hi hx hV hr
  rw [if_neg h54]
  by_cases h55 : x = 55
  · rw [if_pos h55]; exact lb_55 hR0 hR1 hR2 hL hi hx hV hr
  rw [if_neg h55]
  by_cases h56 : x = 56
  · rw [if_pos h56]; exact lb_56 hR0 hR1 hR2 hL hi hx hV hr
  rw [if_neg h56]
  by_cases h57 : x = 57
  · rw [if_pos h57]; exact lb_57 hR0 hR1 hR2 hL hi hx hV hr
  rw [if_neg h57]
  by_cases h58 : x = 58
  · rw [if_pos h58]; exact lb_58 hR0 hR1 hR2 hL hi hx hV hr
  rw [if_neg h58]
  exact ⟨σ, V, rfl, hr, by omega⟩
theorem lbody_ok (hR0 : R.getD 0 0 = bS) (hR1 : R.getD 1 0 = 0) (hR2 : R.getD 2 0 = 239) (hL : L.getD 3 0 = i) (hi : 0 ≤ i ∧ i + 6 ≤ (Ls : Int) ∧ Ls ≤ 3072) (hx : ∀ j, inI (xs j)) (hV : V ≤ 1000000000) (hr : Rel V σ) : LBk (LBody bS xs Ls) V L R σ := by
  have q : ∀ σ : SS, scrI bS xs Ls (lI 3) (L, R, σ) = some (xs i.toNat, σ) := by
    intro σ
    unfold scrI
    rw [(show lI 3 (L, R, σ) = some (i, σ) from (by show some (L.getD 3 0, σ) = _; rw [hL])), bn_some]
    exact if_pos ⟨hR0, by omega, by omega⟩
  have e := o2_at (f := andI) q (ci_at 63) σ
  obtain ⟨σ', V', e1, h1, h2⟩ := lbx_ok (V := V) (σ := σ) (L := L) (R := R) (andI (xs i.toNat) 63) hR0 hR1 hR2 hL hi hx hV hr
  refine ⟨σ', V', ?_, h1, h2⟩
  unfold LBody
  rw [sw_eq, e, bn_some]
  show swM (LBx bS xs Ls (andI (xs i.toNat) 63) (L, R, σ)) = _
  rw [e1]
  exact swM_0 _
theorem lcond_at (hR0 : R.getD 0 0 = bS) (hL : L.getD 3 0 = i) (hLs : Ls ≤ 3072) : ∀ σ : SS, LCond bS Ls (L, R, σ) = some (decide (i ≤ (Ls : Int) - 6), σ) := by
  intro σ
  have e : op2 (fun x y => some (wI (x - y))) (slenI bS Ls) (cI 6) (L, R, σ) = some (wI ((Ls : Int) - 6), σ) := o2_at (f := fun x y => wI (x - y)) (a := slenI bS Ls) (b := cI 6) (fun σ => if_pos hR0) (ci_at 6) σ
  rw [wI_id (show inI ((Ls : Int) - 6) by unfold inI; omega)] at e
  unfold LCond cmp2
  rw [(show lI 3 (L, R, σ) = some (i, σ) from (by show some (L.getD 3 0, σ) = _; rw [hL])), bn_some]
  show bn (op2 (fun x y => some (wI (x - y))) (slenI bS Ls) (cI 6) (L, R, σ)) _ = _
  rw [e, bn_some]
theorem lpN_t {c : XC} {f u : XS} {n : Nat} {z1 z2 : ZZ} (h1 : c (L, R, σ) = some (true, σ)) (h2 : f (L, R, σ) = some (.inl 0, z1)) (h3 : u z1 = some (.inl 0, z2)) {w : Option (OO × ZZ)} (h4 : lpN c f u n z2 = w) : lpN c f u (n + 1) (L, R, σ) = w := by
  unfold lpN
  rw [h1, bn_some, if_pos rfl]
  have e1 : ((((L, R, σ) : ZZ).1, ((L, R, σ) : ZZ).2.1, σ) : ZZ) = (L, R, σ) := rfl
  rw [e1, h2]
  simp only
  rw [h3]
  exact h4
theorem law_lp (hR0 : R.getD 0 0 = bS) (hR1 : R.getD 1 0 = 0) (hR2 : R.getD 2 0 = 239) (hLs : Ls ≤ 3072) (hx : ∀ j, inI (xs j)) : ∀ (m j : Nat) (L : List Int) (σ : SS) (V : Int), L.length = 4 → L.getD 3 0 = 6 * (j : Int) → Rel V σ → V ≤ 12020 * (j : Int) → (Ls : Int) - 6 < 6 * (j : Int) + 6 * (m : Int) → ∃ z' : ZZ, lpN (LCond bS Ls) (LBody bS xs Ls) (inc 3 6) (m + 1) (L, R, σ) = some (.inl 0, z') := by
  intro m
  induction m with
  | zero =>
    intro j L σ V hl hi hr hv hm
    have hc := lcond_at (Ls := Ls) hR0 hi hLs σ
    rw [decide_eq_false (show ¬ (6 * (j : Int) ≤ (Ls : Int) - 6) by omega)] at hc
    refine ⟨(L, R, σ), ?_⟩
    unfold lpN
    rw [hc, bn_some, if_neg (by decide)]
  | succ m ih =>
    intro j L σ V hl hi hr hv hm
    have hc := lcond_at (Ls := Ls) hR0 hi hLs σ
    by_cases c : 6 * (j : Int) ≤ (Ls : Int) - 6
    · rw [decide_eq_true c] at hc
      obtain ⟨σ', V', e1, h1, h2⟩ := lbody_ok (V := V) (σ := σ) (xs := xs) hR0 hR1 hR2 hi ⟨by omega, by omega, hLs⟩ hx (by omega) hr
      have w : wI (L.getD 3 0 + 6) = 6 * ((j + 1 : Nat) : Int) := by
        rw [hi, wI_id (show inI (6 * (j : Int) + 6) by unfold inI; omega)]
        omega
      obtain ⟨z', e3⟩ := ih (j + 1) (L.set 3 (wI (L.getD 3 0 + 6))) σ' V' (by rw [List.length_set]; exact hl) ((getD_set_self (show 3 < L.length by omega)).trans w) h1 (by omega) (by omega)
      exact ⟨z', lpN_t hc e1 rfl e3⟩
    · rw [decide_eq_false c] at hc
      refine ⟨(L, R, σ), ?_⟩
      unfold lpN
      rw [hc, bn_some, if_neg (by decide)]
/-- the law answers 1 -/
theorem law_one (hR0 : R.getD 0 0 = bS) (hR1 : R.getD 1 0 = 0) (hR2 : R.getD 2 0 = 239) (hLs : Ls ≤ 3072) (hx : ∀ j, inI (xs j)) (hl : L.length = 4) (hr : Rel 0 σ) : ∃ z' : ZZ, LawB bS xs Ls (L, R, σ) = some (.inr 1, z') := by
  obtain ⟨z1, e1⟩ := law_lp (Ls := Ls) (xs := xs) hR0 hR1 hR2 hLs hx 600 0 (L.set 3 0) σ 0 (by rw [List.length_set]; exact hl) ((getD_set_self (show 3 < L.length by omega)).trans (by omega)) hr (by omega) (by omega)
  have e2 := lp_of e1
  refine ⟨z1, ?_⟩
  unfold LawB
  have a0 : asI 3 (cI 0) (L, R, σ) = some (.inl 0, ((L.set 3 0, R, σ) : ZZ)) := rfl
  rw [sq_eq, a0, sqM_0, sq_eq, e2, sqM_0]
  rfl
end LAWP
