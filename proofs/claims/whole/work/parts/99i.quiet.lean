/-! ways: the class's search, step by step -/
section QP
variable {ok : Int → Int → Prop} {fx fy W : Int} {N : Nat}
def adj (x y x' y' : Int) : Prop := x' = x + 1 ∧ y' = y ∨ x' = x ∧ y' = y + 1 ∨ x' = x - 1 ∧ y' = y ∨ x' = x ∧ y' = y - 1
def Bq (ok : Int → Int → Prop) (fx fy W : Int) (N : Nat) (st qu : Nat → Int) (F : Nat) : Prop :=
  (∀ k : Nat, k < N → st k = -1 ∨ (0 ≤ st k ∧ RQ ok fx fy (st k).toNat ((k : Int) % W) ((k : Int) / W) ∧ ∃ j : Nat, j < F ∧ qu j = k)) ∧
  (∀ j : Nat, j < F → ∃ k : Nat, k < N ∧ qu j = (k : Int) ∧ 0 ≤ st k ∧ st k ≤ j) ∧
  (∀ j j' : Nat, j ≤ j' → j' < F → st (qu j).toNat ≤ st (qu j').toNat) ∧
  sumN (fun k => if st k = -1 then 0 else 1) N = F
def BqN (st qu : Nat → Int) (F i : Nat) : Prop := ∀ j, j < F → st (qu j).toNat ≤ st (qu i).toNat + 1
def BqD (ok : Int → Int → Prop) (W : Int) (st : Nat → Int) (q x' y' : Int) : Prop := ok x' y' → 0 ≤ st (y' * W + x').toNat ∧ st (y' * W + x').toNat ≤ st q.toNat + 1
def ExQ (N : Nat) (st qu : Nat → Int) (F : Nat) (st' qu' : Nat → Int) (F' : Nat) : Prop := F ≤ F' ∧ (∀ k, k < N → 0 ≤ st k → st' k = st k) ∧ ∀ j, j < F → qu' j = qu j
theorem ExQ_r (N : Nat) (st qu : Nat → Int) (F : Nat) : ExQ N st qu F st qu F := ⟨Nat.le_refl _, fun _ _ _ => rfl, fun _ _ => rfl⟩
theorem ExQ_t {st qu st' qu' st'' qu'' : Nat → Int} {F F' F'' : Nat} (a : ExQ N st qu F st' qu' F') (b : ExQ N st' qu' F' st'' qu'' F'') : ExQ N st qu F st'' qu'' F'' :=
  ⟨Nat.le_trans a.1 b.1, fun k hk h => by rw [b.2.1 k hk (by rw [a.2.1 k hk h]; exact h), a.2.1 k hk h], fun j hj => by rw [b.2.2 j (by have := a.1; omega), a.2.2 j hj]⟩
theorem sumN_upd {f : Nat → Int} {k : Nat} {v : Int} : ∀ n : Nat, sumN (fun j => if j = k then v else f j) n = sumN f n + (if k < n then v - f k else 0)
  | 0 => by show (0 : Int) = 0 + (if k < 0 then _ else 0); rw [if_neg (by omega)]; rfl
  | n + 1 => by
    show sumN (fun j => if j = k then v else f j) n + (if n = k then v else f n) = sumN f n + f n + (if k < n + 1 then v - f k else 0)
    rw [sumN_upd n]
    by_cases h : n = k
    · subst h
      rw [if_pos rfl, if_neg (by omega), if_pos (by omega)]
      omega
    · rw [if_neg h]
      by_cases g : k < n
      · rw [if_pos g, if_pos (by omega)]; omega
      · rw [if_neg g, if_neg (by omega)]; omega
theorem bq_lt {st qu : Nat → Int} {F : Nat} (B : Bq ok fx fy W N st qu F) {k : Nat} (hk : k < N) (h : st k = -1) : F < N := by
  have e := sumN_upd (f := fun j => if st j = -1 then 0 else 1) (k := k) (v := 1) N
  rw [if_pos hk] at e
  have z : (if st k = -1 then (0 : Int) else 1) = 0 := if_pos h
  have b := sumN_bd (f := fun j => if j = k then 1 else (fun j => if st j = -1 then (0 : Int) else 1) j) (B := 1) (by omega) N (fun j _ => by
    show 0 ≤ (if j = k then (1 : Int) else if st j = -1 then 0 else 1) ∧ (if j = k then (1 : Int) else if st j = -1 then 0 else 1) ≤ 1
    repeat' split
    all_goals omega)
  have e : sumN (fun j => if j = k then 1 else (fun j => if st j = -1 then (0 : Int) else 1) j) N = sumN (fun j => if st j = -1 then 0 else 1) N + (1 - (if st k = -1 then (0 : Int) else 1)) := e
  rw [B.2.2.2, z] at e
  omega
theorem bq_le {st qu : Nat → Int} {F : Nat} (B : Bq ok fx fy W N st qu F) : F ≤ N := by
  have b := sumN_bd (f := fun j => if st j = -1 then 0 else 1) (B := 1) (by omega) N (fun j _ => by
    show 0 ≤ (if st j = -1 then (0 : Int) else 1) ∧ (if st j = -1 then (0 : Int) else 1) ≤ 1
    split <;> omega)
  rw [B.2.2.2] at b
  omega
theorem RQ_adj {t : Nat} {x y x' y' : Int} (h : RQ ok fx fy t x y) (ha : adj x y x' y') (hok : ok x' y') : RQ ok fx fy (t + 1) x' y' := by
  refine Or.inr ⟨hok, ?_⟩
  rcases ha with ⟨a, b⟩ | ⟨a, b⟩ | ⟨a, b⟩ | ⟨a, b⟩
  · exact Or.inl (by rw [a, b, show x + 1 - 1 = x by omega]; exact h)
  · exact Or.inr (Or.inl (by rw [a, b, show y + 1 - 1 = y by omega]; exact h))
  · exact Or.inr (Or.inr (Or.inl (by rw [a, b, show x - 1 + 1 = x by omega]; exact h)))
  · exact Or.inr (Or.inr (Or.inr (by rw [a, b, show y - 1 + 1 = y by omega]; exact h)))
theorem bq_new {st qu : Nat → Int} {F i : Nat} (B : Bq ok fx fy W N st qu F) (Nn : BqN st qu F i) (hi : i < F) {k' : Nat} (hk : k' < N) (h1 : st k' = -1) (hok : ok ((k' : Int) % W) ((k' : Int) / W)) (ha : adj (qu i % W) (qu i / W) ((k' : Int) % W) ((k' : Int) / W)) : Bq ok fx fy W N (upc st k' (st (qu i).toNat + 1)) (upc qu F k') (F + 1) ∧ BqN (upc st k' (st (qu i).toNat + 1)) (upc qu F k') (F + 1) i ∧ ExQ N st qu F (upc st k' (st (qu i).toNat + 1)) (upc qu F k') (F + 1) := by
  obtain ⟨b1, b2, b3, b4⟩ := B
  obtain ⟨ki, ki1, ki2, ki3, ki4⟩ := b2 i hi
  have eki : (qu i).toNat = ki := by omega
  rw [eki]
  have ni : ki ≠ k' := fun e => by rw [e] at ki3; omega
  have ext : ExQ N st qu F (upc st k' (st ki + 1)) (upc qu F k') (F + 1) := ⟨by omega, fun k _ h => upc_ne (fun e => by rw [e] at h; omega), fun j hj => upc_ne (by omega)⟩
  have qj : ∀ j, j < F → (upc st k' (st ki + 1)) ((upc qu F k') j).toNat = st (qu j).toNat := fun j hj => by
    obtain ⟨k, k1, k2, k3, k4⟩ := b2 j hj
    rw [show upc qu F (k' : Int) j = qu j from upc_ne (by omega), k2, show ((k : Int)).toNat = k by omega]
    exact upc_ne (fun e => by rw [e] at k3; omega)
  have qF : (upc st k' (st ki + 1)) ((upc qu F k') F).toNat = st ki + 1 := by
    rw [upc_same, show ((k' : Int)).toNat = k' by omega, upc_same]
  have nn : ∀ j, j < F → st (qu j).toNat ≤ st ki + 1 := fun j hj => by have := Nn j hj; rw [eki] at this; exact this
  have rq : RQ ok fx fy (st ki).toNat ((ki : Int) % W) ((ki : Int) / W) := by
    rcases b1 ki ki1 with e | e
    · omega
    · exact e.2.1
  refine ⟨⟨fun k hkN => ?_, fun j hj => ?_, fun j j' h h' => ?_, ?_⟩, fun j hj => ?_, ext⟩
  · by_cases e : k = k'
    · subst e
      rw [upc_same]
      refine Or.inr ⟨by omega, ?_, F, by omega, upc_same _ _ _⟩
      rw [show (st ki + 1).toNat = (st ki).toNat + 1 by omega]
      rw [ki2] at ha
      exact RQ_adj rq ha hok
    · rw [upc_ne e]
      rcases b1 k hkN with q | ⟨q1, q2, j, q3, q4⟩
      · exact Or.inl q
      · exact Or.inr ⟨q1, q2, j, by omega, by rw [upc_ne (by omega)]; exact q4⟩
  · by_cases e : j = F
    · subst e
      exact ⟨k', hk, upc_same _ _ _, by rw [upc_same]; omega, by rw [upc_same]; omega⟩
    · obtain ⟨k, k1, k2, k3, k4⟩ := b2 j (by omega)
      have nk : k ≠ k' := fun e => by rw [e] at k3; omega
      exact ⟨k, k1, by rw [upc_ne e]; exact k2, by rw [upc_ne nk]; exact k3, by rw [upc_ne nk]; exact k4⟩
  · by_cases e' : j' = F
    · subst e'
      rw [qF]
      by_cases e : j = j'
      · rw [e, qF]; exact Int.le_refl _
      · rw [qj j (by omega)]
        exact nn j (by omega)
    · rw [qj j (by omega), qj j' (by omega)]
      exact b3 j j' h (by omega)
  · have e := sumN_upd (f := fun j => if st j = -1 then 0 else 1) (k := k') (v := 1) N
    rw [if_pos hk] at e
    have z : (if st k' = -1 then (0 : Int) else 1) = 0 := if_pos h1
    have e2 : sumN (fun k => if upc st k' (st ki + 1) k = -1 then (0 : Int) else 1) N = sumN (fun j => if j = k' then 1 else (fun j => if st j = -1 then (0 : Int) else 1) j) N := sumN_congr N (fun j _ => by
      show (if upc st k' (st ki + 1) j = -1 then (0 : Int) else 1) = if j = k' then 1 else if st j = -1 then 0 else 1
      by_cases q : j = k'
      · subst q; rw [upc_same, if_neg (by omega), if_pos rfl]
      · rw [upc_ne q, if_neg q])
    rw [e2, e, b4]
    show (F : Int) + (1 - (if st k' = -1 then (0 : Int) else 1)) = ((F + 1 : Nat) : Int)
    rw [z]
    omega
  · have e0 : (upc st k' (st ki + 1)) ((upc qu F k') i).toNat = st ki := by rw [qj i hi, eki]
    rw [e0]
    by_cases e : j = F
    · subst e; rw [qF]; exact Int.le_refl _
    · rw [qj j (by omega)]; exact nn j (by omega)
theorem bqD_ext {st qu st' qu' : Nat → Int} {F F' : Nat} (E : ExQ N st qu F st' qu' F') {q x' y' : Int} (hq : ∃ k : Nat, k < N ∧ q = (k : Int) ∧ 0 ≤ st k) (hx : ok x' y' → (y' * W + x').toNat < N) (D : BqD ok W st q x' y') : BqD ok W st' q x' y' := by
  intro o
  obtain ⟨d1, d2⟩ := D o
  obtain ⟨k, k1, k2, k3⟩ := hq
  subst k2
  rw [E.2.1 _ (hx o) d1, show ((k : Int)).toNat = k by omega, E.2.1 k k1 k3]
  rw [show ((k : Int)).toNat = k by omega] at d2
  exact ⟨d1, d2⟩
/-- all visited ones' neighbours are visited: the steps are right -/
theorem bq_end {st qu : Nat → Int} {F : Nat} (W0 : 0 < W) (hN : ∀ x y, ok x y → (0 ≤ x ∧ x < W) ∧ 0 ≤ y ∧ y * W + x < N) (B : Bq ok fx fy W N st qu F) (D : ∀ j, j < F → ∀ x' y', adj (qu j % W) (qu j / W) x' y' → BqD ok W st (qu j) x' y') (h0 : ok fx fy → st (fy * W + fx).toNat = 0) {x y : Int} (hxy : (0 ≤ x ∧ x < W) ∧ 0 ≤ y ∧ y * W + x < N) : isD ok fx fy (st (y * W + x).toNat) x y ∧ st (y * W + x).toNat ≤ (N : Int) - 1 := by
  have p0 : ∀ {x y : Int}, 0 ≤ x → 0 ≤ y → 0 ≤ y * W + x := fun h1 h2 => Int.add_nonneg (Int.mul_nonneg h2 (by omega)) h1
  have FN := bq_le B
  have all := RQ_all (ok := ok) (fx := fx) (fy := fy) (fun x y => st (y * W + x).toNat) h0 (by
    intro x y x' y' ha ho ho' hst
    have q := hN x y ho
    have pp := p0 q.1.1 q.2.1
    obtain ⟨c1, c2⟩ := cell_xy (W := W) (x := x) (y := y) q.1.1 q.1.2
    rcases B.1 (y * W + x).toNat (by omega) with e | ⟨e1, e2, j, j1, j2⟩
    · have hst : 0 ≤ st (y * W + x).toNat := hst
      omega
    · rw [show (((y * W + x).toNat : Nat) : Int) = y * W + x by omega] at j2
      have d := D j j1 x' y' (by rw [j2, c1, c2]; exact ha) ho'
      rw [j2] at d
      exact d)
  have pp := p0 hxy.1.1 hxy.2.1
  obtain ⟨c1, c2⟩ := cell_xy (W := W) (x := x) (y := y) hxy.1.1 hxy.1.2
  rcases B.1 (y * W + x).toNat (by omega) with e | ⟨e1, e2, j, j1, j2⟩
  · refine ⟨Or.inl ⟨e, fun t h => ?_⟩, by omega⟩
    have := (all t x y h).1
    have this : 0 ≤ st (y * W + x).toNat := this
    omega
  · rw [show (((y * W + x).toNat : Nat) : Int) = y * W + x by omega, c1, c2] at e2
    refine ⟨Or.inr ⟨e1, e2, fun t h => (all t x y h).2⟩, ?_⟩
    obtain ⟨k, k1, k2, k3, k4⟩ := B.2.1 j j1
    have : k = (y * W + x).toNat := by omega
    rw [← this]
    omega
theorem RQ_none (h : ¬ ok fx fy) : ∀ (t : Nat) (x y : Int), ¬ RQ ok fx fy t x y
  | 0, x, y => fun q => by
    obtain ⟨⟨a, b⟩, o⟩ := q
    rw [a, b] at o
    exact h o
  | t + 1, x, y => fun q => by
    rcases q with q | ⟨_, q | q | q | q⟩
    · exact RQ_none h t _ _ q
    · exact RQ_none h t _ _ q
    · exact RQ_none h t _ _ q
    · exact RQ_none h t _ _ q
    · exact RQ_none h t _ _ q
end QP
section QS
variable {σ : SS} {V : Int} {c w : Nat → Int}
def okB (c : Nat → Int) (lv : Int) (x y : Int) : Prop := ((0 ≤ x ∧ x < c 0) ∧ (0 ≤ y ∧ y < c 1)) ∧ loudB c (playP c) x y ≤ lv
theorem okB_N (hw : WH c) {lv x y : Int} (h : (0 ≤ x ∧ x < c 0) ∧ (0 ≤ y ∧ y < c 1)) : (0 ≤ x ∧ x < c 0) ∧ 0 ≤ y ∧ y * c 0 + x < nC c := by
  have hN := (nC_c hw).1
  have m := Int.mul_le_mul_of_nonneg_right (show y + 1 ≤ c 1 by omega) (show 0 ≤ c 0 by omega)
  rw [Int.add_mul, Int.one_mul, Int.mul_comm (c 1)] at m
  exact ⟨h.1, h.2.1, by omega⟩
/-- a state of the search for ways -/
def BqS (c : Nat → Int) (lv fx fy : Int) (σ0 : SS) (F i : Nat) (σ' : SS) : Prop := (∀ a, a ≠ 140 → a ≠ 141 → σ' a = σ0 a) ∧ Bq (okB c lv) fx fy (c 0) (nC c) (σ' 140) (σ' 141) F ∧ BqN (σ' 140) (σ' 141) F i
def lvOk (c : Nat → Int) (σ : SS) : Prop := ∀ k : Nat, k < nC c → σ 139 k = loudB c (playP c) ((k : Int) % c 0) ((k : Int) / c 0)
def RcQ (c : Nat → Int) (lv fx fy : Int) (σ0 σ1 : SS) (F i : Nat) (x' y' : Int) (r : Int) (σ2 : SS) : Prop := ∃ F2 : Nat, r = (F2 : Int) ∧ BqS c lv fx fy σ0 F2 i σ2 ∧ ExQ (nC c) (σ1 140) (σ1 141) F (σ2 140) (σ2 141) F2 ∧ BqD (okB c lv) (c 0) (σ2 140) (σ2 141 i) x' y'
theorem k_reach (hw : WB c) {lv fx fy : Int} {σ0 σ1 : SS} (lo : lvOk c σ0) {F i : Nat} (hi : i < F) (B : BqS c lv fx fy σ0 F i σ1) {nx : Int} (hnx : nx = σ1 140 (σ1 141 i).toNat + 1) {x' y' : Int} (ha : adj (σ1 141 i % c 0) (σ1 141 i / c 0) x' y') {v : Int} (hv : v = if (0 ≤ x' ∧ x' < c 0) ∧ (0 ≤ y' ∧ y' < c 1) then y' * c 0 + x' else -1) : Wd (F_X5_reach 128 v lv nx F σ1) (RcQ c lv fx fy σ0 σ1 F i x' y') := by
  have hH := hw.1
  have hN := nC_c hw.1
  obtain ⟨s1, s2, s3⟩ := B
  have FN := bq_le s2
  by_cases h : (0 ≤ x' ∧ x' < c 0) ∧ (0 ≤ y' ∧ y' < c 1)
  · rw [if_pos h] at hv
    have q := okB_N hw.1 (lv := lv) h
    obtain ⟨c1, c2⟩ := cell_xy (W := c 0) (x := x') (y := y') q.1.1 q.1.2
    have p0 : 0 ≤ y' * c 0 + x' := Int.add_nonneg (Int.mul_nonneg q.2.1 (by omega)) q.1.1
    obtain ⟨k, hk⟩ : ∃ k : Nat, v = (k : Int) := ⟨v.toNat, by omega⟩
    have kN : k < nC c := by omega
    have ek : (y' * c 0 + x').toNat = k := by omega
    rw [hk] at hv
    rw [← hv] at c1 c2
    have el : σ1 139 k = loudB c (playP c) x' y' := by rw [s1 139 (by omega) (by omega), lo k kN, c1, c2]
    have k30 : k < 30 := by omega
    subst hk
    by_cases g1 : σ1 140 k = -1
    · by_cases g2 : loudB c (playP c) x' y' ≤ lv
      · have hok : okB c lv ((k : Int) % c 0) ((k : Int) / c 0) := by rw [c1, c2]; exact ⟨h, g2⟩
        have FltN := bq_lt s2 kN g1
        obtain ⟨n1, n2, n3⟩ := bq_new s2 s3 hi kN g1 hok (by rw [c1, c2]; exact ha)
        have e40 : ups (ups σ1 140 k nx) 141 F (k : Int) 140 = upc (σ1 140) k (σ1 140 (σ1 141 i).toNat + 1) := by rw [upsA (by omega), ups_at, hnx]
        have e41 : ups (ups σ1 140 k nx) 141 F (k : Int) 141 = upc (σ1 141) F (k : Int) := by rw [ups_at, upsA (by omega)]
        have post : RcQ c lv fx fy σ0 σ1 F i x' y' ((F : Int) + 1) (ups (ups σ1 140 k nx) 141 F (k : Int)) := by
          unfold RcQ
          rw [e40, e41]
          refine ⟨F + 1, rfl, ⟨fun a g1 g2 => by try simp (disch := omega) only [ups_11, upsN, upsA, upA_same, upA_neA, fl_at, fl_neA]; exact s1 a g1 g2, by rw [e40, e41]; exact n1, by rw [e40, e41]; exact n2⟩, n3, fun _ => ?_⟩
          obtain ⟨ki, ki1, ki2, ki3, ki4⟩ := s2.2.1 i hi
          have q := n3.2.1 ki ki1 ki3
          have eki : (σ1 141 i).toNat = ki := by omega
          rw [eki] at q
          rw [ek, upc_same, n3.2.2 i hi, eki, q]
          omega
        have Fl : (F : Int) < 30 := by omega
        clear hH hN h q n1 n2 n3 FN s1 s2 s3
        try simp (disch := omega) only [w_iff, iffM_t, iffM_f, iffM_d, iffM_nd, iffM_0, iffM_ite, Wd_iffM, iffM_v, w_tern, ternM_t, ternM_f, ternM_d, ternM_nd, ternM_0, ternM_ite, Wd_ternM, ternM_v, w_sw, swX_1, Wd_swX, Bool.not_true, Bool.not_false, F_X5_reach, B_X5_reach, sh_0, sh_1, sh_2, sh_3, sh_4, sh_5, sh_6, sh_7, sh_8, sh_9, sh_10, sh_35, sh_46, sh_47, sh_48, sh_77, sh_86, sh_87, sh_116, sh_127, sh_128, sh_138, sh_142, sh_143, rf_0_0, rf_0_1, rf_0_2, rf_0_3, rf_0_4, rf_0_5, rf_0_6, rf_0_7, rf_0_8, rf_5_0, rf_5_1, rf_5_2, rf_6_8, rf_6_10, rf_6_12, rf_6_13, rf_86_0, rf_86_1, rf_86_2, rf_2_0, rf_2_4, rf_47_0, rf_47_1, rf_77_0, rf_77_1, rf_77_2, rf_77_3, rf_128_0, rf_128_1, rf_128_2, rf_128_3, rf_128_4, rf_128_5, rf_128_6, rf_128_7, N_rt, N_rb, N_rg, N_t, N_b, N_g, N_q, N_qr, N_qn, N_ql, N_m, sh_139, sh_140, sh_141, g1, el, g2, Wd_some, Wd_bn, Wd_sqM, Wd_outV, Wd_blkM, Wd_swM, Wd_ite, Wd_map, v_kS_0, v_kS_b, v_kS_r, v_kO_r, v_kW_0, v_kW_1, v_kW_2, v_kW_r, v_kL_0, v_kL_1, v_kL_2, v_kL_r, v_kU_0, ups_11, upsN, upsA, upA_same, upA_neA, fl_at, fl_neA, v_sq_eq, v_sqM_0, v_sqM_r, v_sqM_b, v_sqM_n, sqM_ite, v_asI, v_asR, v_inc, v_pfI, v_pfZ, v_pfO, v_paI, v_paO, v_exI,  v_rtI, v_rtZ, v_rtV, v_sk, v_brk, v_cnt, v_blk_eq, v_blkM_some, blkM_ite, v_lI, v_lR, v_cI, v_gI, v_gR, v_op1, v_op2, v_arI, v_arR, v_alen,  v_cmp1, v_cmp2, v_cAnd, v_cOr, v_cNot, v_cTern, v_bn_some, bn_ite, v_bn_none, v_outV_r, v_outV_0, v_outV_n, outV_ite, List.getD_cons_zero, List.getD_cons_succ, List.set_cons_zero, List.set_cons_succ, List.take_succ_cons, List.take_zero, List.drop_succ_cons, List.drop_zero, List.nil_append, List.cons_append, Option.map_some, Option.map_none, if_true, if_false, ↓reduceIte, reduceCtorEq, decide_eq_true_eq, Bool.not_eq_true', decide_eq_false_iff_not, decide_eq_true, decide_eq_false, decide_true, decide_false, and_self, and_true, true_and, or_self, stO, v_caV_, v_caV_i, v_caV_ii, v_caV_iii, v_caV_iiii, v_caV_iiiii, v_caV_il, v_caV_iil, v_caV_l, v_caV_ll, v_caV_r, v_caV_ri, v_caV_rii, v_caV_riii, v_caV_riiii, v_caV_ir, v_caV_iri, v_caV_iiri, v_caS_i, v_caS_ii, v_caS_iii, v_caS_iiii, v_caS_iiiiii, v_caS_il, v_caS_li, v_caS_ll, v_caS_lll, v_caS_ri, v_caS_riii, sh_239, sh_240, sh_241, sh_242, sh_243, sh_244, sh_245, sh_246, sh_247, sh_248, sh_249, sh_250, sh_251, sh_252, sh_253, rf_239_4, rf_239_5, rf_239_6, rf_239_7, rf_239_20, rf_239_21, rf_239_22, rf_239_23, rf_239_27, rf_239_28, rf_239_32, rf_239_33, rf_239_34, rf_239_35, Int.reduceLE, Int.reduceLT, Int.reduceToNat, Int.reduceAdd, Int.reduceSub, Int.reduceMul, Int.reduceNeg, Int.reduceEq, Int.reduceNe, Nat.reduceAdd, Nat.reduceMul, Nat.reduceLT, Nat.reduceEqDiff, or_true, true_or, or_false, false_or, and_false, false_and, not_true_eq_false, not_false_eq_true, ne_eq, cN4, cN5, cN6, cN7, cN13, cN30, cN60, cN64, cN100, cN136, cN240, cN384, cN900, cN2040, cN3,  v_swM_0, v_swM_1, v_swM_r, v_swM_n, swM_ite, app_ite, ex_some, bI_0, bI_1, nn_iff, Int.toNat_natCast, Int.toNat_of_nonneg, Int.natCast_add, cN1, wI_id2, wL_id2, ↓if_pos, ↓if_neg, if_pos, if_neg]
        exact post
      · have post : RcQ c lv fx fy σ0 σ1 F i x' y' (F : Int) σ1 := ⟨F, rfl, ⟨s1, s2, s3⟩, ExQ_r _ _ _ _, fun o => absurd o.2 g2⟩
        have g2' : lv < loudB c (playP c) x' y' := by omega
        clear hH hN h q FN s1 s2 s3
        try simp (disch := omega) only [w_iff, iffM_t, iffM_f, iffM_d, iffM_nd, iffM_0, iffM_ite, Wd_iffM, iffM_v, w_tern, ternM_t, ternM_f, ternM_d, ternM_nd, ternM_0, ternM_ite, Wd_ternM, ternM_v, w_sw, swX_1, Wd_swX, Bool.not_true, Bool.not_false, F_X5_reach, B_X5_reach, sh_0, sh_1, sh_2, sh_3, sh_4, sh_5, sh_6, sh_7, sh_8, sh_9, sh_10, sh_35, sh_46, sh_47, sh_48, sh_77, sh_86, sh_87, sh_116, sh_127, sh_128, sh_138, sh_142, sh_143, rf_0_0, rf_0_1, rf_0_2, rf_0_3, rf_0_4, rf_0_5, rf_0_6, rf_0_7, rf_0_8, rf_5_0, rf_5_1, rf_5_2, rf_6_8, rf_6_10, rf_6_12, rf_6_13, rf_86_0, rf_86_1, rf_86_2, rf_2_0, rf_2_4, rf_47_0, rf_47_1, rf_77_0, rf_77_1, rf_77_2, rf_77_3, rf_128_0, rf_128_1, rf_128_2, rf_128_3, rf_128_4, rf_128_5, rf_128_6, rf_128_7, N_rt, N_rb, N_rg, N_t, N_b, N_g, N_q, N_qr, N_qn, N_ql, N_m, sh_139, sh_140, sh_141, g1, el, g2', Wd_some, Wd_bn, Wd_sqM, Wd_outV, Wd_blkM, Wd_swM, Wd_ite, Wd_map, v_kS_0, v_kS_b, v_kS_r, v_kO_r, v_kW_0, v_kW_1, v_kW_2, v_kW_r, v_kL_0, v_kL_1, v_kL_2, v_kL_r, v_kU_0, ups_11, upsN, upsA, upA_same, upA_neA, fl_at, fl_neA, v_sq_eq, v_sqM_0, v_sqM_r, v_sqM_b, v_sqM_n, sqM_ite, v_asI, v_asR, v_inc, v_pfI, v_pfZ, v_pfO, v_paI, v_paO, v_exI,  v_rtI, v_rtZ, v_rtV, v_sk, v_brk, v_cnt, v_blk_eq, v_blkM_some, blkM_ite, v_lI, v_lR, v_cI, v_gI, v_gR, v_op1, v_op2, v_arI, v_arR, v_alen,  v_cmp1, v_cmp2, v_cAnd, v_cOr, v_cNot, v_cTern, v_bn_some, bn_ite, v_bn_none, v_outV_r, v_outV_0, v_outV_n, outV_ite, List.getD_cons_zero, List.getD_cons_succ, List.set_cons_zero, List.set_cons_succ, List.take_succ_cons, List.take_zero, List.drop_succ_cons, List.drop_zero, List.nil_append, List.cons_append, Option.map_some, Option.map_none, if_true, if_false, ↓reduceIte, reduceCtorEq, decide_eq_true_eq, Bool.not_eq_true', decide_eq_false_iff_not, decide_eq_true, decide_eq_false, decide_true, decide_false, and_self, and_true, true_and, or_self, stO, v_caV_, v_caV_i, v_caV_ii, v_caV_iii, v_caV_iiii, v_caV_iiiii, v_caV_il, v_caV_iil, v_caV_l, v_caV_ll, v_caV_r, v_caV_ri, v_caV_rii, v_caV_riii, v_caV_riiii, v_caV_ir, v_caV_iri, v_caV_iiri, v_caS_i, v_caS_ii, v_caS_iii, v_caS_iiii, v_caS_iiiiii, v_caS_il, v_caS_li, v_caS_ll, v_caS_lll, v_caS_ri, v_caS_riii, sh_239, sh_240, sh_241, sh_242, sh_243, sh_244, sh_245, sh_246, sh_247, sh_248, sh_249, sh_250, sh_251, sh_252, sh_253, rf_239_4, rf_239_5, rf_239_6, rf_239_7, rf_239_20, rf_239_21, rf_239_22, rf_239_23, rf_239_27, rf_239_28, rf_239_32, rf_239_33, rf_239_34, rf_239_35, Int.reduceLE, Int.reduceLT, Int.reduceToNat, Int.reduceAdd, Int.reduceSub, Int.reduceMul, Int.reduceNeg, Int.reduceEq, Int.reduceNe, Nat.reduceAdd, Nat.reduceMul, Nat.reduceLT, Nat.reduceEqDiff, or_true, true_or, or_false, false_or, and_false, false_and, not_true_eq_false, not_false_eq_true, ne_eq, cN4, cN5, cN6, cN7, cN13, cN30, cN60, cN64, cN100, cN136, cN240, cN384, cN900, cN2040, cN3,  v_swM_0, v_swM_1, v_swM_r, v_swM_n, swM_ite, app_ite, ex_some, bI_0, bI_1, nn_iff, Int.toNat_natCast, Int.toNat_of_nonneg, Int.natCast_add, cN1, wI_id2, wL_id2, ↓if_pos, ↓if_neg, if_pos, if_neg]
        exact post
    · have post : RcQ c lv fx fy σ0 σ1 F i x' y' (F : Int) σ1 := by
        refine ⟨F, rfl, ⟨s1, s2, s3⟩, ExQ_r _ _ _ _, fun _ => ?_⟩
        rw [ek]
        rcases s2.1 k kN with e | ⟨e1, e2, j, j1, j2⟩
        · exact absurd e g1
        · refine ⟨e1, ?_⟩
          have := s3 j j1
          rw [j2, show ((k : Int)).toNat = k by omega] at this
          exact this
      clear hH hN h q FN s1 s2 s3
      try simp (disch := omega) only [w_iff, iffM_t, iffM_f, iffM_d, iffM_nd, iffM_0, iffM_ite, Wd_iffM, iffM_v, w_tern, ternM_t, ternM_f, ternM_d, ternM_nd, ternM_0, ternM_ite, Wd_ternM, ternM_v, w_sw, swX_1, Wd_swX, Bool.not_true, Bool.not_false, F_X5_reach, B_X5_reach, sh_0, sh_1, sh_2, sh_3, sh_4, sh_5, sh_6, sh_7, sh_8, sh_9, sh_10, sh_35, sh_46, sh_47, sh_48, sh_77, sh_86, sh_87, sh_116, sh_127, sh_128, sh_138, sh_142, sh_143, rf_0_0, rf_0_1, rf_0_2, rf_0_3, rf_0_4, rf_0_5, rf_0_6, rf_0_7, rf_0_8, rf_5_0, rf_5_1, rf_5_2, rf_6_8, rf_6_10, rf_6_12, rf_6_13, rf_86_0, rf_86_1, rf_86_2, rf_2_0, rf_2_4, rf_47_0, rf_47_1, rf_77_0, rf_77_1, rf_77_2, rf_77_3, rf_128_0, rf_128_1, rf_128_2, rf_128_3, rf_128_4, rf_128_5, rf_128_6, rf_128_7, N_rt, N_rb, N_rg, N_t, N_b, N_g, N_q, N_qr, N_qn, N_ql, N_m, sh_139, sh_140, sh_141, g1, Wd_some, Wd_bn, Wd_sqM, Wd_outV, Wd_blkM, Wd_swM, Wd_ite, Wd_map, v_kS_0, v_kS_b, v_kS_r, v_kO_r, v_kW_0, v_kW_1, v_kW_2, v_kW_r, v_kL_0, v_kL_1, v_kL_2, v_kL_r, v_kU_0, ups_11, upsN, upsA, upA_same, upA_neA, fl_at, fl_neA, v_sq_eq, v_sqM_0, v_sqM_r, v_sqM_b, v_sqM_n, sqM_ite, v_asI, v_asR, v_inc, v_pfI, v_pfZ, v_pfO, v_paI, v_paO, v_exI,  v_rtI, v_rtZ, v_rtV, v_sk, v_brk, v_cnt, v_blk_eq, v_blkM_some, blkM_ite, v_lI, v_lR, v_cI, v_gI, v_gR, v_op1, v_op2, v_arI, v_arR, v_alen,  v_cmp1, v_cmp2, v_cAnd, v_cOr, v_cNot, v_cTern, v_bn_some, bn_ite, v_bn_none, v_outV_r, v_outV_0, v_outV_n, outV_ite, List.getD_cons_zero, List.getD_cons_succ, List.set_cons_zero, List.set_cons_succ, List.take_succ_cons, List.take_zero, List.drop_succ_cons, List.drop_zero, List.nil_append, List.cons_append, Option.map_some, Option.map_none, if_true, if_false, ↓reduceIte, reduceCtorEq, decide_eq_true_eq, Bool.not_eq_true', decide_eq_false_iff_not, decide_eq_true, decide_eq_false, decide_true, decide_false, and_self, and_true, true_and, or_self, stO, v_caV_, v_caV_i, v_caV_ii, v_caV_iii, v_caV_iiii, v_caV_iiiii, v_caV_il, v_caV_iil, v_caV_l, v_caV_ll, v_caV_r, v_caV_ri, v_caV_rii, v_caV_riii, v_caV_riiii, v_caV_ir, v_caV_iri, v_caV_iiri, v_caS_i, v_caS_ii, v_caS_iii, v_caS_iiii, v_caS_iiiiii, v_caS_il, v_caS_li, v_caS_ll, v_caS_lll, v_caS_ri, v_caS_riii, sh_239, sh_240, sh_241, sh_242, sh_243, sh_244, sh_245, sh_246, sh_247, sh_248, sh_249, sh_250, sh_251, sh_252, sh_253, rf_239_4, rf_239_5, rf_239_6, rf_239_7, rf_239_20, rf_239_21, rf_239_22, rf_239_23, rf_239_27, rf_239_28, rf_239_32, rf_239_33, rf_239_34, rf_239_35, Int.reduceLE, Int.reduceLT, Int.reduceToNat, Int.reduceAdd, Int.reduceSub, Int.reduceMul, Int.reduceNeg, Int.reduceEq, Int.reduceNe, Nat.reduceAdd, Nat.reduceMul, Nat.reduceLT, Nat.reduceEqDiff, or_true, true_or, or_false, false_or, and_false, false_and, not_true_eq_false, not_false_eq_true, ne_eq, cN4, cN5, cN6, cN7, cN13, cN30, cN60, cN64, cN100, cN136, cN240, cN384, cN900, cN2040, cN3,  v_swM_0, v_swM_1, v_swM_r, v_swM_n, swM_ite, app_ite, ex_some, bI_0, bI_1, nn_iff, Int.toNat_natCast, Int.toNat_of_nonneg, Int.natCast_add, cN1, wI_id2, wL_id2, ↓if_pos, ↓if_neg, if_pos, if_neg]
      exact post
  · rw [if_neg h] at hv
    have post : RcQ c lv fx fy σ0 σ1 F i x' y' (F : Int) σ1 := ⟨F, rfl, ⟨s1, s2, s3⟩, ExQ_r _ _ _ _, fun o => absurd o.1 h⟩
    subst hv
    clear hH hN h FN s1 s2 s3
    try simp (disch := omega) only [w_iff, iffM_t, iffM_f, iffM_d, iffM_nd, iffM_0, iffM_ite, Wd_iffM, iffM_v, w_tern, ternM_t, ternM_f, ternM_d, ternM_nd, ternM_0, ternM_ite, Wd_ternM, ternM_v, w_sw, swX_1, Wd_swX, Bool.not_true, Bool.not_false, F_X5_reach, B_X5_reach, sh_0, sh_1, sh_2, sh_3, sh_4, sh_5, sh_6, sh_7, sh_8, sh_9, sh_10, sh_35, sh_46, sh_47, sh_48, sh_77, sh_86, sh_87, sh_116, sh_127, sh_128, sh_138, sh_142, sh_143, rf_0_0, rf_0_1, rf_0_2, rf_0_3, rf_0_4, rf_0_5, rf_0_6, rf_0_7, rf_0_8, rf_5_0, rf_5_1, rf_5_2, rf_6_8, rf_6_10, rf_6_12, rf_6_13, rf_86_0, rf_86_1, rf_86_2, rf_2_0, rf_2_4, rf_47_0, rf_47_1, rf_77_0, rf_77_1, rf_77_2, rf_77_3, rf_128_0, rf_128_1, rf_128_2, rf_128_3, rf_128_4, rf_128_5, rf_128_6, rf_128_7, N_rt, N_rb, N_rg, N_t, N_b, N_g, N_q, N_qr, N_qn, N_ql, N_m, sh_139, sh_140, sh_141, Wd_some, Wd_bn, Wd_sqM, Wd_outV, Wd_blkM, Wd_swM, Wd_ite, Wd_map, v_kS_0, v_kS_b, v_kS_r, v_kO_r, v_kW_0, v_kW_1, v_kW_2, v_kW_r, v_kL_0, v_kL_1, v_kL_2, v_kL_r, v_kU_0, ups_11, upsN, upsA, upA_same, upA_neA, fl_at, fl_neA, v_sq_eq, v_sqM_0, v_sqM_r, v_sqM_b, v_sqM_n, sqM_ite, v_asI, v_asR, v_inc, v_pfI, v_pfZ, v_pfO, v_paI, v_paO, v_exI,  v_rtI, v_rtZ, v_rtV, v_sk, v_brk, v_cnt, v_blk_eq, v_blkM_some, blkM_ite, v_lI, v_lR, v_cI, v_gI, v_gR, v_op1, v_op2, v_arI, v_arR, v_alen,  v_cmp1, v_cmp2, v_cAnd, v_cOr, v_cNot, v_cTern, v_bn_some, bn_ite, v_bn_none, v_outV_r, v_outV_0, v_outV_n, outV_ite, List.getD_cons_zero, List.getD_cons_succ, List.set_cons_zero, List.set_cons_succ, List.take_succ_cons, List.take_zero, List.drop_succ_cons, List.drop_zero, List.nil_append, List.cons_append, Option.map_some, Option.map_none, if_true, if_false, ↓reduceIte, reduceCtorEq, decide_eq_true_eq, Bool.not_eq_true', decide_eq_false_iff_not, decide_eq_true, decide_eq_false, decide_true, decide_false, and_self, and_true, true_and, or_self, stO, v_caV_, v_caV_i, v_caV_ii, v_caV_iii, v_caV_iiii, v_caV_iiiii, v_caV_il, v_caV_iil, v_caV_l, v_caV_ll, v_caV_r, v_caV_ri, v_caV_rii, v_caV_riii, v_caV_riiii, v_caV_ir, v_caV_iri, v_caV_iiri, v_caS_i, v_caS_ii, v_caS_iii, v_caS_iiii, v_caS_iiiiii, v_caS_il, v_caS_li, v_caS_ll, v_caS_lll, v_caS_ri, v_caS_riii, sh_239, sh_240, sh_241, sh_242, sh_243, sh_244, sh_245, sh_246, sh_247, sh_248, sh_249, sh_250, sh_251, sh_252, sh_253, rf_239_4, rf_239_5, rf_239_6, rf_239_7, rf_239_20, rf_239_21, rf_239_22, rf_239_23, rf_239_27, rf_239_28, rf_239_32, rf_239_33, rf_239_34, rf_239_35, Int.reduceLE, Int.reduceLT, Int.reduceToNat, Int.reduceAdd, Int.reduceSub, Int.reduceMul, Int.reduceNeg, Int.reduceEq, Int.reduceNe, Nat.reduceAdd, Nat.reduceMul, Nat.reduceLT, Nat.reduceEqDiff, or_true, true_or, or_false, false_or, and_false, false_and, not_true_eq_false, not_false_eq_true, ne_eq, cN4, cN5, cN6, cN7, cN13, cN30, cN60, cN64, cN100, cN136, cN240, cN384, cN900, cN2040, cN3,  v_swM_0, v_swM_1, v_swM_r, v_swM_n, swM_ite, app_ite, ex_some, bI_0, bI_1, nn_iff, Int.toNat_natCast, Int.toNat_of_nonneg, Int.natCast_add, cN1, wI_id2, wL_id2, ↓if_pos, ↓if_neg, if_pos, if_neg]
    exact post
end QS
