/-! the relation at the start -/
set_option maxRecDepth 100000 in
theorem sg0_v : (sg0 6 0 = 0 ∧ sg0 6 1 = 0 ∧ sg0 6 2 = 2 ∧ sg0 6 3 = 2 ∧ sg0 6 4 = 4 ∧ sg0 6 5 = 0 ∧ sg0 6 6 = 4 ∧ sg0 6 7 = 0 ∧ sg0 6 9 = 0 ∧ sg0 6 11 = 0) ∧ (sg0 10 0 = 0 ∧ sg0 10 1 = 0) ∧ (sg0 35 5 = -1 ∧ sg0 6 14 = 0) ∧ (sg0 116 5 = -1 ∧ sg0 87 14 = 0) ∧ (sg0 48 14 = 0 ∧ sg0 152 14 = 0 ∧ sg0 181 14 = 0 ∧ sg0 210 14 = 0) ∧ (sg0 0 10 = 0 ∧ sg0 239 24 = 0) ∧ (∀ t, t < 4 → sg0 (144 + 2 * t) 0 = 0 ∧ sg0 241 t = -1) ∧ (sg0 2 1 = 0 ∧ sg0 239 8 = 0) := by decide +kernel
set_option maxRecDepth 100000 in
theorem sg0_m : (sg0 0 11 = sg0 239 0 ∧ sg0 0 14 = sg0 239 2 ∧ sg0 0 15 = sg0 239 3 ∧ sg0 0 12 = sg0 239 10 ∧ sg0 0 13 = sg0 239 11 ∧ sg0 0 9 = sg0 239 36) ∧ ∀ k, k < 5 → sg0 143 k = sg0 253 k := by decide +kernel
set_option maxRecDepth 100000 in
theorem sg0_k : KwR sg0 := by
  unfold KwR
  decide +kernel
theorem rel0 {r : Int} {σ' : SS} (h : EmQ0 sg0 r σ') : Rel 0 σ' := by
  obtain ⟨g, h2, z, h4, h5, h6, h8⟩ := h
  have ec : ∀ k, k < 136 → σ' 244 k = emC sg0 k := fun k hk => by
    by_cases q : k = 4 ∨ k = 5 ∨ k = 6 ∨ k = 8
    · obtain ⟨v4, v5, v6, v8⟩ := emC_v sg0
      rcases q with q | q | q | q <;> subst q
      · rw [h4, v4]
      · rw [h5, v5]
      · rw [h6, v6]
      · rw [h8, v8]
    · rw [z k (by omega) q, emC_0 (by omega) q]
  have wb : WB (σ' 244) := WB_k (dr_em sg0).2.1 ec
  have c0 := z 0 (by omega) (by omega)
  have c1 := z 1 (by omega) (by omega)
  have c2 := z 2 (by omega) (by omega)
  have c3 := z 3 (by omega) (by omega)
  have c7 := z 7 (by omega) (by omega)
  have c9 := z 9 (by omega) (by omega)
  have c136 := z 136 (by omega) (by omega)
  have c137 := z 137 (by omega) (by omega)
  obtain ⟨⟨a0, a1, a2, a3, a4, a5, a6, a7, a9, a11⟩, ⟨e0, e1⟩, ⟨s1, s2⟩, ⟨s3, s4⟩, ⟨v1, v2, v3, v4⟩, ⟨m1, m2⟩, tr, ⟨t1, t2⟩⟩ := sg0_v
  obtain ⟨⟨i1, i2, i3, i4, i5, i6⟩, i7⟩ := sg0_m
  clear h2 z ec
  refine ⟨⟨⟨⟨?_, ?_, ?_, ?_, ?_, ?_, ?_, ?_, ?_, ?_⟩, fun t ht => ?_, fun b hb => ?_, fun k hk => ?_⟩, ⟨?_, ?_, fun i hi => ?_⟩, wb, fun b b0 b1 => ?_, ⟨Or.inl c136, by omega, fun i hi => ?_, fun j j1 j2 => ?_⟩, by omega⟩, ⟨⟨?_, ?_, ?_⟩, fun q => ?_⟩, ⟨?_, ?_, ?_⟩, ⟨?_, ?_, ?_, ?_⟩, ⟨?_, ?_, fun j hj => ?_⟩, fun t ht => ?_, ⟨?_, ?_, fun k hk => ?_⟩, ⟨?_, ?_, ?_, ?_, ?_, ?_, fun k hk => ?_⟩, fun k hk => ?_⟩
  · rw [g 6 (by omega), a0, c0]
  · rw [g 6 (by omega), a1, c1]
  · rw [g 6 (by omega), a2, h4]
  · rw [g 6 (by omega), a3, h5]
  · rw [g 6 (by omega), a4, h6]
  · rw [g 6 (by omega), a5, c7]
  · rw [g 6 (by omega), a6, h8]
  · rw [g 6 (by omega), a7, c9]
  · rw [g 6 (by omega), a9, c2]
  · rw [g 6 (by omega), a11, c3]
  · rw [c2] at ht; omega
  · rw [c3] at hb; omega
  · rw [c0, Int.zero_mul] at hk; omega
  · rw [g (6 + 4) (by omega), c136]; exact e0
  · rw [g (6 + 4) (by omega), c137]; exact e1
  · rw [c137] at hi; omega
  · rw [c3] at b1; omega
  · rw [c137] at hi; omega
  · rw [c137] at j2; omega
  · rw [g (5 + 30) (by omega)]; show -1 ≤ sg0 35 5; omega
  · rw [g (5 + 30) (by omega), g (5 + 1) (by omega)]; show sg0 35 5 ≤ sg0 6 14; omega
  · rw [g (5 + 1) (by omega)]; show sg0 6 14 ≤ 0; omega
  · rw [g (5 + 30) (by omega), g (5 + 1) (by omega)] at q
    have q : sg0 35 5 = sg0 6 14 := q
    omega
  · rw [g (86 + 30) (by omega)]; show -1 ≤ sg0 116 5; omega
  · rw [g (86 + 30) (by omega), g (86 + 1) (by omega)]; show sg0 116 5 ≤ sg0 87 14; omega
  · rw [g (86 + 1) (by omega)]; show sg0 87 14 ≤ 0; omega
  · rw [g 48 (by omega)]; omega
  · rw [g 152 (by omega)]; omega
  · rw [g 181 (by omega)]; omega
  · rw [g 210 (by omega)]; omega
  · rw [g 0 (by omega), g 239 (by omega), m1, m2]
  · rw [g 239 (by omega)]; omega
  · rw [g 239 (by omega), m2] at hj; omega
  · have q := tr t ht
    rw [g (144 + 2 * t) (by omega), g 241 (by omega)]
    exact Or.inr q
  · rw [g 2 (by omega), g 239 (by omega), t1, t2]
  · rw [g 239 (by omega)]; omega
  · rw [g 239 (by omega), t2] at hk; omega
  · rw [g 0 (by omega), g 239 (by omega)]; exact i1
  · rw [g 0 (by omega), g 239 (by omega)]; exact i2
  · rw [g 0 (by omega), g 239 (by omega)]; exact i3
  · rw [g 0 (by omega), g 239 (by omega)]; exact i4
  · rw [g 0 (by omega), g 239 (by omega)]; exact i5
  · rw [g 0 (by omega), g 239 (by omega)]; exact i6
  · rw [g 143 (by omega), g 253 (by omega)]; exact i7 k hk
  · rw [g 4 (by omega)]; exact sg0_k k hk
