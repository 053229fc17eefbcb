/-! System.arraycopy of longs -/
def cpyS (σ : SS) (a sp a2 dp n : Nat) : SS := fun a' k => if a' = a2 ∧ dp ≤ k ∧ k < dp + n then σ a (sp + (k - dp)) else σ a' k
def acpL (ra : XR) (i : XI) (rb : XR) (j n : XI) : XI := fun z => bn (ra z) fun a s0 => bn (i (z.1, z.2.1, s0)) fun x s1 => bn (rb (z.1, z.2.1, s1)) fun a2 s2 => bn (j (z.1, z.2.1, s2)) fun y s3 => bn (n (z.1, z.2.1, s3)) fun m s4 =>
  if ((sh a).1 = 3 ∧ (sh a2).1 = 3) ∧ (0 ≤ x ∧ 0 ≤ y ∧ 0 ≤ m) ∧ x + m ≤ (sh a).2.2 ∧ y + m ≤ (sh a2).2.2 then some (0, cpyS s4 a x.toNat a2 y.toNat m.toNat) else none
def wsA (tc : Nat → ClassId) (b : Nat) (σ : SS) : va_W := (List.range 254).map fun a => (b + a, (cE tc b σ a).getD (.inr (0, [])))
theorem sh_out {a : Nat} (h : ¬ a < 254) : sh a = (0, 0, 0) := by
  unfold sh
  rw [List.getD_eq_getElem?_getD, List.getElem?_eq_none (by have : shT.length = 254 := by decide +kernel
                                                            omega)]
  rfl
theorem sh_tag : ∀ a, a < 254 → (1 ≤ (sh a).1 ∧ (sh a).1 ≤ 6) := by decide +kernel
theorem cE_some {tc : Nat → ClassId} {b a : Nat} {σ : SS} (h : a < 254) : ∃ e, cE tc b σ a = some e := by
  have h2 := sh_tag a h
  have : (sh a).1 = 1 ∨ (sh a).1 = 2 ∨ (sh a).1 = 3 ∨ (sh a).1 = 4 ∨ (sh a).1 = 5 ∨ (sh a).1 = 6 := by omega
  rcases this with q | q | q | q | q | q
  · exact ⟨_, cE_obj q rfl⟩
  · exact ⟨_, cE_2 q⟩
  · exact ⟨_, cE_3 q⟩
  · exact ⟨_, cE_4 q⟩
  · exact ⟨_, cE_5 q⟩
  · exact ⟨_, cE_6 q rfl⟩
theorem cE_lt {tc : Nat → ClassId} {b a : Nat} {σ : SS} {e : va_E} (h : cE tc b σ a = some e) : a < 254 := by
  by_cases q : a < 254
  · exact q
  · unfold cE at h
    rw [sh_out q] at h
    cases h
theorem wsA_at {tc : Nat → ClassId} {b a : Nat} {σ : SS} {e : va_E} (h : cE tc b σ a = some e) : (wsA tc b σ)[a]? = some (b + a, e) := by
  unfold wsA
  rw [List.getElem?_map, List.getElem?_range (cE_lt h)]
  simp [h]
theorem wsA_inv {tc : Nat → ClassId} {b k : Nat} {σ : SS} {q : Nat × va_E} (h : (wsA tc b σ)[k]? = some q) : ∃ e, cE tc b σ k = some e ∧ q = (b + k, e) := by
  unfold wsA at h
  rw [List.getElem?_map] at h
  by_cases hk : k < 254
  · rw [List.getElem?_range hk] at h
    obtain ⟨e, he⟩ := cE_some (tc := tc) (b := b) (σ := σ) hk
    simp only [Option.map_some, he, Option.getD_some, Option.some.injEq] at h
    exact ⟨e, he, h.symm⟩
  · rw [List.getElem?_eq_none (by rw [List.length_range]; omega)] at h
    cases h
theorem wsA_P {D : va_G} {tc : Nat → ClassId} {b : Nat} {σ : SS} {H : Heap} (h : Hp D tc b σ H) : va_P D vwCl (wsA tc b σ) H := by
  intro k q hq
  obtain ⟨e, he, rfl⟩ := wsA_inv hq
  exact h k e he
theorem wsA_D {tc : Nat → ClassId} {b : Nat} {σ : SS} : va_D (AA b) (wsA tc b σ) := by
  refine ⟨fun i j p q hp hq h => ?_, fun k q hq => ?_⟩
  · obtain ⟨e, -, rfl⟩ := wsA_inv hp
    obtain ⟨e', -, rfl⟩ := wsA_inv hq
    simp only at h
    omega
  · obtain ⟨e, he, rfl⟩ := wsA_inv hq
    exact ⟨k, rfl, by have := sh_tag k (cE_lt he); omega⟩
theorem e_acpL {l : Launch} {b : Nat} {V : VV} {cc : ByteArray} {own : String} {nL h : Nat} {Γ : GG} {d p p0 p1 p2 p3 p4 index : Nat} {ra rb : XR} {i j n : XI} (C : Ctx l b V cc own nL h) (h0 : ER b V Γ d p ra p0) (h1 : EI V Γ (d + 1) p0 i p1) (h2 : ER b V Γ (d + 2) p1 rb p2) (h3 : EI V Γ (d + 3) p2 j p3) (h4 : EI V Γ (d + 4) p3 n p4)
    (hl1 : Cond.methodLink own index arraycopyName ∈ gtb) (hw : Cond.native arraycopyName ∈ gtb ∧ Cond.static arraycopyName ∈ gtb ∧ Cond.initialized "java/lang/System" ∈ gtb) (hh : 1 ≤ h ∧ d ≤ 8) (hd : decode cc p4 = .ok (.invokestatic index, 3)) {q9 : Nat} (hq : p4 + 3 = q9) : EV V Γ d p (acpL ra i rb j n) q9 := by
  subst hq
  intro L R σ st x0 σ' hdp he k
  obtain ⟨a, s0, e0, he⟩ := bn_inv he
  obtain ⟨x, s1, e1, he⟩ := bn_inv he
  obtain ⟨a2, s2, e2, he⟩ := bn_inv he
  obtain ⟨y, s3, e3, he⟩ := bn_inv he
  obtain ⟨m, s4, e4, he⟩ := bn_inv he
  obtain ⟨⟨⟨ha, ha2⟩, ⟨x0', y0, m0⟩, hx, hy⟩, he⟩ := ite_inv he
  cases he
  refine h0 L R σ st a s0 hdp e0 (h1 L R s0 _ x s1 (by rw [dep_r]; omega) e1 (fun hix => h2 L R s1 _ a2 s2 (by rw [dep_i, dep_r]; omega) e2 (h3 L R s2 _ y s3 (by rw [dep_r, dep_i, dep_r]; omega) e3 (fun hiy => h4 L R s3 _ m s4 (by rw [dep_i, dep_r, dep_i, dep_r]; omega) e4 (fun him => ?_)))))
  obtain ⟨p, e, Rm, s, mm, args, below, meth, c, cells, slots, Q, D, tc, rfl, hxx, hb, hml, hown, hts, hK, ⟨hfr, -⟩, hlo, hce, hsl⟩ := C
  intro okσ okl ls H locs hl hH hA
  have okσ : okS s4 := okσ
  have hP := wsA_P hH
  have hD := wsA_D (tc := tc) (b := b) (σ := s4)
  have w0 : nativeFrameWords "java/lang/System" "arraycopy" 5 ≤ 20 := by decide +kernel
  have hdp' : (st.map fun v => v.category).sum ≤ 8 := Nat.le_trans hdp hh.2
  have nn : ∀ z : Int, inI z → 0 ≤ z → ¬ Int32.ofInt z < 0 := fun z hz h0 => by rw [ofI_0, ofI_lt hz inI_0]; omega
  refine va_copyl hxx hb (hml.trans hl.1.symm) hown (hts _ hl1) (hts _ hw.1) (hts _ hw.2.1) (hts _ hw.2.2) hK hP hD hA a a2 1 1 (wsA_at (cE_3 ha)) (wsA_at (cE_3 ha2)) rfl rfl rfl (nn x hix x0') (nn y hiy y0) (nn m him m0) (by rw [ofI_cl hix, ofI_cl him]; omega) (by rw [ofI_cl hiy, ofI_cl him]; omega) (fun i _ => rfl) (by omega) (by omega) hd (fun H1 locs1 hP1 _ hS1 => ?_)
  refine k (fun a' k' => ?_) okl ls H1 locs1 hl (fun a' e' he' => ?_) hS1
  · show rng (kd a' k') (cpyS s4 a x.toNat a2 y.toNat m.toNat a' k')
    unfold cpyS
    split
    · rename_i hc
      have h9 := okσ a (x.toNat + (k' - y.toNat))
      have e9 : kd a' k' = kd a (x.toNat + (k' - y.toNat)) := by
        unfold kd
        rw [hc.1, ha, ha2]
        rfl
      rw [e9]
      exact h9
    · exact okσ a' k'
  · by_cases hq : a' = a2
    · subst hq
      have hlt := cE_lt (cE_3 (tc := tc) (b := b) (σ := s4) ha2)
      have h9 := hP1 a' (b + a', .inl (tc 1, (sh a').2.2, .inr (.inl (va_cpy (fun j => Int64.ofInt (s4 a j)) (fun j => Int64.ofInt (s4 a' j)) (Int32.ofInt x).toNatClampNeg (Int32.ofInt y).toNatClampNeg (Int32.ofInt m).toNatClampNeg)))) (by
        rw [List.getElem?_set_self]
        unfold wsA
        rw [List.length_map, List.length_range]
        exact hlt)
      rw [cE_3 ha2] at he'
      cases he'
      rw [ofI_cl hix, ofI_cl hiy, ofI_cl him] at h9
      have e9 : (fun j => Int64.ofInt (cpyS s4 a x.toNat a' y.toNat m.toNat a' j)) = va_cpy (fun j => Int64.ofInt (s4 a j)) (fun j => Int64.ofInt (s4 a' j)) x.toNat y.toNat m.toNat := by
        funext j
        unfold cpyS va_cpy
        by_cases hc : y.toNat ≤ j ∧ j < y.toNat + m.toNat
        · rw [if_pos ⟨rfl, hc⟩, if_pos hc]
        · rw [if_neg (fun h => hc h.2), if_neg hc]
      show va_at D vwCl (b + a', .inl (tc 1, (sh a').2.2, .inr (.inl (fun j => Int64.ofInt (cpyS s4 a x.toNat a' y.toNat m.toNat a' j))))) H1
      rw [e9]
      exact h9
    · have e9 : cE tc b (cpyS s4 a x.toNat a2 y.toNat m.toNat) a' = cE tc b s4 a' := cE_cong (by funext j; unfold cpyS; rw [if_neg (fun h => hq h.1)])
      have he' : cE tc b (cpyS s4 a x.toNat a2 y.toNat m.toNat) a' = some e' := he'
      rw [e9] at he'
      exact hP1 a' _ (by rw [List.getElem?_set_ne (fun h => hq h.symm)]; exact wsA_at he')
