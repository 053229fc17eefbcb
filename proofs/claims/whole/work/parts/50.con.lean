/-! constructors -/
theorem oi_EveningsReader : Cond.methodLink RX2 3 objectInit ∈ gtb := (gq_2 232 (by decide +kernel) rfl)
theorem oi_ParkReader : Cond.methodLink RX4 3 objectInit ∈ gtb := (gq_2 213 (by decide +kernel) rfl)
theorem cl_EveningsReader_9 : Cond.classLink RX2 9 RX1 ∈ gtb := (gq_2 233 (by decide +kernel) rfl)
theorem cl_ParkReader_9 : Cond.classLink RX4 9 RX3 ∈ gtb := (gq_2 214 (by decide +kernel) rfl)
theorem yl_EveningsReader_11 : Cond.methodLink RX2 11 yX1_init ∈ gtb ∨ ∃ q ∈ nestL, q.1 = RX2 ∧ q.2.1 = 11 ∧ q.2.2.1 = yX1_init := Or.inr (by decide +kernel)
theorem yl_ParkReader_11 : Cond.methodLink RX4 11 yX3_init ∈ gtb ∨ ∃ q ∈ nestL, q.1 = RX4 ∧ q.2.1 = 11 ∧ q.2.2.1 = yX3_init := Or.inl (gq_2 215 (by decide +kernel) rfl)
theorem fr_EveningsReader_12 : FR RX2 12 2 0 := ⟨RX2, TX2, 5, tyX2, rfl, by decide, in_X2, (gq_2 235 (by decide +kernel) rfl), rfl, rfl, tyX2_ok, nmX2, rfl, rfl, (Or.inl ⟨_, rfl⟩)⟩
theorem fr_EveningsReader_18 : FR RX2 18 2 1 := ⟨RX2, TX2, 5, tyX2, rfl, by decide, in_X2, (gq_2 237 (by decide +kernel) rfl), rfl, rfl, tyX2_ok, nmX2, rfl, rfl, (Or.inr ⟨_, rfl⟩)⟩
theorem fr_EveningsReader_26 : FR RX2 26 2 2 := ⟨RX2, TX2, 5, tyX2, rfl, by decide, in_X2, (gq_2 238 (by decide +kernel) rfl), rfl, rfl, tyX2_ok, nmX2, rfl, rfl, (Or.inl ⟨_, rfl⟩)⟩
theorem fr_EveningsReader_30 : FR RX2 30 2 3 := ⟨RX2, TX2, 5, tyX2, rfl, by decide, in_X2, (gq_2 239 (by decide +kernel) rfl), rfl, rfl, tyX2_ok, nmX2, rfl, rfl, (Or.inl ⟨_, rfl⟩)⟩
theorem fr_ParkReader_12 : FR RX4 12 4 0 := ⟨RX4, TX4, 3, tyX4, rfl, by decide, in_X4, (gq_2 216 (by decide +kernel) rfl), rfl, rfl, tyX4_ok, nmX4, rfl, rfl, (Or.inl ⟨_, rfl⟩)⟩
theorem fr_ParkReader_22 : FR RX4 22 4 1 := ⟨RX4, TX4, 3, tyX4, rfl, by decide, in_X4, (gq_2 218 (by decide +kernel) rfl), rfl, rfl, tyX4_ok, nmX4, rfl, rfl, (Or.inl ⟨_, rfl⟩)⟩
def GS_ParkReader (a : Nat) (σ : SS) : SS := (ups (GS_Park (a + 1) (upA σ (a + 1) (fun _ => 0))) a 2 0)
def GP_ParkReader (a q1 : Nat) (ρ : PP) : PP := (upr (upr (GP_Park (a + 1) (upP ρ (a + 1) (fun _ => none))) a 0 (some (a + 1))) a 1 (some (q1)))
set_option maxRecDepth 20000 in
theorem mc_ParkReader {l : Launch} (a q1 : Nat) (hs0 : sh a = (1, 4, 3)) (hs1 : sh (a + 1) = (1, 3, 15)) (hs2 : sh (a + 2) = (5, 0, 30)) (hs3 : sh (a + 3) = (6, 6, 6)) (hs4 : sh (a + 4) = (6, 7, 6)) (hs5 : sh (a + 5) = (1, 1, 8)) (hs6 : sh (a + 6) = (2, 0, 30)) (hs7 : sh (a + 7) = (2, 0, 30)) (hs8 : sh (a + 8) = (2, 0, 30)) (hs9 : sh (a + 9) = (2, 0, 30)) (hs10 : sh (a + 10) = (2, 0, 30)) (hs11 : sh (a + 11) = (2, 0, 30)) (hs12 : sh (a + 12) = (1, 10, 4)) (hs13 : sh (a + 13) = (1, 10, 4)) (hs14 : sh (a + 14) = (1, 10, 4)) (hs15 : sh (a + 15) = (1, 10, 4)) (hs16 : sh (a + 16) = (1, 10, 4)) (hs17 : sh (a + 17) = (1, 10, 4)) (hs18 : sh (a + 18) = (1, 0, 9)) (hs19 : sh (a + 19) = (2, 0, 6)) (hs20 : sh (a + 20) = (1, 0, 9)) (hs21 : sh (a + 21) = (2, 0, 6)) (hs22 : sh (a + 22) = (1, 0, 9)) (hs23 : sh (a + 23) = (2, 0, 6)) (hs24 : sh (a + 24) = (1, 0, 9)) (hs25 : sh (a + 25) = (2, 0, 6)) (hs26 : sh (a + 26) = (1, 0, 9)) (hs27 : sh (a + 27) = (2, 0, 6)) (hs28 : sh (a + 28) = (1, 0, 9)) (hs29 : sh (a + 29) = (2, 0, 6)) (σ : SS) (ρ : PP) : Mt2 l yX4_init cX4_init 2 3 (a + 1) (a + 30) (fun b => [.ref (b + a), .ref (b + q1)]) σ ρ (GS_ParkReader a σ) (GP_ParkReader a q1 ρ) := by
  refine Mt2_of (own := RX4) (Γ0 := [(0, 2), (1, 2)]) (L0 := [0, 0]) (R0 := [a, q1]) (by decide +kernel) rfl rfl (fun b => rfl) (fun b => Nat.le_of_ble_eq_true rfl) ⟨rfl, rfl, List.forall_mem_cons.mpr ⟨trivial, List.forall_mem_cons.mpr ⟨trivial, List.forall_mem_nil _⟩⟩⟩ (fun b V C X => ?_)
  refine j_aload_n (pc := 0) (i := 0) (g := 0) C dX4_init_0 rfl rfl ?_
  refine j_objInit (pc := 1) C oi_ParkReader oi_w (by omega) (by decide) dX4_init_1 ?_
  refine j_aload_n (pc := 4) (i := 0) (g := 0) C dX4_init_4 rfl rfl ?_
  refine j_new (pc := 5) (N := a + 1) C ci_Park cl_ParkReader_9 (by rw [hs1]) (by rw [hs1]) (by omega) dX4_init_5 ?_
  refine j_dup (pc := 8) C dX4_init_8 rfl ?_
  refine j_callI (pc := 9) (N := a + 2) (N' := a + 30) (As := []) C (mc_Park (a + 1) hs1 hs2 hs3 hs4 hs5 hs6 hs7 hs8 hs9 hs10 hs11 hs12 hs13 hs14 hs15 hs16 hs17 hs18 hs19 hs20 hs21 hs22 hs23 hs24 hs25 hs26 hs27 hs28 hs29 _ _) yc_Park rfl ym_Park yl_ParkReader_11 (by omega) rfl rfl (by omega) (by omega) (by simp only [dep_i, dep_r]; decide) dX4_init_9 ?_
  refine j_putR (pc := 12) (a := a) (r := a + 1) C fr_ParkReader_12 (by rw [hs0]) (by rw [hs0]) (by omega) (by decide +kernel) dX4_init_12 ?_
  refine j_aload_n (pc := 15) (i := 0) (g := 0) C dX4_init_15 rfl rfl ?_
  refine j_iconst (pc := 16) C dX4_init_16 ?_
  refine j_putI (pc := 17) (a := a) (kn := 0) (x := 0) C pl_ParkReader_18 (by rw [hs0]) (by rw [hs0]) (by omega) (Or.inl rfl) (show inI 0 from inIb_of rfl) dX4_init_17 ?_
  refine j_aload_n (pc := 20) (i := 0) (g := 0) C dX4_init_20 rfl rfl ?_
  refine j_aload_n (pc := 21) (i := 1) (g := 1) C dX4_init_21 rfl rfl ?_
  refine j_putR (pc := 22) (a := a) (r := q1) C fr_ParkReader_22 (by rw [hs0]) (by rw [hs0]) (by omega) (by decide +kernel) dX4_init_22 ?_
  exact X 25 _ _ _ dX4_init_25
def GS_EveningsReader (a : Nat) (σ : SS) : SS := (ups (upA (GS_Evenings (a + 1) (upA σ (a + 1) (fun _ => 0))) (a + 8) (fun _ => 0)) a 4 0)
def GP_EveningsReader (a q1 q2 : Nat) (ρ : PP) : PP := (upr (upr (upr (upP (upr (GP_Evenings (a + 1) (upP ρ (a + 1) (fun _ => none))) a 0 (some (a + 1))) (a + 8) (fun _ => none)) a 1 (some (a + 8))) a 2 (some (q1))) a 3 (some (q2)))
set_option maxRecDepth 20000 in
theorem mc_EveningsReader {l : Launch} (a q1 q2 : Nat) (hs0 : sh a = (1, 2, 5)) (hs1 : sh (a + 1) = (1, 1, 8)) (hs2 : sh (a + 2) = (2, 0, 30)) (hs3 : sh (a + 3) = (2, 0, 30)) (hs4 : sh (a + 4) = (2, 0, 30)) (hs5 : sh (a + 5) = (2, 0, 30)) (hs6 : sh (a + 6) = (2, 0, 30)) (hs7 : sh (a + 7) = (2, 0, 30)) (hs8 : sh (a + 8) = (2, 0, 3)) (σ : SS) (ρ : PP) : Mt2 l yX2_init cX2_init 3 3 (a + 1) (a + 9) (fun b => [.ref (b + a), .ref (b + q1), .ref (b + q2)]) σ ρ (GS_EveningsReader a σ) (GP_EveningsReader a q1 q2 ρ) := by
  refine Mt2_of (own := RX2) (Γ0 := [(0, 2), (1, 2), (2, 2)]) (L0 := [0, 0, 0]) (R0 := [a, q1, q2]) (by decide +kernel) rfl rfl (fun b => rfl) (fun b => Nat.le_of_ble_eq_true rfl) ⟨rfl, rfl, List.forall_mem_cons.mpr ⟨trivial, List.forall_mem_cons.mpr ⟨trivial, List.forall_mem_cons.mpr ⟨trivial, List.forall_mem_nil _⟩⟩⟩⟩ (fun b V C X => ?_)
  refine j_aload_n (pc := 0) (i := 0) (g := 0) C dX2_init_0 rfl rfl ?_
  refine j_objInit (pc := 1) C oi_EveningsReader oi_w (by omega) (by decide) dX2_init_1 ?_
  refine j_aload_n (pc := 4) (i := 0) (g := 0) C dX2_init_4 rfl rfl ?_
  refine j_new (pc := 5) (N := a + 1) C ci_Evenings cl_EveningsReader_9 (by rw [hs1]) (by rw [hs1]) (by omega) dX2_init_5 ?_
  refine j_dup (pc := 8) C dX2_init_8 rfl ?_
  refine j_callI (pc := 9) (N := a + 2) (N' := a + 8) (As := []) C (mc_Evenings (a + 1) hs1 hs2 hs3 hs4 hs5 hs6 hs7 _ _) yc_Evenings rfl ym_Evenings yl_EveningsReader_11 (by omega) rfl rfl (by omega) (by omega) (by simp only [dep_i, dep_r]; decide) dX2_init_9 ?_
  refine j_putR (pc := 12) (a := a) (r := a + 1) C fr_EveningsReader_12 (by rw [hs0]) (by rw [hs0]) (by omega) (by decide +kernel) dX2_init_12 ?_
  refine j_aload_n (pc := 15) (i := 0) (g := 0) C dX2_init_15 rfl rfl ?_
  refine j_iconst (pc := 16) C dX2_init_16 ?_
  refine j_newaInt (pc := 17) (N := a + 8) C aw_int (by rw [hs8]) (by rw [hs8]; rfl) (by decide) (by omega) dX2_init_17 ?_
  refine j_putR (pc := 19) (a := a) (r := a + 8) C fr_EveningsReader_18 (by rw [hs0]) (by rw [hs0]) (by omega) (by decide +kernel) dX2_init_19 ?_
  refine j_aload_n (pc := 22) (i := 0) (g := 0) C dX2_init_22 rfl rfl ?_
  refine j_iconst (pc := 23) C dX2_init_23 ?_
  refine j_putI (pc := 24) (a := a) (kn := 0) (x := 0) C pl_EveningsReader_22 (by rw [hs0]) (by rw [hs0]) (by omega) (Or.inl rfl) (show inI 0 from inIb_of rfl) dX2_init_24 ?_
  refine j_aload_n (pc := 27) (i := 0) (g := 0) C dX2_init_27 rfl rfl ?_
  refine j_aload_n (pc := 28) (i := 1) (g := 1) C dX2_init_28 rfl rfl ?_
  refine j_putR (pc := 29) (a := a) (r := q1) C fr_EveningsReader_26 (by rw [hs0]) (by rw [hs0]) (by omega) (by decide +kernel) dX2_init_29 ?_
  refine j_aload_n (pc := 32) (i := 0) (g := 0) C dX2_init_32 rfl rfl ?_
  refine j_aload_n (pc := 33) (i := 2) (g := 2) C dX2_init_33 rfl rfl ?_
  refine j_putR (pc := 34) (a := a) (r := q2) C fr_EveningsReader_30 (by rw [hs0]) (by rw [hs0]) (by omega) (by decide +kernel) dX2_init_34 ?_
  exact X 37 _ _ _ dX2_init_37
