/-! constructors that go straight on -/
theorem oi_w : Cond.instanceMethod objectInit ∈ gtb ∧ Cond.code objectInit ⟨#[0xb1]⟩ 1 none ∈ gtb := ⟨(gq_1 27 (by decide +kernel) rfl), (gq_1 28 rfl rfl)⟩
theorem oi_Band : Cond.methodLink RX0 3 objectInit ∈ gtb := (gq_1 228 (by decide +kernel) rfl)
theorem oi_Evenings : Cond.methodLink RX1 3 objectInit ∈ gtb := (gq_1 152 (by decide +kernel) rfl)
theorem oi_Tray : Cond.methodLink RX9 3 objectInit ∈ gtb := (gq_3 51 (by decide +kernel) rfl)
theorem oi_Tune : Cond.methodLink RX10 1 objectInit ∈ gtb := (gq_1 200 (by decide +kernel) rfl)
theorem aw_int : Cond.arrayClass .int ∈ gtb := (gq_1 195 (by decide +kernel) rfl)
theorem aw_long : Cond.arrayClass .long ∈ gtb := (gq_1 130 (by decide +kernel) rfl)
theorem aw_byte : Cond.arrayClass .byte ∈ gtb := (gq_1 129 (by decide +kernel) rfl)
theorem aw_boolean : Cond.arrayClass .boolean ∈ gtb := (gq_1 194 (by decide +kernel) rfl)
theorem fr_Band_37 : FR RX0 37 0 8 := ⟨RX0, TX0, 9, tyX0, rfl, by decide, in_X0, (gq_2 22 (by decide +kernel) rfl), rfl, rfl, tyX0_ok, nmX0, rfl, rfl, (Or.inr ⟨_, rfl⟩)⟩
theorem fr_Evenings_19 : FR RX1 19 1 2 := ⟨RX1, TX1, 8, tyX1, rfl, by decide, in_X1, (gq_1 159 (by decide +kernel) rfl), rfl, rfl, tyX1_ok, nmX1, rfl, rfl, (Or.inr ⟨_, rfl⟩)⟩
theorem fr_Evenings_23 : FR RX1 23 1 3 := ⟨RX1, TX1, 8, tyX1, rfl, by decide, in_X1, (gq_1 162 (by decide +kernel) rfl), rfl, rfl, tyX1_ok, nmX1, rfl, rfl, (Or.inr ⟨_, rfl⟩)⟩
theorem fr_Evenings_26 : FR RX1 26 1 4 := ⟨RX1, TX1, 8, tyX1, rfl, by decide, in_X1, (gq_1 165 (by decide +kernel) rfl), rfl, rfl, tyX1_ok, nmX1, rfl, rfl, (Or.inr ⟨_, rfl⟩)⟩
theorem fr_Evenings_29 : FR RX1 29 1 5 := ⟨RX1, TX1, 8, tyX1, rfl, by decide, in_X1, (gq_1 168 (by decide +kernel) rfl), rfl, rfl, tyX1_ok, nmX1, rfl, rfl, (Or.inr ⟨_, rfl⟩)⟩
theorem fr_Evenings_32 : FR RX1 32 1 6 := ⟨RX1, TX1, 8, tyX1, rfl, by decide, in_X1, (gq_1 171 (by decide +kernel) rfl), rfl, rfl, tyX1_ok, nmX1, rfl, rfl, (Or.inr ⟨_, rfl⟩)⟩
theorem fr_Evenings_35 : FR RX1 35 1 7 := ⟨RX1, TX1, 8, tyX1, rfl, by decide, in_X1, (gq_1 174 (by decide +kernel) rfl), rfl, rfl, tyX1_ok, nmX1, rfl, rfl, (Or.inr ⟨_, rfl⟩)⟩
theorem fr_Tray_22 : FR RX9 22 9 3 := ⟨RX9, TX9, 4, tyX9, rfl, by decide, in_X9, (gq_3 58 (by decide +kernel) rfl), rfl, rfl, tyX9_ok, nmX9, rfl, rfl, (Or.inr ⟨_, rfl⟩)⟩
def GS_Tune (a : Nat) (σ : SS) : SS := (ups (ups (ups (ups σ a 0 0) a 1 0) a 2 0) a 3 4)
def GP_Tune (a : Nat) (ρ : PP) : PP := ρ
set_option maxRecDepth 20000 in
theorem mc_Tune {l : Launch} (a : Nat) (N : Nat) (hN : a < N) (hs0 : sh a = (1, 10, 4)) (σ : SS) (ρ : PP) : Mt2 l yX10_init cX10_init 1 1 (N) (N) (fun b => [.ref (b + a)]) σ ρ (GS_Tune a σ) (GP_Tune a ρ) := by
  refine Mt2_of (own := RX10) (Γ0 := [(0, 2)]) (L0 := [0]) (R0 := [a]) (by decide +kernel) rfl rfl (fun b => rfl) (fun b => Nat.le_of_ble_eq_true rfl) ⟨rfl, rfl, List.forall_mem_cons.mpr ⟨trivial, List.forall_mem_nil _⟩⟩ (fun b V C X => ?_)
  refine j_aload_n (i := 0) (g := 0) C dX10_init_0 rfl rfl ?_
  refine j_objInit C oi_Tune oi_w (by omega) (by decide) dX10_init_1 ?_
  refine j_aload_n (i := 0) (g := 0) C dX10_init_4 rfl rfl ?_
  refine j_lconst (x := 0) C dX10_init_5 (by decide +kernel) ?_
  refine j_putI (a := a) (kn := 1) (x := 0) C pl_Tune_7 (by rw [hs0]) (by rw [hs0]) (by omega) (Or.inr (Or.inl rfl)) (show inL 0 from inLb_of rfl) dX10_init_6 ?_
  refine j_aload_n (i := 0) (g := 0) C dX10_init_9 rfl rfl ?_
  refine j_iconst C dX10_init_10 ?_
  refine j_putI (a := a) (kn := 0) (x := 0) C pl_Tune_13 (by rw [hs0]) (by rw [hs0]) (by omega) (Or.inl rfl) (show inI 0 from inIb_of rfl) dX10_init_11 ?_
  refine j_aload_n (i := 0) (g := 0) C dX10_init_14 rfl rfl ?_
  refine j_iconst C dX10_init_15 ?_
  refine j_putI (a := a) (kn := 0) (x := 0) C pl_Tune_17 (by rw [hs0]) (by rw [hs0]) (by omega) (Or.inl rfl) (show inI 0 from inIb_of rfl) dX10_init_16 ?_
  refine j_aload_n (i := 0) (g := 0) C dX10_init_19 rfl rfl ?_
  refine j_iconst C dX10_init_20 ?_
  refine j_putI (a := a) (kn := 0) (x := 4) C pl_Tune_20 (by rw [hs0]) (by rw [hs0]) (by omega) (Or.inl rfl) (show inI 4 from inIb_of rfl) dX10_init_21 ?_
  exact X 24 _ _ _ dX10_init_24
def GS_Band (a : Nat) (σ : SS) : SS := (upA (ups (ups (ups (ups (ups (ups (ups (ups σ a 0 0) a 1 0) a 2 0) a 3 0) a 4 0) a 5 0) a 6 0) a 7 0) (a + 1) (fun _ => 0))
def GP_Band (a : Nat) (ρ : PP) : PP := (upr (upP ρ (a + 1) (fun _ => none)) a 8 (some (a + 1)))
set_option maxRecDepth 20000 in
theorem mc_Band {l : Launch} (a : Nat) (hs0 : sh a = (1, 0, 9)) (hs1 : sh (a + 1) = (2, 0, 6)) (σ : SS) (ρ : PP) : Mt2 l yX0_init cX0_init 1 1 (a + 1) (a + 2) (fun b => [.ref (b + a)]) σ ρ (GS_Band a σ) (GP_Band a ρ) := by
  refine Mt2_of (own := RX0) (Γ0 := [(0, 2)]) (L0 := [0]) (R0 := [a]) (by decide +kernel) rfl rfl (fun b => rfl) (fun b => Nat.le_of_ble_eq_true rfl) ⟨rfl, rfl, List.forall_mem_cons.mpr ⟨trivial, List.forall_mem_nil _⟩⟩ (fun b V C X => ?_)
  refine j_aload_n (i := 0) (g := 0) C dX0_init_0 rfl rfl ?_
  refine j_objInit C oi_Band oi_w (by omega) (by decide) dX0_init_1 ?_
  refine j_aload_n (i := 0) (g := 0) C dX0_init_4 rfl rfl ?_
  refine j_lconst (x := 0) C dX0_init_5 (by decide +kernel) ?_
  refine j_putI (a := a) (kn := 1) (x := 0) C pl_Band_9 (by rw [hs0]) (by rw [hs0]) (by omega) (Or.inr (Or.inl rfl)) (show inL 0 from inLb_of rfl) dX0_init_6 ?_
  refine j_aload_n (i := 0) (g := 0) C dX0_init_9 rfl rfl ?_
  refine j_iconst C dX0_init_10 ?_
  refine j_putI (a := a) (kn := 0) (x := 0) C pl_Band_15 (by rw [hs0]) (by rw [hs0]) (by omega) (Or.inl rfl) (show inI 0 from inIb_of rfl) dX0_init_11 ?_
  refine j_aload_n (i := 0) (g := 0) C dX0_init_14 rfl rfl ?_
  refine j_iconst C dX0_init_15 ?_
  refine j_putI (a := a) (kn := 0) (x := 0) C pl_Band_19 (by rw [hs0]) (by rw [hs0]) (by omega) (Or.inl rfl) (show inI 0 from inIb_of rfl) dX0_init_16 ?_
  refine j_aload_n (i := 0) (g := 0) C dX0_init_19 rfl rfl ?_
  refine j_iconst C dX0_init_20 ?_
  refine j_putI (a := a) (kn := 0) (x := 0) C pl_Band_22 (by rw [hs0]) (by rw [hs0]) (by omega) (Or.inl rfl) (show inI 0 from inIb_of rfl) dX0_init_21 ?_
  refine j_aload_n (i := 0) (g := 0) C dX0_init_24 rfl rfl ?_
  refine j_iconst C dX0_init_25 ?_
  refine j_putI (a := a) (kn := 0) (x := 0) C pl_Band_25 (by rw [hs0]) (by rw [hs0]) (by omega) (Or.inl rfl) (show inI 0 from inIb_of rfl) dX0_init_26 ?_
  refine j_aload_n (i := 0) (g := 0) C dX0_init_29 rfl rfl ?_
  refine j_iconst C dX0_init_30 ?_
  refine j_putI (a := a) (kn := 0) (x := 0) C pl_Band_28 (by rw [hs0]) (by rw [hs0]) (by omega) (Or.inl rfl) (show inI 0 from inIb_of rfl) dX0_init_31 ?_
  refine j_aload_n (i := 0) (g := 0) C dX0_init_34 rfl rfl ?_
  refine j_iconst C dX0_init_35 ?_
  refine j_putI (a := a) (kn := 0) (x := 0) C pl_Band_31 (by rw [hs0]) (by rw [hs0]) (by omega) (Or.inl rfl) (show inI 0 from inIb_of rfl) dX0_init_36 ?_
  refine j_aload_n (i := 0) (g := 0) C dX0_init_39 rfl rfl ?_
  refine j_iconst C dX0_init_40 ?_
  refine j_putI (a := a) (kn := 0) (x := 0) C pl_Band_34 (by rw [hs0]) (by rw [hs0]) (by omega) (Or.inl rfl) (show inI 0 from inIb_of rfl) dX0_init_41 ?_
  refine j_aload_n (i := 0) (g := 0) C dX0_init_44 rfl rfl ?_
  refine j_bipush C dX0_init_45 rfl ?_
  refine j_newaInt (N := a + 1) C aw_int (by rw [hs1]) (by rw [hs1]; rfl) (by decide) (by omega) dX0_init_47 ?_
  refine j_putR (a := a) (r := a + 1) C fr_Band_37 (by rw [hs0]) (by rw [hs0]) (by omega) (by decide +kernel) dX0_init_49 ?_
  exact X 52 _ _ _ dX0_init_52
def GS_Evenings (a : Nat) (σ : SS) : SS := (upA (upA (upA (upA (upA (upA (ups (ups σ a 0 0) a 1 0) (a + 1) (fun _ => 0)) (a + 2) (fun _ => 0)) (a + 3) (fun _ => 0)) (a + 4) (fun _ => 0)) (a + 5) (fun _ => 0)) (a + 6) (fun _ => 0))
def GP_Evenings (a : Nat) (ρ : PP) : PP := (upr (upP (upr (upP (upr (upP (upr (upP (upr (upP (upr (upP ρ (a + 1) (fun _ => none)) a 2 (some (a + 1))) (a + 2) (fun _ => none)) a 3 (some (a + 2))) (a + 3) (fun _ => none)) a 4 (some (a + 3))) (a + 4) (fun _ => none)) a 5 (some (a + 4))) (a + 5) (fun _ => none)) a 6 (some (a + 5))) (a + 6) (fun _ => none)) a 7 (some (a + 6)))
set_option maxRecDepth 20000 in
theorem mc_Evenings {l : Launch} (a : Nat) (hs0 : sh a = (1, 1, 8)) (hs1 : sh (a + 1) = (2, 0, 30)) (hs2 : sh (a + 2) = (2, 0, 30)) (hs3 : sh (a + 3) = (2, 0, 30)) (hs4 : sh (a + 4) = (2, 0, 30)) (hs5 : sh (a + 5) = (2, 0, 30)) (hs6 : sh (a + 6) = (2, 0, 30)) (σ : SS) (ρ : PP) : Mt2 l yX1_init cX1_init 1 1 (a + 1) (a + 7) (fun b => [.ref (b + a)]) σ ρ (GS_Evenings a σ) (GP_Evenings a ρ) := by
  refine Mt2_of (own := RX1) (Γ0 := [(0, 2)]) (L0 := [0]) (R0 := [a]) (by decide +kernel) rfl rfl (fun b => rfl) (fun b => Nat.le_of_ble_eq_true rfl) ⟨rfl, rfl, List.forall_mem_cons.mpr ⟨trivial, List.forall_mem_nil _⟩⟩ (fun b V C X => ?_)
  refine j_aload_n (i := 0) (g := 0) C dX1_init_0 rfl rfl ?_
  refine j_objInit C oi_Evenings oi_w (by omega) (by decide) dX1_init_1 ?_
  refine j_aload_n (i := 0) (g := 0) C dX1_init_4 rfl rfl ?_
  refine j_iconst C dX1_init_5 ?_
  refine j_putI (a := a) (kn := 3) (x := 0) C pl_Evenings_9 (by rw [hs0]) (by rw [hs0]) (by omega) (Or.inr (Or.inr ⟨rfl, by decide⟩)) (show inI 0 from inIb_of rfl) dX1_init_6 ?_
  refine j_aload_n (i := 0) (g := 0) C dX1_init_9 rfl rfl ?_
  refine j_iconst C dX1_init_10 ?_
  refine j_putI (a := a) (kn := 0) (x := 0) C pl_Evenings_15 (by rw [hs0]) (by rw [hs0]) (by omega) (Or.inl rfl) (show inI 0 from inIb_of rfl) dX1_init_11 ?_
  refine j_aload_n (i := 0) (g := 0) C dX1_init_14 rfl rfl ?_
  refine j_bipush C dX1_init_15 rfl ?_
  refine j_newaInt (N := a + 1) C aw_int (by rw [hs1]) (by rw [hs1]; rfl) (by decide) (by omega) dX1_init_17 ?_
  refine j_putR (a := a) (r := a + 1) C fr_Evenings_19 (by rw [hs0]) (by rw [hs0]) (by omega) (by decide +kernel) dX1_init_19 ?_
  refine j_aload_n (i := 0) (g := 0) C dX1_init_22 rfl rfl ?_
  refine j_bipush C dX1_init_23 rfl ?_
  refine j_newaInt (N := a + 2) C aw_int (by rw [hs2]) (by rw [hs2]; rfl) (by decide) (by omega) dX1_init_25 ?_
  refine j_putR (a := a) (r := a + 2) C fr_Evenings_23 (by rw [hs0]) (by rw [hs0]) (by omega) (by decide +kernel) dX1_init_27 ?_
  refine j_aload_n (i := 0) (g := 0) C dX1_init_30 rfl rfl ?_
  refine j_bipush C dX1_init_31 rfl ?_
  refine j_newaInt (N := a + 3) C aw_int (by rw [hs3]) (by rw [hs3]; rfl) (by decide) (by omega) dX1_init_33 ?_
  refine j_putR (a := a) (r := a + 3) C fr_Evenings_26 (by rw [hs0]) (by rw [hs0]) (by omega) (by decide +kernel) dX1_init_35 ?_
  refine j_aload_n (i := 0) (g := 0) C dX1_init_38 rfl rfl ?_
  refine j_bipush C dX1_init_39 rfl ?_
  refine j_newaInt (N := a + 4) C aw_int (by rw [hs4]) (by rw [hs4]; rfl) (by decide) (by omega) dX1_init_41 ?_
  refine j_putR (a := a) (r := a + 4) C fr_Evenings_29 (by rw [hs0]) (by rw [hs0]) (by omega) (by decide +kernel) dX1_init_43 ?_
  refine j_aload_n (i := 0) (g := 0) C dX1_init_46 rfl rfl ?_
  refine j_bipush C dX1_init_47 rfl ?_
  refine j_newaInt (N := a + 5) C aw_int (by rw [hs5]) (by rw [hs5]; rfl) (by decide) (by omega) dX1_init_49 ?_
  refine j_putR (a := a) (r := a + 5) C fr_Evenings_32 (by rw [hs0]) (by rw [hs0]) (by omega) (by decide +kernel) dX1_init_51 ?_
  refine j_aload_n (i := 0) (g := 0) C dX1_init_54 rfl rfl ?_
  refine j_bipush C dX1_init_55 rfl ?_
  refine j_newaInt (N := a + 6) C aw_int (by rw [hs6]) (by rw [hs6]; rfl) (by decide) (by omega) dX1_init_57 ?_
  refine j_putR (a := a) (r := a + 6) C fr_Evenings_35 (by rw [hs0]) (by rw [hs0]) (by omega) (by decide +kernel) dX1_init_59 ?_
  exact X 62 _ _ _ dX1_init_62
def GS_Tray (a : Nat) (σ : SS) : SS := (upA (ups (ups (ups σ a 0 0) a 1 0) a 2 0) (a + 1) (fun _ => 0))
def GP_Tray (a : Nat) (ρ : PP) : PP := (upr (upP ρ (a + 1) (fun _ => none)) a 3 (some (a + 1)))
set_option maxRecDepth 20000 in
theorem mc_Tray {l : Launch} (a : Nat) (hs0 : sh a = (1, 9, 4)) (hs1 : sh (a + 1) = (3, 0, 60)) (σ : SS) (ρ : PP) : Mt2 l yX9_init cX9_init 1 1 (a + 1) (a + 2) (fun b => [.ref (b + a)]) σ ρ (GS_Tray a σ) (GP_Tray a ρ) := by
  refine Mt2_of (own := RX9) (Γ0 := [(0, 2)]) (L0 := [0]) (R0 := [a]) (by decide +kernel) rfl rfl (fun b => rfl) (fun b => Nat.le_of_ble_eq_true rfl) ⟨rfl, rfl, List.forall_mem_cons.mpr ⟨trivial, List.forall_mem_nil _⟩⟩ (fun b V C X => ?_)
  refine j_aload_n (i := 0) (g := 0) C dX9_init_0 rfl rfl ?_
  refine j_objInit C oi_Tray oi_w (by omega) (by decide) dX9_init_1 ?_
  refine j_aload_n (i := 0) (g := 0) C dX9_init_4 rfl rfl ?_
  refine j_iconst C dX9_init_5 ?_
  refine j_putI (a := a) (kn := 3) (x := 0) C pl_Tray_9 (by rw [hs0]) (by rw [hs0]) (by omega) (Or.inr (Or.inr ⟨rfl, by decide⟩)) (show inI 0 from inIb_of rfl) dX9_init_6 ?_
  refine j_aload_n (i := 0) (g := 0) C dX9_init_9 rfl rfl ?_
  refine j_iconst C dX9_init_10 ?_
  refine j_putI (a := a) (kn := 0) (x := 0) C pl_Tray_15 (by rw [hs0]) (by rw [hs0]) (by omega) (Or.inl rfl) (show inI 0 from inIb_of rfl) dX9_init_11 ?_
  refine j_aload_n (i := 0) (g := 0) C dX9_init_14 rfl rfl ?_
  refine j_iconst C dX9_init_15 ?_
  refine j_putI (a := a) (kn := 0) (x := 0) C pl_Tray_19 (by rw [hs0]) (by rw [hs0]) (by omega) (Or.inl rfl) (show inI 0 from inIb_of rfl) dX9_init_16 ?_
  refine j_aload_n (i := 0) (g := 0) C dX9_init_19 rfl rfl ?_
  refine j_bipush C dX9_init_20 rfl ?_
  refine j_newaLong (N := a + 1) C aw_long (by rw [hs1]) (by rw [hs1]; rfl) (by decide) (by omega) dX9_init_22 ?_
  refine j_putR (a := a) (r := a + 1) C fr_Tray_22 (by rw [hs0]) (by rw [hs0]) (by omega) (by decide +kernel) dX9_init_24 ?_
  exact X 27 _ _ _ dX9_init_27
