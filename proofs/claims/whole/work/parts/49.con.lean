/-! constructors -/
theorem upr_oth {ρ : PP} {a k a' k' : Nat} {v : Option Nat} (h : a' ≠ a ∨ k' ≠ k) : upr ρ a k v a' k' = ρ a' k' := by
  unfold upr
  rw [if_neg (by omega)]
theorem upP_oth {ρ : PP} {a a' k' : Nat} {f : Nat → Option Nat} (h : a' ≠ a) : upP ρ a f a' k' = ρ a' k' := by rw [upP_ne h]
theorem upr_hit {ρ : PP} {a k : Nat} {v : Option Nat} : upr ρ a k v a k = v := by rw [upr_same, if_pos rfl]
theorem j_sub {l : Launch} {b : Nat} {V : V2} {cc : ByteArray} {own : String} {nL h N0 N1 pc : Nat} {Γ Γ2 : GG} {L : List Int} {R : List Nat} {σ : SS} {ρ : PP} {N : Nat} {st : List Value} (C : Ctx2 l b V cc own nL h N0 N1) (hs : ∀ q ∈ Γ2, q ∈ Γ) (k : V pc Γ2 ((L, R, σ, ρ, N) : Z2) st) : V pc Γ ((L, R, σ, ρ, N) : Z2) st := by
  obtain ⟨p, e, Rm, s, m, args, below, meth, c, Q, D, tc, rfl, hx, hb, hml, hown, hts, hK, hE, hfr, hlo, hce, hsl, hbs⟩ := C
  intro okσ okl hN ls H locs hl hH hA
  exact k okσ ⟨okl.1, okl.2.1, fun q hq => okl.2.2 q (hs q hq)⟩ hN ls H locs (lv_has_le hl (fun q hq => by
    obtain ⟨g, hg, rfl⟩ := List.mem_map.mp hq
    exact List.mem_map.mpr ⟨g, hs g hg, rfl⟩)) hH hA
theorem oi_Park : Cond.methodLink RX3 3 objectInit ∈ gtb := (gq_1 142 (by decide +kernel) rfl)
theorem cl_Park_44 : Cond.classLink RX3 44 RX10 ∈ gtb := (gq_1 143 (by decide +kernel) rfl)
theorem cl_Park_53 : Cond.classLink RX3 53 RX0 ∈ gtb := (gq_1 145 (by decide +kernel) rfl)
theorem cl_Park_59 : Cond.classLink RX3 59 RX1 ∈ gtb := (gq_1 147 (by decide +kernel) rfl)
theorem ci_Tune : CI 10 RX10 TX10 4 tyX10 := ⟨rfl, in_X10, tyX10_ok, nmX10, rfl, (gq_1 196 (by decide +kernel) rfl), (gq_1 10 (by decide +kernel) rfl), by decide +kernel, by decide⟩
theorem ci_Band : CI 0 RX0 TX0 9 tyX0 := ⟨rfl, in_X0, tyX0_ok, nmX0, rfl, (gq_1 224 (by decide +kernel) rfl), (gq_1 11 (by decide +kernel) rfl), by decide +kernel, by decide⟩
theorem ci_Evenings : CI 1 RX1 TX1 8 tyX1 := ⟨rfl, in_X1, tyX1_ok, nmX1, rfl, (gq_1 148 (by decide +kernel) rfl), (gq_1 9 (by decide +kernel) rfl), by decide +kernel, by decide⟩
theorem ci_Tray : CI 9 RX9 TX9 4 tyX9 := ⟨rfl, in_X9, tyX9_ok, nmX9, rfl, (gq_3 47 (by decide +kernel) rfl), (gq_1 16 (by decide +kernel) rfl), by decide +kernel, by decide⟩
theorem ci_Park : CI 3 RX3 TX3 15 tyX3 := ⟨rfl, in_X3, tyX3_ok, nmX3, rfl, (gq_1 138 (by decide +kernel) rfl), (gq_1 8 (by decide +kernel) rfl), by decide +kernel, by decide⟩
theorem ci_Sound : CI 6 RX6 TX6 6 tyX6 := ⟨rfl, in_X6, tyX6_ok, nmX6, rfl, (gq_2 140 (by decide +kernel) rfl), (gq_1 12 (by decide +kernel) rfl), by decide +kernel, by decide⟩
theorem ci_Tape : CI 8 RX8 TX8 12 tyX8 := ⟨rfl, in_X8, tyX8_ok, nmX8, rfl, (gq_1 32 (by decide +kernel) rfl), (gq_1 2 (by decide +kernel) rfl), by decide +kernel, by decide⟩
theorem ci_Stage : CI 7 RX7 TX7 12 tyX7 := ⟨rfl, in_X7, tyX7_ok, nmX7, rfl, (gq_1 132 (by decide +kernel) rfl), (gq_1 7 (by decide +kernel) rfl), by decide +kernel, by decide⟩
theorem ci_ParkReader : CI 4 RX4 TX4 3 tyX4 := ⟨rfl, in_X4, tyX4_ok, nmX4, rfl, (gq_2 209 (by decide +kernel) rfl), (gq_1 13 (by decide +kernel) rfl), by decide +kernel, by decide⟩
theorem ci_EveningsReader : CI 2 RX2 TX2 5 tyX2 := ⟨rfl, in_X2, tyX2_ok, nmX2, rfl, (gq_2 228 (by decide +kernel) rfl), (gq_1 14 (by decide +kernel) rfl), by decide +kernel, by decide⟩
theorem ci_Search : CI 5 RX5 TX5 8 tyX5 := ⟨rfl, in_X5, tyX5_ok, nmX5, rfl, (gq_3 13 (by decide +kernel) rfl), (gq_1 15 (by decide +kernel) rfl), by decide +kernel, by decide⟩
set_option maxRecDepth 20000 in
theorem yc_Tune : YW yX10_init cX10_init 1 none 0 := ⟨(gq_1 199 rfl rfl), (gq_1 10 (by decide +kernel) rfl), by decide +kernel, by decide⟩
theorem ym_Tune : Cond.instanceMethod yX10_init ∈ gtb := (gq_1 198 (by decide +kernel) rfl)
set_option maxRecDepth 20000 in
theorem yc_Band : YW yX0_init cX0_init 1 none 0 := ⟨(gq_1 227 rfl rfl), (gq_1 11 (by decide +kernel) rfl), by decide +kernel, by decide⟩
theorem ym_Band : Cond.instanceMethod yX0_init ∈ gtb := (gq_1 226 (by decide +kernel) rfl)
set_option maxRecDepth 20000 in
theorem yc_Evenings : YW yX1_init cX1_init 1 none 0 := ⟨(gq_1 151 rfl rfl), (gq_1 9 (by decide +kernel) rfl), by decide +kernel, by decide⟩
theorem ym_Evenings : Cond.instanceMethod yX1_init ∈ gtb := (gq_1 150 (by decide +kernel) rfl)
set_option maxRecDepth 20000 in
theorem yc_Tray : YW yX9_init cX9_init 1 none 0 := ⟨(gq_3 50 rfl rfl), (gq_1 16 (by decide +kernel) rfl), by decide +kernel, by decide⟩
theorem ym_Tray : Cond.instanceMethod yX9_init ∈ gtb := (gq_3 49 (by decide +kernel) rfl)
set_option maxRecDepth 20000 in
theorem yc_Park : YW yX3_init cX3_init 2 none 0 := ⟨(gq_1 141 rfl rfl), (gq_1 8 (by decide +kernel) rfl), by decide +kernel, by decide⟩
theorem ym_Park : Cond.instanceMethod yX3_init ∈ gtb := (gq_1 140 (by decide +kernel) rfl)
theorem yl_Park_61 : Cond.methodLink RX3 61 yX1_init ∈ gtb ∨ ∃ q ∈ nestL, q.1 = RX3 ∧ q.2.1 = 61 ∧ q.2.2.1 = yX1_init := Or.inr (by decide +kernel)
theorem yl_Park_69 : Cond.methodLink RX3 69 yX10_init ∈ gtb ∨ ∃ q ∈ nestL, q.1 = RX3 ∧ q.2.1 = 69 ∧ q.2.2.1 = yX10_init := Or.inr (by decide +kernel)
theorem yl_Park_70 : Cond.methodLink RX3 70 yX0_init ∈ gtb ∨ ∃ q ∈ nestL, q.1 = RX3 ∧ q.2.1 = 70 ∧ q.2.2.1 = yX0_init := Or.inr (by decide +kernel)
theorem fr_Park_37 : FR RX3 37 3 8 := ⟨RX3, TX3, 15, tyX3, rfl, by decide, in_X3, (gq_2 76 (by decide +kernel) rfl), rfl, rfl, tyX3_ok, nmX3, rfl, rfl, (Or.inr ⟨_, rfl⟩)⟩
theorem fr_Park_46 : FR RX3 46 3 10 := ⟨RX3, TX3, 15, tyX3, rfl, by decide, in_X3, (gq_2 86 (by decide +kernel) rfl), rfl, rfl, tyX3_ok, nmX3, rfl, rfl, (Or.inr ⟨_, rfl⟩)⟩
theorem fr_Park_55 : FR RX3 55 3 12 := ⟨RX3, TX3, 15, tyX3, rfl, by decide, in_X3, (gq_2 96 (by decide +kernel) rfl), rfl, rfl, tyX3_ok, nmX3, rfl, rfl, (Or.inr ⟨_, rfl⟩)⟩
theorem fr_Park_62 : FR RX3 62 3 13 := ⟨RX3, TX3, 15, tyX3, rfl, by decide, in_X3, (gq_2 102 (by decide +kernel) rfl), rfl, rfl, tyX3_ok, nmX3, rfl, rfl, (Or.inl ⟨_, rfl⟩)⟩
def GS_Park (a : Nat) (σ : SS) : SS := (GS_Band (a + 27) (upA (GS_Band (a + 25) (upA (GS_Band (a + 23) (upA (GS_Band (a + 21) (upA (GS_Band (a + 19) (upA (GS_Band (a + 17) (upA (GS_Tune (a + 16) (upA (GS_Tune (a + 15) (upA (GS_Tune (a + 14) (upA (GS_Tune (a + 13) (upA (GS_Tune (a + 12) (upA (GS_Tune (a + 11) (upA (ups (GS_Evenings (a + 4) (upA (upA (ups (upA (ups (upA (ups (ups (ups (ups (ups (ups (ups (ups σ a 0 0) a 1 0) a 2 2) a 3 2) a 4 4) a 5 0) a 6 4) a 7 0) (a + 1) (fun _ => 0)) a 9 0) (a + 2) (fun _ => 0)) a 11 0) (a + 3) (fun _ => 0)) (a + 4) (fun _ => 0))) a 14 0) (a + 11) (fun _ => 0))) (a + 12) (fun _ => 0))) (a + 13) (fun _ => 0))) (a + 14) (fun _ => 0))) (a + 15) (fun _ => 0))) (a + 16) (fun _ => 0))) (a + 17) (fun _ => 0))) (a + 19) (fun _ => 0))) (a + 21) (fun _ => 0))) (a + 23) (fun _ => 0))) (a + 25) (fun _ => 0))) (a + 27) (fun _ => 0)))
def GP_Park (a : Nat) (ρ : PP) : PP := (upr (GP_Band (a + 27) (upP (upr (GP_Band (a + 25) (upP (upr (GP_Band (a + 23) (upP (upr (GP_Band (a + 21) (upP (upr (GP_Band (a + 19) (upP (upr (GP_Band (a + 17) (upP (upr (GP_Tune (a + 16) (upP (upr (GP_Tune (a + 15) (upP (upr (GP_Tune (a + 14) (upP (upr (GP_Tune (a + 13) (upP (upr (GP_Tune (a + 12) (upP (upr (GP_Tune (a + 11) (upP (upr (GP_Evenings (a + 4) (upP (upr (upP (upr (upP (upr (upP ρ (a + 1) (fun _ => none)) a 8 (some (a + 1))) (a + 2) (fun _ => none)) a 10 (some (a + 2))) (a + 3) (fun _ => none)) a 12 (some (a + 3))) (a + 4) (fun _ => none))) a 13 (some (a + 4))) (a + 11) (fun _ => none))) (a + 2) 0 (some (a + 11))) (a + 12) (fun _ => none))) (a + 2) 1 (some (a + 12))) (a + 13) (fun _ => none))) (a + 2) 2 (some (a + 13))) (a + 14) (fun _ => none))) (a + 2) 3 (some (a + 14))) (a + 15) (fun _ => none))) (a + 2) 4 (some (a + 15))) (a + 16) (fun _ => none))) (a + 2) 5 (some (a + 16))) (a + 17) (fun _ => none))) (a + 3) 0 (some (a + 17))) (a + 19) (fun _ => none))) (a + 3) 1 (some (a + 19))) (a + 21) (fun _ => none))) (a + 3) 2 (some (a + 21))) (a + 23) (fun _ => none))) (a + 3) 3 (some (a + 23))) (a + 25) (fun _ => none))) (a + 3) 4 (some (a + 25))) (a + 27) (fun _ => none))) (a + 3) 5 (some (a + 27)))
set_option maxRecDepth 20000 in
theorem mc_Park {l : Launch} (a : Nat) (hs0 : sh a = (1, 3, 15)) (hs1 : sh (a + 1) = (5, 0, 30)) (hs2 : sh (a + 2) = (6, 6, 6)) (hs3 : sh (a + 3) = (6, 7, 6)) (hs4 : sh (a + 4) = (1, 1, 8)) (hs5 : sh (a + 5) = (2, 0, 30)) (hs6 : sh (a + 6) = (2, 0, 30)) (hs7 : sh (a + 7) = (2, 0, 30)) (hs8 : sh (a + 8) = (2, 0, 30)) (hs9 : sh (a + 9) = (2, 0, 30)) (hs10 : sh (a + 10) = (2, 0, 30)) (hs11 : sh (a + 11) = (1, 10, 4)) (hs12 : sh (a + 12) = (1, 10, 4)) (hs13 : sh (a + 13) = (1, 10, 4)) (hs14 : sh (a + 14) = (1, 10, 4)) (hs15 : sh (a + 15) = (1, 10, 4)) (hs16 : sh (a + 16) = (1, 10, 4)) (hs17 : sh (a + 17) = (1, 0, 9)) (hs18 : sh (a + 18) = (2, 0, 6)) (hs19 : sh (a + 19) = (1, 0, 9)) (hs20 : sh (a + 20) = (2, 0, 6)) (hs21 : sh (a + 21) = (1, 0, 9)) (hs22 : sh (a + 22) = (2, 0, 6)) (hs23 : sh (a + 23) = (1, 0, 9)) (hs24 : sh (a + 24) = (2, 0, 6)) (hs25 : sh (a + 25) = (1, 0, 9)) (hs26 : sh (a + 26) = (2, 0, 6)) (hs27 : sh (a + 27) = (1, 0, 9)) (hs28 : sh (a + 28) = (2, 0, 6)) (σ : SS) (ρ : PP) : Mt2 l yX3_init cX3_init 2 2 (a + 1) (a + 29) (fun b => [.ref (b + a)]) σ ρ (GS_Park a σ) (GP_Park a ρ) := by
  refine Mt2_of (own := RX3) (Γ0 := [(0, 2)]) (L0 := [0, 0]) (R0 := [a, 0]) (by decide +kernel) rfl rfl (fun b => rfl) (fun b => Nat.le_of_ble_eq_true rfl) ⟨rfl, rfl, List.forall_mem_cons.mpr ⟨trivial, List.forall_mem_nil _⟩⟩ (fun b V C X => ?_)
  refine j_aload_n (pc := 0) (i := 0) (g := 0) C dX3_init_0 rfl rfl ?_
  refine j_objInit (pc := 1) C oi_Park oi_w (by omega) (by decide) dX3_init_1 ?_
  refine j_aload_n (pc := 4) (i := 0) (g := 0) C dX3_init_4 rfl rfl ?_
  refine j_iconst (pc := 5) C dX3_init_5 ?_
  refine j_putI (pc := 6) (a := a) (kn := 0) (x := 0) C pl_Park_9 (by rw [hs0]) (by rw [hs0]) (by omega) (Or.inl rfl) (show inI 0 from inIb_of rfl) dX3_init_6 ?_
  refine j_aload_n (pc := 9) (i := 0) (g := 0) C dX3_init_9 rfl rfl ?_
  refine j_iconst (pc := 10) C dX3_init_10 ?_
  refine j_putI (pc := 11) (a := a) (kn := 0) (x := 0) C pl_Park_15 (by rw [hs0]) (by rw [hs0]) (by omega) (Or.inl rfl) (show inI 0 from inIb_of rfl) dX3_init_11 ?_
  refine j_aload_n (pc := 14) (i := 0) (g := 0) C dX3_init_14 rfl rfl ?_
  refine j_iconst (pc := 15) C dX3_init_15 ?_
  refine j_putI (pc := 16) (a := a) (kn := 0) (x := 2) C pl_Park_18 (by rw [hs0]) (by rw [hs0]) (by omega) (Or.inl rfl) (show inI 2 from inIb_of rfl) dX3_init_16 ?_
  refine j_aload_n (pc := 19) (i := 0) (g := 0) C dX3_init_19 rfl rfl ?_
  refine j_iconst (pc := 20) C dX3_init_20 ?_
  refine j_putI (pc := 21) (a := a) (kn := 0) (x := 2) C pl_Park_21 (by rw [hs0]) (by rw [hs0]) (by omega) (Or.inl rfl) (show inI 2 from inIb_of rfl) dX3_init_21 ?_
  refine j_aload_n (pc := 24) (i := 0) (g := 0) C dX3_init_24 rfl rfl ?_
  refine j_iconst (pc := 25) C dX3_init_25 ?_
  refine j_putI (pc := 26) (a := a) (kn := 0) (x := 4) C pl_Park_24 (by rw [hs0]) (by rw [hs0]) (by omega) (Or.inl rfl) (show inI 4 from inIb_of rfl) dX3_init_26 ?_
  refine j_aload_n (pc := 29) (i := 0) (g := 0) C dX3_init_29 rfl rfl ?_
  refine j_iconst (pc := 30) C dX3_init_30 ?_
  refine j_putI (pc := 31) (a := a) (kn := 0) (x := 0) C pl_Park_27 (by rw [hs0]) (by rw [hs0]) (by omega) (Or.inl rfl) (show inI 0 from inIb_of rfl) dX3_init_31 ?_
  refine j_aload_n (pc := 34) (i := 0) (g := 0) C dX3_init_34 rfl rfl ?_
  refine j_iconst (pc := 35) C dX3_init_35 ?_
  refine j_putI (pc := 36) (a := a) (kn := 0) (x := 4) C pl_Park_30 (by rw [hs0]) (by rw [hs0]) (by omega) (Or.inl rfl) (show inI 4 from inIb_of rfl) dX3_init_36 ?_
  refine j_aload_n (pc := 39) (i := 0) (g := 0) C dX3_init_39 rfl rfl ?_
  refine j_iconst (pc := 40) C dX3_init_40 ?_
  refine j_putI (pc := 41) (a := a) (kn := 3) (x := 0) C pl_Park_33 (by rw [hs0]) (by rw [hs0]) (by omega) (Or.inr (Or.inr ⟨rfl, by decide⟩)) (show inI 0 from inIb_of rfl) dX3_init_41 ?_
  refine j_aload_n (pc := 44) (i := 0) (g := 0) C dX3_init_44 rfl rfl ?_
  refine j_bipush (pc := 45) C dX3_init_45 rfl ?_
  refine j_newaBool (pc := 47) (N := a + 1) C aw_boolean (by rw [hs1]) (by rw [hs1]; rfl) (by decide) (by omega) dX3_init_47 ?_
  refine j_putR (pc := 49) (a := a) (r := a + 1) C fr_Park_37 (by rw [hs0]) (by rw [hs0]) (by omega) (by decide +kernel) dX3_init_49 ?_
  refine j_aload_n (pc := 52) (i := 0) (g := 0) C dX3_init_52 rfl rfl ?_
  refine j_iconst (pc := 53) C dX3_init_53 ?_
  refine j_putI (pc := 54) (a := a) (kn := 0) (x := 0) C pl_Park_41 (by rw [hs0]) (by rw [hs0]) (by omega) (Or.inl rfl) (show inI 0 from inIb_of rfl) dX3_init_54 ?_
  refine j_aload_n (pc := 57) (i := 0) (g := 0) C dX3_init_57 rfl rfl ?_
  refine j_bipush (pc := 58) C dX3_init_58 rfl ?_
  refine j_anew (pc := 60) (N := a + 2) (t := 6) C cl_Park_44 (fun _ => rfl) (fun _ _ h => h.2.2.1) (by rw [hs2]) (by rw [hs2]; rfl) (by rw [hs2]) (by decide) (by omega) dX3_init_60 ?_
  refine j_putR (pc := 63) (a := a) (r := a + 2) C fr_Park_46 (by rw [hs0]) (by rw [hs0]) (by omega) (by decide +kernel) dX3_init_63 ?_
  refine j_aload_n (pc := 66) (i := 0) (g := 0) C dX3_init_66 rfl rfl ?_
  refine j_iconst (pc := 67) C dX3_init_67 ?_
  refine j_putI (pc := 68) (a := a) (kn := 0) (x := 0) C pl_Park_50 (by rw [hs0]) (by rw [hs0]) (by omega) (Or.inl rfl) (show inI 0 from inIb_of rfl) dX3_init_68 ?_
  refine j_aload_n (pc := 71) (i := 0) (g := 0) C dX3_init_71 rfl rfl ?_
  refine j_bipush (pc := 72) C dX3_init_72 rfl ?_
  refine j_anew (pc := 74) (N := a + 3) (t := 7) C cl_Park_53 (fun _ => rfl) (fun _ _ h => h.2.2.2.1) (by rw [hs3]) (by rw [hs3]; rfl) (by rw [hs3]) (by decide) (by omega) dX3_init_74 ?_
  refine j_putR (pc := 77) (a := a) (r := a + 3) C fr_Park_55 (by rw [hs0]) (by rw [hs0]) (by omega) (by decide +kernel) dX3_init_77 ?_
  refine j_aload_n (pc := 80) (i := 0) (g := 0) C dX3_init_80 rfl rfl ?_
  refine j_new (pc := 81) (N := a + 4) C ci_Evenings cl_Park_59 (by rw [hs4]) (by rw [hs4]) (by omega) dX3_init_81 ?_
  refine j_dup (pc := 84) C dX3_init_84 rfl ?_
  refine j_callI (pc := 85) (N := a + 5) (N' := a + 11) (As := []) C (mc_Evenings (a + 4) hs4 hs5 hs6 hs7 hs8 hs9 hs10 _ _) yc_Evenings rfl ym_Evenings yl_Park_61 (by omega) rfl rfl (by omega) (by omega) (by simp only [dep_i, dep_r]; decide) dX3_init_85 ?_
  refine j_putR (pc := 88) (a := a) (r := a + 4) C fr_Park_62 (by rw [hs0]) (by rw [hs0]) (by omega) (by decide +kernel) dX3_init_88 ?_
  refine j_aload_n (pc := 91) (i := 0) (g := 0) C dX3_init_91 rfl rfl ?_
  refine j_iconst (pc := 92) C dX3_init_92 ?_
  refine j_putI (pc := 93) (a := a) (kn := 0) (x := 0) C pl_Park_66 (by rw [hs0]) (by rw [hs0]) (by omega) (Or.inl rfl) (show inI 0 from inIb_of rfl) dX3_init_93 ?_
  refine j_iconst (pc := 96) C dX3_init_96 ?_
  refine j_istore_n (pc := 97) (i := 1) C dX3_init_97 rfl (by decide) (show inI 0 from inIb_of rfl) ?_
  refine j_sub (Γ2 := [(0, 2), (1, 0)]) C (by decide) ?_
  rw [show (([0, 0] : List Int).set 1 0) = [0, 0] from by decide]
  refine j_iload_n (pc := 98) (i := 1) (g := 1) C dX3_init_98 rfl rfl ?_
  refine j_bipush (pc := 99) C dX3_init_99 rfl ?_
  refine j_icmp_ge (pc := 101) (tgt := 123) C dX3_init_101 (by decide) (show inI 0 from inIb_of rfl) (show inI 6 from inIb_of rfl) (fun hq => absurd hq (by decide)) (fun _ => ?_)
  refine j_aload_n (pc := 104) (i := 0) (g := 0) C dX3_init_104 rfl rfl ?_
  refine j_getR (pc := 105) (a := a) (r := a + 2) C fl_Park_46 (by rw [hs0]) (by rw [hs0]) (by omega) (by simp (disch := omega) only [GP_Tune, GP_Band, GP_Evenings, GP_Tray, upr_oth, upP_oth, upr_hit]) dX3_init_105 ?_
  refine j_iload_n (pc := 108) (i := 1) (g := 1) C dX3_init_108 rfl rfl ?_
  refine j_new (pc := 109) (N := a + 11) C ci_Tune cl_Park_44 (by rw [hs11]) (by rw [hs11]) (by omega) dX3_init_109 ?_
  refine j_dup (pc := 112) C dX3_init_112 rfl ?_
  refine j_callI (pc := 113) (N := a + 12) (N' := a + 12) (As := []) C (mc_Tune (a + 11) (a + 12) (by omega) hs11 _ _) yc_Tune rfl ym_Tune yl_Park_69 (by omega) rfl rfl (by omega) (by omega) (by simp only [dep_i, dep_r]; decide) dX3_init_113 ?_
  refine j_aast (pc := 116) (a := a + 2) (v := a + 11) (i := 0) (t := 6) (ci := 10) C (by rw [hs2]) (by rw [hs2]) (by omega) (by rw [hs11]) (by rw [hs11]) (by omega) rfl (fun _ => rfl) (show inI 0 from inIb_of rfl) (by decide) (by rw [hs2]; decide) dX3_init_116 ?_
  refine j_iinc (pc := 117) (i := 1) (g := 1) C dX3_init_117 rfl (by decide) ?_
  refine j_sub (Γ2 := [(0, 2), (1, 0)]) C (by decide) ?_
  rw [show (([0, 0] : List Int).set 1 (wI (([0, 0] : List Int).getD 1 0 + 1))) = [0, 1] from by decide]
  refine j_goto (pc := 120) (tgt := 98) C dX3_init_120 (by decide) ?_
  refine j_iload_n (pc := 98) (i := 1) (g := 1) C dX3_init_98 rfl rfl ?_
  refine j_bipush (pc := 99) C dX3_init_99 rfl ?_
  refine j_icmp_ge (pc := 101) (tgt := 123) C dX3_init_101 (by decide) (show inI 1 from inIb_of rfl) (show inI 6 from inIb_of rfl) (fun hq => absurd hq (by decide)) (fun _ => ?_)
  refine j_aload_n (pc := 104) (i := 0) (g := 0) C dX3_init_104 rfl rfl ?_
  refine j_getR (pc := 105) (a := a) (r := a + 2) C fl_Park_46 (by rw [hs0]) (by rw [hs0]) (by omega) (by simp (disch := omega) only [GP_Tune, GP_Band, GP_Evenings, GP_Tray, upr_oth, upP_oth, upr_hit]) dX3_init_105 ?_
  refine j_iload_n (pc := 108) (i := 1) (g := 1) C dX3_init_108 rfl rfl ?_
  refine j_new (pc := 109) (N := a + 12) C ci_Tune cl_Park_44 (by rw [hs12]) (by rw [hs12]) (by omega) dX3_init_109 ?_
  refine j_dup (pc := 112) C dX3_init_112 rfl ?_
  refine j_callI (pc := 113) (N := a + 13) (N' := a + 13) (As := []) C (mc_Tune (a + 12) (a + 13) (by omega) hs12 _ _) yc_Tune rfl ym_Tune yl_Park_69 (by omega) rfl rfl (by omega) (by omega) (by simp only [dep_i, dep_r]; decide) dX3_init_113 ?_
  refine j_aast (pc := 116) (a := a + 2) (v := a + 12) (i := 1) (t := 6) (ci := 10) C (by rw [hs2]) (by rw [hs2]) (by omega) (by rw [hs12]) (by rw [hs12]) (by omega) rfl (fun _ => rfl) (show inI 1 from inIb_of rfl) (by decide) (by rw [hs2]; decide) dX3_init_116 ?_
  refine j_iinc (pc := 117) (i := 1) (g := 1) C dX3_init_117 rfl (by decide) ?_
  refine j_sub (Γ2 := [(0, 2), (1, 0)]) C (by decide) ?_
  rw [show (([0, 1] : List Int).set 1 (wI (([0, 1] : List Int).getD 1 0 + 1))) = [0, 2] from by decide]
  refine j_goto (pc := 120) (tgt := 98) C dX3_init_120 (by decide) ?_
  refine j_iload_n (pc := 98) (i := 1) (g := 1) C dX3_init_98 rfl rfl ?_
  refine j_bipush (pc := 99) C dX3_init_99 rfl ?_
  refine j_icmp_ge (pc := 101) (tgt := 123) C dX3_init_101 (by decide) (show inI 2 from inIb_of rfl) (show inI 6 from inIb_of rfl) (fun hq => absurd hq (by decide)) (fun _ => ?_)
  refine j_aload_n (pc := 104) (i := 0) (g := 0) C dX3_init_104 rfl rfl ?_
  refine j_getR (pc := 105) (a := a) (r := a + 2) C fl_Park_46 (by rw [hs0]) (by rw [hs0]) (by omega) (by simp (disch := omega) only [GP_Tune, GP_Band, GP_Evenings, GP_Tray, upr_oth, upP_oth, upr_hit]) dX3_init_105 ?_
  refine j_iload_n (pc := 108) (i := 1) (g := 1) C dX3_init_108 rfl rfl ?_
  refine j_new (pc := 109) (N := a + 13) C ci_Tune cl_Park_44 (by rw [hs13]) (by rw [hs13]) (by omega) dX3_init_109 ?_
  refine j_dup (pc := 112) C dX3_init_112 rfl ?_
  refine j_callI (pc := 113) (N := a + 14) (N' := a + 14) (As := []) C (mc_Tune (a + 13) (a + 14) (by omega) hs13 _ _) yc_Tune rfl ym_Tune yl_Park_69 (by omega) rfl rfl (by omega) (by omega) (by simp only [dep_i, dep_r]; decide) dX3_init_113 ?_
  refine j_aast (pc := 116) (a := a + 2) (v := a + 13) (i := 2) (t := 6) (ci := 10) C (by rw [hs2]) (by rw [hs2]) (by omega) (by rw [hs13]) (by rw [hs13]) (by omega) rfl (fun _ => rfl) (show inI 2 from inIb_of rfl) (by decide) (by rw [hs2]; decide) dX3_init_116 ?_
  refine j_iinc (pc := 117) (i := 1) (g := 1) C dX3_init_117 rfl (by decide) ?_
  refine j_sub (Γ2 := [(0, 2), (1, 0)]) C (by decide) ?_
  rw [show (([0, 2] : List Int).set 1 (wI (([0, 2] : List Int).getD 1 0 + 1))) = [0, 3] from by decide]
  refine j_goto (pc := 120) (tgt := 98) C dX3_init_120 (by decide) ?_
  refine j_iload_n (pc := 98) (i := 1) (g := 1) C dX3_init_98 rfl rfl ?_
  refine j_bipush (pc := 99) C dX3_init_99 rfl ?_
  refine j_icmp_ge (pc := 101) (tgt := 123) C dX3_init_101 (by decide) (show inI 3 from inIb_of rfl) (show inI 6 from inIb_of rfl) (fun hq => absurd hq (by decide)) (fun _ => ?_)
  refine j_aload_n (pc := 104) (i := 0) (g := 0) C dX3_init_104 rfl rfl ?_
  refine j_getR (pc := 105) (a := a) (r := a + 2) C fl_Park_46 (by rw [hs0]) (by rw [hs0]) (by omega) (by simp (disch := omega) only [GP_Tune, GP_Band, GP_Evenings, GP_Tray, upr_oth, upP_oth, upr_hit]) dX3_init_105 ?_
  refine j_iload_n (pc := 108) (i := 1) (g := 1) C dX3_init_108 rfl rfl ?_
  refine j_new (pc := 109) (N := a + 14) C ci_Tune cl_Park_44 (by rw [hs14]) (by rw [hs14]) (by omega) dX3_init_109 ?_
  refine j_dup (pc := 112) C dX3_init_112 rfl ?_
  refine j_callI (pc := 113) (N := a + 15) (N' := a + 15) (As := []) C (mc_Tune (a + 14) (a + 15) (by omega) hs14 _ _) yc_Tune rfl ym_Tune yl_Park_69 (by omega) rfl rfl (by omega) (by omega) (by simp only [dep_i, dep_r]; decide) dX3_init_113 ?_
  refine j_aast (pc := 116) (a := a + 2) (v := a + 14) (i := 3) (t := 6) (ci := 10) C (by rw [hs2]) (by rw [hs2]) (by omega) (by rw [hs14]) (by rw [hs14]) (by omega) rfl (fun _ => rfl) (show inI 3 from inIb_of rfl) (by decide) (by rw [hs2]; decide) dX3_init_116 ?_
  refine j_iinc (pc := 117) (i := 1) (g := 1) C dX3_init_117 rfl (by decide) ?_
  refine j_sub (Γ2 := [(0, 2), (1, 0)]) C (by decide) ?_
  rw [show (([0, 3] : List Int).set 1 (wI (([0, 3] : List Int).getD 1 0 + 1))) = [0, 4] from by decide]
  refine j_goto (pc := 120) (tgt := 98) C dX3_init_120 (by decide) ?_
  refine j_iload_n (pc := 98) (i := 1) (g := 1) C dX3_init_98 rfl rfl ?_
  refine j_bipush (pc := 99) C dX3_init_99 rfl ?_
  refine j_icmp_ge (pc := 101) (tgt := 123) C dX3_init_101 (by decide) (show inI 4 from inIb_of rfl) (show inI 6 from inIb_of rfl) (fun hq => absurd hq (by decide)) (fun _ => ?_)
  refine j_aload_n (pc := 104) (i := 0) (g := 0) C dX3_init_104 rfl rfl ?_
  refine j_getR (pc := 105) (a := a) (r := a + 2) C fl_Park_46 (by rw [hs0]) (by rw [hs0]) (by omega) (by simp (disch := omega) only [GP_Tune, GP_Band, GP_Evenings, GP_Tray, upr_oth, upP_oth, upr_hit]) dX3_init_105 ?_
  refine j_iload_n (pc := 108) (i := 1) (g := 1) C dX3_init_108 rfl rfl ?_
  refine j_new (pc := 109) (N := a + 15) C ci_Tune cl_Park_44 (by rw [hs15]) (by rw [hs15]) (by omega) dX3_init_109 ?_
  refine j_dup (pc := 112) C dX3_init_112 rfl ?_
  refine j_callI (pc := 113) (N := a + 16) (N' := a + 16) (As := []) C (mc_Tune (a + 15) (a + 16) (by omega) hs15 _ _) yc_Tune rfl ym_Tune yl_Park_69 (by omega) rfl rfl (by omega) (by omega) (by simp only [dep_i, dep_r]; decide) dX3_init_113 ?_
  refine j_aast (pc := 116) (a := a + 2) (v := a + 15) (i := 4) (t := 6) (ci := 10) C (by rw [hs2]) (by rw [hs2]) (by omega) (by rw [hs15]) (by rw [hs15]) (by omega) rfl (fun _ => rfl) (show inI 4 from inIb_of rfl) (by decide) (by rw [hs2]; decide) dX3_init_116 ?_
  refine j_iinc (pc := 117) (i := 1) (g := 1) C dX3_init_117 rfl (by decide) ?_
  refine j_sub (Γ2 := [(0, 2), (1, 0)]) C (by decide) ?_
  rw [show (([0, 4] : List Int).set 1 (wI (([0, 4] : List Int).getD 1 0 + 1))) = [0, 5] from by decide]
  refine j_goto (pc := 120) (tgt := 98) C dX3_init_120 (by decide) ?_
  refine j_iload_n (pc := 98) (i := 1) (g := 1) C dX3_init_98 rfl rfl ?_
  refine j_bipush (pc := 99) C dX3_init_99 rfl ?_
  refine j_icmp_ge (pc := 101) (tgt := 123) C dX3_init_101 (by decide) (show inI 5 from inIb_of rfl) (show inI 6 from inIb_of rfl) (fun hq => absurd hq (by decide)) (fun _ => ?_)
  refine j_aload_n (pc := 104) (i := 0) (g := 0) C dX3_init_104 rfl rfl ?_
  refine j_getR (pc := 105) (a := a) (r := a + 2) C fl_Park_46 (by rw [hs0]) (by rw [hs0]) (by omega) (by simp (disch := omega) only [GP_Tune, GP_Band, GP_Evenings, GP_Tray, upr_oth, upP_oth, upr_hit]) dX3_init_105 ?_
  refine j_iload_n (pc := 108) (i := 1) (g := 1) C dX3_init_108 rfl rfl ?_
  refine j_new (pc := 109) (N := a + 16) C ci_Tune cl_Park_44 (by rw [hs16]) (by rw [hs16]) (by omega) dX3_init_109 ?_
  refine j_dup (pc := 112) C dX3_init_112 rfl ?_
  refine j_callI (pc := 113) (N := a + 17) (N' := a + 17) (As := []) C (mc_Tune (a + 16) (a + 17) (by omega) hs16 _ _) yc_Tune rfl ym_Tune yl_Park_69 (by omega) rfl rfl (by omega) (by omega) (by simp only [dep_i, dep_r]; decide) dX3_init_113 ?_
  refine j_aast (pc := 116) (a := a + 2) (v := a + 16) (i := 5) (t := 6) (ci := 10) C (by rw [hs2]) (by rw [hs2]) (by omega) (by rw [hs16]) (by rw [hs16]) (by omega) rfl (fun _ => rfl) (show inI 5 from inIb_of rfl) (by decide) (by rw [hs2]; decide) dX3_init_116 ?_
  refine j_iinc (pc := 117) (i := 1) (g := 1) C dX3_init_117 rfl (by decide) ?_
  refine j_sub (Γ2 := [(0, 2), (1, 0)]) C (by decide) ?_
  rw [show (([0, 5] : List Int).set 1 (wI (([0, 5] : List Int).getD 1 0 + 1))) = [0, 6] from by decide]
  refine j_goto (pc := 120) (tgt := 98) C dX3_init_120 (by decide) ?_
  refine j_iload_n (pc := 98) (i := 1) (g := 1) C dX3_init_98 rfl rfl ?_
  refine j_bipush (pc := 99) C dX3_init_99 rfl ?_
  refine j_icmp_ge (pc := 101) (tgt := 123) C dX3_init_101 (by decide) (show inI 6 from inIb_of rfl) (show inI 6 from inIb_of rfl) (fun _ => ?_) (fun hq => absurd (by decide) hq)
  refine j_iconst (pc := 123) C dX3_init_123 ?_
  refine j_istore_n (pc := 124) (i := 1) C dX3_init_124 rfl (by decide) (show inI 0 from inIb_of rfl) ?_
  refine j_sub (Γ2 := [(0, 2), (1, 0)]) C (by decide) ?_
  rw [show (([0, 6] : List Int).set 1 0) = [0, 0] from by decide]
  refine j_iload_n (pc := 125) (i := 1) (g := 1) C dX3_init_125 rfl rfl ?_
  refine j_bipush (pc := 126) C dX3_init_126 rfl ?_
  refine j_icmp_ge (pc := 128) (tgt := 150) C dX3_init_128 (by decide) (show inI 0 from inIb_of rfl) (show inI 6 from inIb_of rfl) (fun hq => absurd hq (by decide)) (fun _ => ?_)
  refine j_aload_n (pc := 131) (i := 0) (g := 0) C dX3_init_131 rfl rfl ?_
  refine j_getR (pc := 132) (a := a) (r := a + 3) C fl_Park_55 (by rw [hs0]) (by rw [hs0]) (by omega) (by simp (disch := omega) only [GP_Tune, GP_Band, GP_Evenings, GP_Tray, upr_oth, upP_oth, upr_hit]) dX3_init_132 ?_
  refine j_iload_n (pc := 135) (i := 1) (g := 1) C dX3_init_135 rfl rfl ?_
  refine j_new (pc := 136) (N := a + 17) C ci_Band cl_Park_53 (by rw [hs17]) (by rw [hs17]) (by omega) dX3_init_136 ?_
  refine j_dup (pc := 139) C dX3_init_139 rfl ?_
  refine j_callI (pc := 140) (N := a + 18) (N' := a + 19) (As := []) C (mc_Band (a + 17) hs17 hs18 _ _) yc_Band rfl ym_Band yl_Park_70 (by omega) rfl rfl (by omega) (by omega) (by simp only [dep_i, dep_r]; decide) dX3_init_140 ?_
  refine j_aast (pc := 143) (a := a + 3) (v := a + 17) (i := 0) (t := 7) (ci := 0) C (by rw [hs3]) (by rw [hs3]) (by omega) (by rw [hs17]) (by rw [hs17]) (by omega) rfl (fun _ => rfl) (show inI 0 from inIb_of rfl) (by decide) (by rw [hs3]; decide) dX3_init_143 ?_
  refine j_iinc (pc := 144) (i := 1) (g := 1) C dX3_init_144 rfl (by decide) ?_
  refine j_sub (Γ2 := [(0, 2), (1, 0)]) C (by decide) ?_
  rw [show (([0, 0] : List Int).set 1 (wI (([0, 0] : List Int).getD 1 0 + 1))) = [0, 1] from by decide]
  refine j_goto (pc := 147) (tgt := 125) C dX3_init_147 (by decide) ?_
  refine j_iload_n (pc := 125) (i := 1) (g := 1) C dX3_init_125 rfl rfl ?_
  refine j_bipush (pc := 126) C dX3_init_126 rfl ?_
  refine j_icmp_ge (pc := 128) (tgt := 150) C dX3_init_128 (by decide) (show inI 1 from inIb_of rfl) (show inI 6 from inIb_of rfl) (fun hq => absurd hq (by decide)) (fun _ => ?_)
  refine j_aload_n (pc := 131) (i := 0) (g := 0) C dX3_init_131 rfl rfl ?_
  refine j_getR (pc := 132) (a := a) (r := a + 3) C fl_Park_55 (by rw [hs0]) (by rw [hs0]) (by omega) (by simp (disch := omega) only [GP_Tune, GP_Band, GP_Evenings, GP_Tray, upr_oth, upP_oth, upr_hit]) dX3_init_132 ?_
  refine j_iload_n (pc := 135) (i := 1) (g := 1) C dX3_init_135 rfl rfl ?_
  refine j_new (pc := 136) (N := a + 19) C ci_Band cl_Park_53 (by rw [hs19]) (by rw [hs19]) (by omega) dX3_init_136 ?_
  refine j_dup (pc := 139) C dX3_init_139 rfl ?_
  refine j_callI (pc := 140) (N := a + 20) (N' := a + 21) (As := []) C (mc_Band (a + 19) hs19 hs20 _ _) yc_Band rfl ym_Band yl_Park_70 (by omega) rfl rfl (by omega) (by omega) (by simp only [dep_i, dep_r]; decide) dX3_init_140 ?_
  refine j_aast (pc := 143) (a := a + 3) (v := a + 19) (i := 1) (t := 7) (ci := 0) C (by rw [hs3]) (by rw [hs3]) (by omega) (by rw [hs19]) (by rw [hs19]) (by omega) rfl (fun _ => rfl) (show inI 1 from inIb_of rfl) (by decide) (by rw [hs3]; decide) dX3_init_143 ?_
  refine j_iinc (pc := 144) (i := 1) (g := 1) C dX3_init_144 rfl (by decide) ?_
  refine j_sub (Γ2 := [(0, 2), (1, 0)]) C (by decide) ?_
  rw [show (([0, 1] : List Int).set 1 (wI (([0, 1] : List Int).getD 1 0 + 1))) = [0, 2] from by decide]
  refine j_goto (pc := 147) (tgt := 125) C dX3_init_147 (by decide) ?_
  refine j_iload_n (pc := 125) (i := 1) (g := 1) C dX3_init_125 rfl rfl ?_
  refine j_bipush (pc := 126) C dX3_init_126 rfl ?_
  refine j_icmp_ge (pc := 128) (tgt := 150) C dX3_init_128 (by decide) (show inI 2 from inIb_of rfl) (show inI 6 from inIb_of rfl) (fun hq => absurd hq (by decide)) (fun _ => ?_)
  refine j_aload_n (pc := 131) (i := 0) (g := 0) C dX3_init_131 rfl rfl ?_
  refine j_getR (pc := 132) (a := a) (r := a + 3) C fl_Park_55 (by rw [hs0]) (by rw [hs0]) (by omega) (by simp (disch := omega) only [GP_Tune, GP_Band, GP_Evenings, GP_Tray, upr_oth, upP_oth, upr_hit]) dX3_init_132 ?_
  refine j_iload_n (pc := 135) (i := 1) (g := 1) C dX3_init_135 rfl rfl ?_
  refine j_new (pc := 136) (N := a + 21) C ci_Band cl_Park_53 (by rw [hs21]) (by rw [hs21]) (by omega) dX3_init_136 ?_
  refine j_dup (pc := 139) C dX3_init_139 rfl ?_
  refine j_callI (pc := 140) (N := a + 22) (N' := a + 23) (As := []) C (mc_Band (a + 21) hs21 hs22 _ _) yc_Band rfl ym_Band yl_Park_70 (by omega) rfl rfl (by omega) (by omega) (by simp only [dep_i, dep_r]; decide) dX3_init_140 ?_
  refine j_aast (pc := 143) (a := a + 3) (v := a + 21) (i := 2) (t := 7) (ci := 0) C (by rw [hs3]) (by rw [hs3]) (by omega) (by rw [hs21]) (by rw [hs21]) (by omega) rfl (fun _ => rfl) (show inI 2 from inIb_of rfl) (by decide) (by rw [hs3]; decide) dX3_init_143 ?_
  refine j_iinc (pc := 144) (i := 1) (g := 1) C dX3_init_144 rfl (by decide) ?_
  refine j_sub (Γ2 := [(0, 2), (1, 0)]) C (by decide) ?_
  rw [show (([0, 2] : List Int).set 1 (wI (([0, 2] : List Int).getD 1 0 + 1))) = [0, 3] from by decide]
  refine j_goto (pc := 147) (tgt := 125) C dX3_init_147 (by decide) ?_
  refine j_iload_n (pc := 125) (i := 1) (g := 1) C dX3_init_125 rfl rfl ?_
  refine j_bipush (pc := 126) C dX3_init_126 rfl ?_
  refine j_icmp_ge (pc := 128) (tgt := 150) C dX3_init_128 (by decide) (show inI 3 from inIb_of rfl) (show inI 6 from inIb_of rfl) (fun hq => absurd hq (by decide)) (fun _ => ?_)
  refine j_aload_n (pc := 131) (i := 0) (g := 0) C dX3_init_131 rfl rfl ?_
  refine j_getR (pc := 132) (a := a) (r := a + 3) C fl_Park_55 (by rw [hs0]) (by rw [hs0]) (by omega) (by simp (disch := omega) only [GP_Tune, GP_Band, GP_Evenings, GP_Tray, upr_oth, upP_oth, upr_hit]) dX3_init_132 ?_
  refine j_iload_n (pc := 135) (i := 1) (g := 1) C dX3_init_135 rfl rfl ?_
  refine j_new (pc := 136) (N := a + 23) C ci_Band cl_Park_53 (by rw [hs23]) (by rw [hs23]) (by omega) dX3_init_136 ?_
  refine j_dup (pc := 139) C dX3_init_139 rfl ?_
  refine j_callI (pc := 140) (N := a + 24) (N' := a + 25) (As := []) C (mc_Band (a + 23) hs23 hs24 _ _) yc_Band rfl ym_Band yl_Park_70 (by omega) rfl rfl (by omega) (by omega) (by simp only [dep_i, dep_r]; decide) dX3_init_140 ?_
  refine j_aast (pc := 143) (a := a + 3) (v := a + 23) (i := 3) (t := 7) (ci := 0) C (by rw [hs3]) (by rw [hs3]) (by omega) (by rw [hs23]) (by rw [hs23]) (by omega) rfl (fun _ => rfl) (show inI 3 from inIb_of rfl) (by decide) (by rw [hs3]; decide) dX3_init_143 ?_
  refine j_iinc (pc := 144) (i := 1) (g := 1) C dX3_init_144 rfl (by decide) ?_
  refine j_sub (Γ2 := [(0, 2), (1, 0)]) C (by decide) ?_
  rw [show (([0, 3] : List Int).set 1 (wI (([0, 3] : List Int).getD 1 0 + 1))) = [0, 4] from by decide]
  refine j_goto (pc := 147) (tgt := 125) C dX3_init_147 (by decide) ?_
  refine j_iload_n (pc := 125) (i := 1) (g := 1) C dX3_init_125 rfl rfl ?_
  refine j_bipush (pc := 126) C dX3_init_126 rfl ?_
  refine j_icmp_ge (pc := 128) (tgt := 150) C dX3_init_128 (by decide) (show inI 4 from inIb_of rfl) (show inI 6 from inIb_of rfl) (fun hq => absurd hq (by decide)) (fun _ => ?_)
  refine j_aload_n (pc := 131) (i := 0) (g := 0) C dX3_init_131 rfl rfl ?_
  refine j_getR (pc := 132) (a := a) (r := a + 3) C fl_Park_55 (by rw [hs0]) (by rw [hs0]) (by omega) (by simp (disch := omega) only [GP_Tune, GP_Band, GP_Evenings, GP_Tray, upr_oth, upP_oth, upr_hit]) dX3_init_132 ?_
  refine j_iload_n (pc := 135) (i := 1) (g := 1) C dX3_init_135 rfl rfl ?_
  refine j_new (pc := 136) (N := a + 25) C ci_Band cl_Park_53 (by rw [hs25]) (by rw [hs25]) (by omega) dX3_init_136 ?_
  refine j_dup (pc := 139) C dX3_init_139 rfl ?_
  refine j_callI (pc := 140) (N := a + 26) (N' := a + 27) (As := []) C (mc_Band (a + 25) hs25 hs26 _ _) yc_Band rfl ym_Band yl_Park_70 (by omega) rfl rfl (by omega) (by omega) (by simp only [dep_i, dep_r]; decide) dX3_init_140 ?_
  refine j_aast (pc := 143) (a := a + 3) (v := a + 25) (i := 4) (t := 7) (ci := 0) C (by rw [hs3]) (by rw [hs3]) (by omega) (by rw [hs25]) (by rw [hs25]) (by omega) rfl (fun _ => rfl) (show inI 4 from inIb_of rfl) (by decide) (by rw [hs3]; decide) dX3_init_143 ?_
  refine j_iinc (pc := 144) (i := 1) (g := 1) C dX3_init_144 rfl (by decide) ?_
  refine j_sub (Γ2 := [(0, 2), (1, 0)]) C (by decide) ?_
  rw [show (([0, 4] : List Int).set 1 (wI (([0, 4] : List Int).getD 1 0 + 1))) = [0, 5] from by decide]
  refine j_goto (pc := 147) (tgt := 125) C dX3_init_147 (by decide) ?_
  refine j_iload_n (pc := 125) (i := 1) (g := 1) C dX3_init_125 rfl rfl ?_
  refine j_bipush (pc := 126) C dX3_init_126 rfl ?_
  refine j_icmp_ge (pc := 128) (tgt := 150) C dX3_init_128 (by decide) (show inI 5 from inIb_of rfl) (show inI 6 from inIb_of rfl) (fun hq => absurd hq (by decide)) (fun _ => ?_)
  refine j_aload_n (pc := 131) (i := 0) (g := 0) C dX3_init_131 rfl rfl ?_
  refine j_getR (pc := 132) (a := a) (r := a + 3) C fl_Park_55 (by rw [hs0]) (by rw [hs0]) (by omega) (by simp (disch := omega) only [GP_Tune, GP_Band, GP_Evenings, GP_Tray, upr_oth, upP_oth, upr_hit]) dX3_init_132 ?_
  refine j_iload_n (pc := 135) (i := 1) (g := 1) C dX3_init_135 rfl rfl ?_
  refine j_new (pc := 136) (N := a + 27) C ci_Band cl_Park_53 (by rw [hs27]) (by rw [hs27]) (by omega) dX3_init_136 ?_
  refine j_dup (pc := 139) C dX3_init_139 rfl ?_
  refine j_callI (pc := 140) (N := a + 28) (N' := a + 29) (As := []) C (mc_Band (a + 27) hs27 hs28 _ _) yc_Band rfl ym_Band yl_Park_70 (by omega) rfl rfl (by omega) (by omega) (by simp only [dep_i, dep_r]; decide) dX3_init_140 ?_
  refine j_aast (pc := 143) (a := a + 3) (v := a + 27) (i := 5) (t := 7) (ci := 0) C (by rw [hs3]) (by rw [hs3]) (by omega) (by rw [hs27]) (by rw [hs27]) (by omega) rfl (fun _ => rfl) (show inI 5 from inIb_of rfl) (by decide) (by rw [hs3]; decide) dX3_init_143 ?_
  refine j_iinc (pc := 144) (i := 1) (g := 1) C dX3_init_144 rfl (by decide) ?_
  refine j_sub (Γ2 := [(0, 2), (1, 0)]) C (by decide) ?_
  rw [show (([0, 5] : List Int).set 1 (wI (([0, 5] : List Int).getD 1 0 + 1))) = [0, 6] from by decide]
  refine j_goto (pc := 147) (tgt := 125) C dX3_init_147 (by decide) ?_
  refine j_iload_n (pc := 125) (i := 1) (g := 1) C dX3_init_125 rfl rfl ?_
  refine j_bipush (pc := 126) C dX3_init_126 rfl ?_
  refine j_icmp_ge (pc := 128) (tgt := 150) C dX3_init_128 (by decide) (show inI 6 from inIb_of rfl) (show inI 6 from inIb_of rfl) (fun _ => ?_) (fun hq => absurd (by decide) hq)
  exact X 150 _ _ _ dX3_init_150
