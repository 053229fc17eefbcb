/-! BandPark() -/
theorem oi_BandPark : Cond.methodLink RX11 1 objectInit ∈ gtb := (gq_1 26 (by decide +kernel) rfl)
theorem cl_BandPark_9 : Cond.classLink RX11 9 RX9 ∈ gtb := (gq_1 29 (by decide +kernel) rfl)
theorem cl_BandPark_15 : Cond.classLink RX11 15 RX8 ∈ gtb := (gq_1 31 (by decide +kernel) rfl)
theorem cl_BandPark_22 : Cond.classLink RX11 22 RX7 ∈ gtb := (gq_1 131 (by decide +kernel) rfl)
theorem cl_BandPark_29 : Cond.classLink RX11 29 RX4 ∈ gtb := (gq_2 208 (by decide +kernel) rfl)
theorem cl_BandPark_38 : Cond.classLink RX11 38 RX2 ∈ gtb := (gq_2 227 (by decide +kernel) rfl)
theorem cl_BandPark_54 : Cond.classLink RX11 54 RX5 ∈ gtb := (gq_3 12 (by decide +kernel) rfl)
theorem cl_BandPark_61 : Cond.classLink RX11 61 RX3 ∈ gtb := (gq_3 45 (by decide +kernel) rfl)
set_option maxRecDepth 20000 in
theorem yc_BandPark : YW yX11_init cX11_init 2 none 0 := ⟨(gq_1 25 rfl rfl), (gq_1 1 (by decide +kernel) rfl), by decide +kernel, by decide⟩
theorem ym_BandPark : Cond.instanceMethod yX11_init ∈ gtb := (gq_1 24 (by decide +kernel) rfl)
set_option maxRecDepth 20000 in
theorem yc_ParkReader : YW yX4_init cX4_init 2 none 1 := ⟨(gq_2 212 rfl rfl), (gq_1 13 (by decide +kernel) rfl), by decide +kernel, by decide⟩
theorem ym_ParkReader : Cond.instanceMethod yX4_init ∈ gtb := (gq_2 211 (by decide +kernel) rfl)
set_option maxRecDepth 20000 in
theorem yc_EveningsReader : YW yX2_init cX2_init 3 none 2 := ⟨(gq_2 231 rfl rfl), (gq_1 14 (by decide +kernel) rfl), by decide +kernel, by decide⟩
theorem ym_EveningsReader : Cond.instanceMethod yX2_init ∈ gtb := (gq_2 230 (by decide +kernel) rfl)
theorem yl_BandPark_17 : Cond.methodLink RX11 17 yX8_init ∈ gtb ∨ ∃ q ∈ nestL, q.1 = RX11 ∧ q.2.1 = 17 ∧ q.2.2.1 = yX8_init := Or.inl (gq_1 33 (by decide +kernel) rfl)
theorem yl_BandPark_24 : Cond.methodLink RX11 24 yX7_init ∈ gtb ∨ ∃ q ∈ nestL, q.1 = RX11 ∧ q.2.1 = 24 ∧ q.2.2.1 = yX7_init := Or.inr (by decide +kernel)
theorem yl_BandPark_31 : Cond.methodLink RX11 31 yX4_init ∈ gtb ∨ ∃ q ∈ nestL, q.1 = RX11 ∧ q.2.1 = 31 ∧ q.2.2.1 = yX4_init := Or.inl (gq_2 210 (by decide +kernel) rfl)
theorem yl_BandPark_44 : Cond.methodLink RX11 44 yX2_init ∈ gtb ∨ ∃ q ∈ nestL, q.1 = RX11 ∧ q.2.1 = 44 ∧ q.2.2.1 = yX2_init := Or.inl (gq_2 229 (by decide +kernel) rfl)
theorem yl_BandPark_56 : Cond.methodLink RX11 56 yX5_init ∈ gtb ∨ ∃ q ∈ nestL, q.1 = RX11 ∧ q.2.1 = 56 ∧ q.2.2.1 = yX5_init := Or.inr (by decide +kernel)
theorem yl_BandPark_95 : Cond.methodLink RX11 95 yX9_init ∈ gtb ∨ ∃ q ∈ nestL, q.1 = RX11 ∧ q.2.1 = 95 ∧ q.2.2.1 = yX9_init := Or.inr (by decide +kernel)
theorem yl_BandPark_96 : Cond.methodLink RX11 96 yX3_init ∈ gtb ∨ ∃ q ∈ nestL, q.1 = RX11 ∧ q.2.1 = 96 ∧ q.2.2.1 = yX3_init := Or.inl (gq_3 69 (by decide +kernel) rfl)
theorem fr_BandPark_11 : FR RX11 11 11 0 := ⟨RX11, TX11, 16, tyX11, rfl, by decide, in_X11, (gq_3 70 (by decide +kernel) rfl), rfl, rfl, tyX11_ok, nmX11, rfl, rfl, (Or.inr ⟨_, rfl⟩)⟩
theorem fr_BandPark_18 : FR RX11 18 11 1 := ⟨RX11, TX11, 16, tyX11, rfl, by decide, in_X11, (gq_3 71 (by decide +kernel) rfl), rfl, rfl, tyX11_ok, nmX11, rfl, rfl, (Or.inl ⟨_, rfl⟩)⟩
theorem fr_BandPark_25 : FR RX11 25 11 2 := ⟨RX11, TX11, 16, tyX11, rfl, by decide, in_X11, (gq_3 72 (by decide +kernel) rfl), rfl, rfl, tyX11_ok, nmX11, rfl, rfl, (Or.inl ⟨_, rfl⟩)⟩
theorem fr_BandPark_34 : FR RX11 34 11 3 := ⟨RX11, TX11, 16, tyX11, rfl, by decide, in_X11, (gq_3 73 (by decide +kernel) rfl), rfl, rfl, tyX11_ok, nmX11, rfl, rfl, (Or.inl ⟨_, rfl⟩)⟩
theorem fr_BandPark_47 : FR RX11 47 11 4 := ⟨RX11, TX11, 16, tyX11, rfl, by decide, in_X11, (gq_3 74 (by decide +kernel) rfl), rfl, rfl, tyX11_ok, nmX11, rfl, rfl, (Or.inl ⟨_, rfl⟩)⟩
theorem fr_BandPark_51 : FR RX11 51 11 5 := ⟨RX11, TX11, 16, tyX11, rfl, by decide, in_X11, (gq_3 75 (by decide +kernel) rfl), rfl, rfl, tyX11_ok, nmX11, rfl, rfl, (Or.inl ⟨_, rfl⟩)⟩
theorem fr_BandPark_57 : FR RX11 57 11 6 := ⟨RX11, TX11, 16, tyX11, rfl, by decide, in_X11, (gq_3 76 (by decide +kernel) rfl), rfl, rfl, tyX11_ok, nmX11, rfl, rfl, (Or.inl ⟨_, rfl⟩)⟩
theorem fr_BandPark_63 : FR RX11 63 11 7 := ⟨RX11, TX11, 16, tyX11, rfl, by decide, in_X11, (gq_3 77 (by decide +kernel) rfl), rfl, rfl, tyX11_ok, nmX11, rfl, rfl, (Or.inr ⟨_, rfl⟩)⟩
theorem fr_BandPark_67 : FR RX11 67 11 8 := ⟨RX11, TX11, 16, tyX11, rfl, by decide, in_X11, (gq_3 78 (by decide +kernel) rfl), rfl, rfl, tyX11_ok, nmX11, rfl, rfl, (Or.inr ⟨_, rfl⟩)⟩
def GS_BandPark (σ : SS) : SS := (GS_Park 210 (upA (GS_Park 181 (upA (GS_Park 152 (upA (GS_Tray 150 (upA (GS_Tray 148 (upA (GS_Tray 146 (upA (GS_Tray 144 (upA (ups (ups (ups (ups (ups (ups (ups (upA (upA (GS_Search 128 (upA (GS_Stage 86 (upA (GS_EveningsReader 77 (upA (GS_ParkReader 47 (upA (GS_Stage 5 (upA (GS_Tape 2 (upA (upA σ 1 (fun _ => 0)) 2 (fun _ => 0))) 5 (fun _ => 0))) 47 (fun _ => 0))) 77 (fun _ => 0))) 86 (fun _ => 0))) 128 (fun _ => 0))) 142 (fun _ => 0)) 143 (fun _ => 0)) 0 9 0) 0 10 0) 0 11 0) 0 12 (-1)) 0 13 (-1)) 0 14 0) 0 15 1) 144 (fun _ => 0))) 146 (fun _ => 0))) 148 (fun _ => 0))) 150 (fun _ => 0))) 152 (fun _ => 0))) 181 (fun _ => 0))) 210 (fun _ => 0)))
def GP_BandPark (ρ : PP) : PP := (upr (GP_Park 210 (upP (upr (GP_Park 181 (upP (upr (GP_Park 152 (upP (upr (GP_Tray 150 (upP (upr (GP_Tray 148 (upP (upr (GP_Tray 146 (upP (upr (GP_Tray 144 (upP (upr (upP (upr (upP (upr (GP_Search 128 (upP (upr (GP_Stage 86 (upP (upr (GP_EveningsReader 77 2 6 (upP (upr (GP_ParkReader 47 2 (upP (upr (GP_Stage 5 (upP (upr (GP_Tape 2 (upP (upr (upP ρ 1 (fun _ => none)) 0 0 (some 1)) 2 (fun _ => none))) 0 1 (some 2)) 5 (fun _ => none))) 0 2 (some 5)) 47 (fun _ => none))) 0 3 (some 47)) 77 (fun _ => none))) 0 4 (some 77)) 86 (fun _ => none))) 0 5 (some 86)) 128 (fun _ => none))) 0 6 (some 128)) 142 (fun _ => none)) 0 7 (some 142)) 143 (fun _ => none)) 0 8 (some 143)) 144 (fun _ => none))) 1 0 (some 144)) 146 (fun _ => none))) 1 1 (some 146)) 148 (fun _ => none))) 1 2 (some 148)) 150 (fun _ => none))) 1 3 (some 150)) 152 (fun _ => none))) 142 0 (some 152)) 181 (fun _ => none))) 142 1 (some 181)) 210 (fun _ => none))) 142 2 (some 210))
set_option maxRecDepth 20000 in
set_option maxHeartbeats 16000000 in
theorem mc_BandPark {l : Launch} (σ : SS) (ρ : PP) : Mt2 l yX11_init cX11_init 2 6 1 239 (fun b => [.ref (b + 0)]) σ ρ (GS_BandPark σ) (GP_BandPark ρ) := by
  refine Mt2_of (own := RX11) (Γ0 := [(0, 2)]) (L0 := [0, 0]) (R0 := [0, 0]) (by decide +kernel) rfl rfl (fun b => rfl) (fun b => Nat.le_of_ble_eq_true rfl) ⟨rfl, rfl, List.forall_mem_cons.mpr ⟨trivial, List.forall_mem_nil _⟩⟩ (fun b V C X => ?_)
  refine j_aload_n (pc := 0) (i := 0) (g := 0) C dX11_init_0 rfl rfl ?_
  refine j_objInit (pc := 1) C oi_BandPark oi_w (by omega) (by decide) dX11_init_1 ?_
  refine j_aload_n (pc := 4) (i := 0) (g := 0) C dX11_init_4 rfl rfl ?_
  refine j_iconst (pc := 5) C dX11_init_5 ?_
  refine j_anew (pc := 6) (N := 1) (t := 4) C cl_BandPark_9 (fun _ => rfl) (fun _ _ h => h.1) (by rw [sh_1]) (by rw [sh_1]; rfl) (by rw [sh_1]) (by decide) (by omega) dX11_init_6 ?_
  refine j_putR (pc := 9) (a := 0) (r := 1) C fr_BandPark_11 (by rw [sh_0]) (by rw [sh_0]) (by omega) (by decide +kernel) dX11_init_9 ?_
  refine j_aload_n (pc := 12) (i := 0) (g := 0) C dX11_init_12 rfl rfl ?_
  refine j_new (pc := 13) (N := 2) C ci_Tape cl_BandPark_15 (by rw [sh_2]) (by rw [sh_2]) (by omega) dX11_init_13 ?_
  refine j_dup (pc := 16) C dX11_init_16 rfl ?_
  refine j_callI (pc := 17) (N := 3) (N' := 5) (As := []) C (mc_Tape 2 sh_2 sh_3 sh_4 _ _) yc_Tape rfl ym_Tape yl_BandPark_17 (by omega) rfl rfl (by omega) (by omega) (by simp only [dep_i, dep_r]; decide) dX11_init_17 ?_
  refine j_putR (pc := 20) (a := 0) (r := 2) C fr_BandPark_18 (by rw [sh_0]) (by rw [sh_0]) (by omega) (by decide +kernel) dX11_init_20 ?_
  refine j_aload_n (pc := 23) (i := 0) (g := 0) C dX11_init_23 rfl rfl ?_
  refine j_new (pc := 24) (N := 5) C ci_Stage cl_BandPark_22 (by rw [sh_5]) (by rw [sh_5]) (by omega) dX11_init_24 ?_
  refine j_dup (pc := 27) C dX11_init_27 rfl ?_
  refine j_callI (pc := 28) (N := 6) (N' := 47) (As := []) C (mc_Stage 5 sh_5 sh_6 sh_7 sh_8 sh_9 sh_10 sh_11 sh_12 sh_13 sh_14 sh_15 sh_16 sh_17 sh_18 sh_19 sh_20 sh_21 sh_22 sh_23 sh_24 sh_25 sh_26 sh_27 sh_28 sh_29 sh_30 sh_31 sh_32 sh_33 sh_34 sh_35 sh_36 sh_37 sh_38 sh_39 sh_40 sh_41 sh_42 sh_43 sh_44 sh_45 sh_46 _ _) yc_Stage rfl ym_Stage yl_BandPark_24 (by omega) rfl rfl (by omega) (by omega) (by simp only [dep_i, dep_r]; decide) dX11_init_28 ?_
  refine j_putR (pc := 31) (a := 0) (r := 5) C fr_BandPark_25 (by rw [sh_0]) (by rw [sh_0]) (by omega) (by decide +kernel) dX11_init_31 ?_
  refine j_aload_n (pc := 34) (i := 0) (g := 0) C dX11_init_34 rfl rfl ?_
  refine j_new (pc := 35) (N := 47) C ci_ParkReader cl_BandPark_29 (by rw [sh_47]) (by rw [sh_47]) (by omega) dX11_init_35 ?_
  refine j_dup (pc := 38) C dX11_init_38 rfl ?_
  refine j_aload_n (pc := 39) (i := 0) (g := 0) C dX11_init_39 rfl rfl ?_
  refine j_getR (pc := 40) (a := 0) (r := 2) C fl_BandPark_18 (by rw [sh_0]) (by rw [sh_0]) (by omega) (by simp (disch := omega) only [GP_Tune, GP_Band, GP_Evenings, GP_Tray, GP_Park, GP_Sound, GP_Tape, GP_Stage, GP_ParkReader, GP_EveningsReader, GP_Search, mzP_oth, upr_oth, upP_oth, upr_hit]) dX11_init_40 ?_
  refine j_callI (pc := 43) (N := 48) (N' := 77) (As := [.ref (b + 2)]) C (mc_ParkReader 47 2 sh_47 sh_48 sh_49 sh_50 sh_51 sh_52 sh_53 sh_54 sh_55 sh_56 sh_57 sh_58 sh_59 sh_60 sh_61 sh_62 sh_63 sh_64 sh_65 sh_66 sh_67 sh_68 sh_69 sh_70 sh_71 sh_72 sh_73 sh_74 sh_75 sh_76 _ _) yc_ParkReader rfl ym_ParkReader yl_BandPark_31 (by omega) rfl rfl (by omega) (by omega) (by simp only [dep_i, dep_r]; decide) dX11_init_43 ?_
  refine j_putR (pc := 46) (a := 0) (r := 47) C fr_BandPark_34 (by rw [sh_0]) (by rw [sh_0]) (by omega) (by decide +kernel) dX11_init_46 ?_
  refine j_aload_n (pc := 49) (i := 0) (g := 0) C dX11_init_49 rfl rfl ?_
  refine j_new (pc := 50) (N := 77) C ci_EveningsReader cl_BandPark_38 (by rw [sh_77]) (by rw [sh_77]) (by omega) dX11_init_50 ?_
  refine j_dup (pc := 53) C dX11_init_53 rfl ?_
  refine j_aload_n (pc := 54) (i := 0) (g := 0) C dX11_init_54 rfl rfl ?_
  refine j_getR (pc := 55) (a := 0) (r := 2) C fl_BandPark_18 (by rw [sh_0]) (by rw [sh_0]) (by omega) (by simp (disch := omega) only [GP_Tune, GP_Band, GP_Evenings, GP_Tray, GP_Park, GP_Sound, GP_Tape, GP_Stage, GP_ParkReader, GP_EveningsReader, GP_Search, mzP_oth, upr_oth, upP_oth, upr_hit]) dX11_init_55 ?_
  refine j_aload_n (pc := 58) (i := 0) (g := 0) C dX11_init_58 rfl rfl ?_
  refine j_getR (pc := 59) (a := 0) (r := 5) C fl_BandPark_25 (by rw [sh_0]) (by rw [sh_0]) (by omega) (by simp (disch := omega) only [GP_Tune, GP_Band, GP_Evenings, GP_Tray, GP_Park, GP_Sound, GP_Tape, GP_Stage, GP_ParkReader, GP_EveningsReader, GP_Search, mzP_oth, upr_oth, upP_oth, upr_hit]) dX11_init_59 ?_
  refine j_getR (pc := 62) (a := 5) (r := 6) C fl_BandPark_40 (by rw [sh_5]) (by rw [sh_5]) (by omega) (by simp (disch := omega) only [GP_Tune, GP_Band, GP_Evenings, GP_Tray, GP_Park, GP_Sound, GP_Tape, GP_Stage, GP_ParkReader, GP_EveningsReader, GP_Search, mzP_oth, upr_oth, upP_oth, upr_hit]) dX11_init_62 ?_
  refine j_callI (pc := 65) (N := 78) (N' := 86) (As := [.ref (b + 2), .ref (b + 6)]) C (mc_EveningsReader 77 2 6 sh_77 sh_78 sh_79 sh_80 sh_81 sh_82 sh_83 sh_84 sh_85 _ _) yc_EveningsReader rfl ym_EveningsReader yl_BandPark_44 (by omega) rfl rfl (by omega) (by omega) (by simp only [dep_i, dep_r]; decide) dX11_init_65 ?_
  refine j_putR (pc := 68) (a := 0) (r := 77) C fr_BandPark_47 (by rw [sh_0]) (by rw [sh_0]) (by omega) (by decide +kernel) dX11_init_68 ?_
  refine j_aload_n (pc := 71) (i := 0) (g := 0) C dX11_init_71 rfl rfl ?_
  refine j_new (pc := 72) (N := 86) C ci_Stage cl_BandPark_22 (by rw [sh_86]) (by rw [sh_86]) (by omega) dX11_init_72 ?_
  refine j_dup (pc := 75) C dX11_init_75 rfl ?_
  refine j_callI (pc := 76) (N := 87) (N' := 128) (As := []) C (mc_Stage 86 sh_86 sh_87 sh_88 sh_89 sh_90 sh_91 sh_92 sh_93 sh_94 sh_95 sh_96 sh_97 sh_98 sh_99 sh_100 sh_101 sh_102 sh_103 sh_104 sh_105 sh_106 sh_107 sh_108 sh_109 sh_110 sh_111 sh_112 sh_113 sh_114 sh_115 sh_116 sh_117 sh_118 sh_119 sh_120 sh_121 sh_122 sh_123 sh_124 sh_125 sh_126 sh_127 _ _) yc_Stage rfl ym_Stage yl_BandPark_24 (by omega) rfl rfl (by omega) (by omega) (by simp only [dep_i, dep_r]; decide) dX11_init_76 ?_
  refine j_putR (pc := 79) (a := 0) (r := 86) C fr_BandPark_51 (by rw [sh_0]) (by rw [sh_0]) (by omega) (by decide +kernel) dX11_init_79 ?_
  refine j_aload_n (pc := 82) (i := 0) (g := 0) C dX11_init_82 rfl rfl ?_
  refine j_new (pc := 83) (N := 128) C ci_Search cl_BandPark_54 (by rw [sh_128]) (by rw [sh_128]) (by omega) dX11_init_83 ?_
  refine j_dup (pc := 86) C dX11_init_86 rfl ?_
  refine j_callI (pc := 87) (N := 129) (N' := 142) (As := []) C (mc_Search 128 sh_128 sh_129 sh_130 sh_131 sh_132 sh_133 sh_134 sh_135 sh_136 sh_137 sh_138 sh_139 sh_140 sh_141 _ _) yc_Search rfl ym_Search yl_BandPark_56 (by omega) rfl rfl (by omega) (by omega) (by simp only [dep_i, dep_r]; decide) dX11_init_87 ?_
  refine j_putR (pc := 90) (a := 0) (r := 128) C fr_BandPark_57 (by rw [sh_0]) (by rw [sh_0]) (by omega) (by decide +kernel) dX11_init_90 ?_
  refine j_aload_n (pc := 93) (i := 0) (g := 0) C dX11_init_93 rfl rfl ?_
  refine j_iconst (pc := 94) C dX11_init_94 ?_
  refine j_anew (pc := 95) (N := 142) (t := 5) C cl_BandPark_61 (fun _ => rfl) (fun _ _ h => h.2.1) (by rw [sh_142]) (by rw [sh_142]; rfl) (by rw [sh_142]) (by decide) (by omega) dX11_init_95 ?_
  refine j_putR (pc := 98) (a := 0) (r := 142) C fr_BandPark_63 (by rw [sh_0]) (by rw [sh_0]) (by omega) (by decide +kernel) dX11_init_98 ?_
  refine j_aload_n (pc := 101) (i := 0) (g := 0) C dX11_init_101 rfl rfl ?_
  refine j_iconst (pc := 102) C dX11_init_102 ?_
  refine j_newaInt (pc := 103) (N := 143) C aw_int (by rw [sh_143]) (by rw [sh_143]; rfl) (by decide) (by omega) dX11_init_103 ?_
  refine j_putR (pc := 105) (a := 0) (r := 143) C fr_BandPark_67 (by rw [sh_0]) (by rw [sh_0]) (by omega) (by decide +kernel) dX11_init_105 ?_
  refine j_aload_n (pc := 108) (i := 0) (g := 0) C dX11_init_108 rfl rfl ?_
  refine j_iconst (pc := 109) C dX11_init_109 ?_
  refine j_putI (pc := 110) (a := 0) (kn := 3) (x := 0) C pl_BandPark_71 (by rw [sh_0]) (by rw [sh_0]) (by omega) (Or.inr (Or.inr ⟨rfl, by decide⟩)) (show inI 0 from inIb_of rfl) dX11_init_110 ?_
  refine j_aload_n (pc := 113) (i := 0) (g := 0) C dX11_init_113 rfl rfl ?_
  refine j_iconst (pc := 114) C dX11_init_114 ?_
  refine j_putI (pc := 115) (a := 0) (kn := 0) (x := 0) C pl_BandPark_75 (by rw [sh_0]) (by rw [sh_0]) (by omega) (Or.inl rfl) (show inI 0 from inIb_of rfl) dX11_init_115 ?_
  refine j_aload_n (pc := 118) (i := 0) (g := 0) C dX11_init_118 rfl rfl ?_
  refine j_iconst (pc := 119) C dX11_init_119 ?_
  refine j_putI (pc := 120) (a := 0) (kn := 0) (x := 0) C pl_BandPark_79 (by rw [sh_0]) (by rw [sh_0]) (by omega) (Or.inl rfl) (show inI 0 from inIb_of rfl) dX11_init_120 ?_
  refine j_aload_n (pc := 123) (i := 0) (g := 0) C dX11_init_123 rfl rfl ?_
  refine j_iconst (pc := 124) C dX11_init_124 ?_
  refine j_putI (pc := 125) (a := 0) (kn := 0) (x := (-1)) C pl_BandPark_82 (by rw [sh_0]) (by rw [sh_0]) (by omega) (Or.inl rfl) (show inI (-1) from inIb_of rfl) dX11_init_125 ?_
  refine j_aload_n (pc := 128) (i := 0) (g := 0) C dX11_init_128 rfl rfl ?_
  refine j_iconst (pc := 129) C dX11_init_129 ?_
  refine j_putI (pc := 130) (a := 0) (kn := 0) (x := (-1)) C pl_BandPark_85 (by rw [sh_0]) (by rw [sh_0]) (by omega) (Or.inl rfl) (show inI (-1) from inIb_of rfl) dX11_init_130 ?_
  refine j_aload_n (pc := 133) (i := 0) (g := 0) C dX11_init_133 rfl rfl ?_
  refine j_lconst (pc := 134) (x := 0) C dX11_init_134 (by decide +kernel) ?_
  refine j_putI (pc := 135) (a := 0) (kn := 1) (x := 0) C pl_BandPark_88 (by rw [sh_0]) (by rw [sh_0]) (by omega) (Or.inr (Or.inl rfl)) (show inL 0 from inLb_of rfl) dX11_init_135 ?_
  refine j_aload_n (pc := 138) (i := 0) (g := 0) C dX11_init_138 rfl rfl ?_
  refine j_lconst (pc := 139) (x := 1) C dX11_init_139 (by decide +kernel) ?_
  refine j_putI (pc := 140) (a := 0) (kn := 1) (x := 1) C pl_BandPark_92 (by rw [sh_0]) (by rw [sh_0]) (by omega) (Or.inr (Or.inl rfl)) (show inL 1 from inLb_of rfl) dX11_init_140 ?_
  refine j_iconst (pc := 143) C dX11_init_143 ?_
  refine j_istore_n (pc := 144) (i := 1) C dX11_init_144 rfl (by decide) (show inI 0 from inIb_of rfl) ?_
  refine j_sub (Γ2 := [(0, 2), (1, 0)]) C (by decide) ?_
  rw [show (([0, 0] : List Int).set 1 0) = [0, 0] from by decide]
  refine j_iload_n (pc := 145) (i := 1) (g := 1) C dX11_init_145 rfl rfl ?_
  refine j_iconst (pc := 146) C dX11_init_146 ?_
  refine j_icmp_ge (pc := 147) (tgt := 169) C dX11_init_147 (by decide) (show inI 0 from inIb_of rfl) (show inI 4 from inIb_of rfl) (fun hq => absurd hq (by decide)) (fun _ => ?_)
  refine j_aload_n (pc := 150) (i := 0) (g := 0) C dX11_init_150 rfl rfl ?_
  refine j_getR (pc := 151) (a := 0) (r := 1) C fl_BandPark_11 (by rw [sh_0]) (by rw [sh_0]) (by omega) (by simp (disch := omega) only [GP_Tune, GP_Band, GP_Evenings, GP_Tray, GP_Park, GP_Sound, GP_Tape, GP_Stage, GP_ParkReader, GP_EveningsReader, GP_Search, mzP_oth, upr_oth, upP_oth, upr_hit]) dX11_init_151 ?_
  refine j_iload_n (pc := 154) (i := 1) (g := 1) C dX11_init_154 rfl rfl ?_
  refine j_new (pc := 155) (N := 144) C ci_Tray cl_BandPark_9 (by rw [sh_144]) (by rw [sh_144]) (by omega) dX11_init_155 ?_
  refine j_dup (pc := 158) C dX11_init_158 rfl ?_
  refine j_callI (pc := 159) (N := 145) (N' := 146) (As := []) C (mc_Tray 144 sh_144 sh_145 _ _) yc_Tray rfl ym_Tray yl_BandPark_95 (by omega) rfl rfl (by omega) (by omega) (by simp only [dep_i, dep_r]; decide) dX11_init_159 ?_
  refine j_aast (pc := 162) (a := 1) (v := 144) (i := 0) (t := 4) (ci := 9) C (by rw [sh_1]) (by rw [sh_1]) (by omega) (by rw [sh_144]) (by rw [sh_144]) (by omega) rfl (fun _ => rfl) (show inI 0 from inIb_of rfl) (by decide) (by rw [sh_1]; decide) dX11_init_162 ?_
  refine j_iinc (pc := 163) (i := 1) (g := 1) C dX11_init_163 rfl (by decide) ?_
  refine j_sub (Γ2 := [(0, 2), (1, 0)]) C (by decide) ?_
  rw [show (([0, 0] : List Int).set 1 (wI (([0, 0] : List Int).getD 1 0 + 1))) = [0, 1] from by decide]
  refine j_goto (pc := 166) (tgt := 145) C dX11_init_166 (by decide) ?_
  refine j_iload_n (pc := 145) (i := 1) (g := 1) C dX11_init_145 rfl rfl ?_
  refine j_iconst (pc := 146) C dX11_init_146 ?_
  refine j_icmp_ge (pc := 147) (tgt := 169) C dX11_init_147 (by decide) (show inI 1 from inIb_of rfl) (show inI 4 from inIb_of rfl) (fun hq => absurd hq (by decide)) (fun _ => ?_)
  refine j_aload_n (pc := 150) (i := 0) (g := 0) C dX11_init_150 rfl rfl ?_
  refine j_getR (pc := 151) (a := 0) (r := 1) C fl_BandPark_11 (by rw [sh_0]) (by rw [sh_0]) (by omega) (by simp (disch := omega) only [GP_Tune, GP_Band, GP_Evenings, GP_Tray, GP_Park, GP_Sound, GP_Tape, GP_Stage, GP_ParkReader, GP_EveningsReader, GP_Search, mzP_oth, upr_oth, upP_oth, upr_hit]) dX11_init_151 ?_
  refine j_iload_n (pc := 154) (i := 1) (g := 1) C dX11_init_154 rfl rfl ?_
  refine j_new (pc := 155) (N := 146) C ci_Tray cl_BandPark_9 (by rw [sh_146]) (by rw [sh_146]) (by omega) dX11_init_155 ?_
  refine j_dup (pc := 158) C dX11_init_158 rfl ?_
  refine j_callI (pc := 159) (N := 147) (N' := 148) (As := []) C (mc_Tray 146 sh_146 sh_147 _ _) yc_Tray rfl ym_Tray yl_BandPark_95 (by omega) rfl rfl (by omega) (by omega) (by simp only [dep_i, dep_r]; decide) dX11_init_159 ?_
  refine j_aast (pc := 162) (a := 1) (v := 146) (i := 1) (t := 4) (ci := 9) C (by rw [sh_1]) (by rw [sh_1]) (by omega) (by rw [sh_146]) (by rw [sh_146]) (by omega) rfl (fun _ => rfl) (show inI 1 from inIb_of rfl) (by decide) (by rw [sh_1]; decide) dX11_init_162 ?_
  refine j_iinc (pc := 163) (i := 1) (g := 1) C dX11_init_163 rfl (by decide) ?_
  refine j_sub (Γ2 := [(0, 2), (1, 0)]) C (by decide) ?_
  rw [show (([0, 1] : List Int).set 1 (wI (([0, 1] : List Int).getD 1 0 + 1))) = [0, 2] from by decide]
  refine j_goto (pc := 166) (tgt := 145) C dX11_init_166 (by decide) ?_
  refine j_iload_n (pc := 145) (i := 1) (g := 1) C dX11_init_145 rfl rfl ?_
  refine j_iconst (pc := 146) C dX11_init_146 ?_
  refine j_icmp_ge (pc := 147) (tgt := 169) C dX11_init_147 (by decide) (show inI 2 from inIb_of rfl) (show inI 4 from inIb_of rfl) (fun hq => absurd hq (by decide)) (fun _ => ?_)
  refine j_aload_n (pc := 150) (i := 0) (g := 0) C dX11_init_150 rfl rfl ?_
  refine j_getR (pc := 151) (a := 0) (r := 1) C fl_BandPark_11 (by rw [sh_0]) (by rw [sh_0]) (by omega) (by simp (disch := omega) only [GP_Tune, GP_Band, GP_Evenings, GP_Tray, GP_Park, GP_Sound, GP_Tape, GP_Stage, GP_ParkReader, GP_EveningsReader, GP_Search, mzP_oth, upr_oth, upP_oth, upr_hit]) dX11_init_151 ?_
  refine j_iload_n (pc := 154) (i := 1) (g := 1) C dX11_init_154 rfl rfl ?_
  refine j_new (pc := 155) (N := 148) C ci_Tray cl_BandPark_9 (by rw [sh_148]) (by rw [sh_148]) (by omega) dX11_init_155 ?_
  refine j_dup (pc := 158) C dX11_init_158 rfl ?_
  refine j_callI (pc := 159) (N := 149) (N' := 150) (As := []) C (mc_Tray 148 sh_148 sh_149 _ _) yc_Tray rfl ym_Tray yl_BandPark_95 (by omega) rfl rfl (by omega) (by omega) (by simp only [dep_i, dep_r]; decide) dX11_init_159 ?_
  refine j_aast (pc := 162) (a := 1) (v := 148) (i := 2) (t := 4) (ci := 9) C (by rw [sh_1]) (by rw [sh_1]) (by omega) (by rw [sh_148]) (by rw [sh_148]) (by omega) rfl (fun _ => rfl) (show inI 2 from inIb_of rfl) (by decide) (by rw [sh_1]; decide) dX11_init_162 ?_
  refine j_iinc (pc := 163) (i := 1) (g := 1) C dX11_init_163 rfl (by decide) ?_
  refine j_sub (Γ2 := [(0, 2), (1, 0)]) C (by decide) ?_
  rw [show (([0, 2] : List Int).set 1 (wI (([0, 2] : List Int).getD 1 0 + 1))) = [0, 3] from by decide]
  refine j_goto (pc := 166) (tgt := 145) C dX11_init_166 (by decide) ?_
  refine j_iload_n (pc := 145) (i := 1) (g := 1) C dX11_init_145 rfl rfl ?_
  refine j_iconst (pc := 146) C dX11_init_146 ?_
  refine j_icmp_ge (pc := 147) (tgt := 169) C dX11_init_147 (by decide) (show inI 3 from inIb_of rfl) (show inI 4 from inIb_of rfl) (fun hq => absurd hq (by decide)) (fun _ => ?_)
  refine j_aload_n (pc := 150) (i := 0) (g := 0) C dX11_init_150 rfl rfl ?_
  refine j_getR (pc := 151) (a := 0) (r := 1) C fl_BandPark_11 (by rw [sh_0]) (by rw [sh_0]) (by omega) (by simp (disch := omega) only [GP_Tune, GP_Band, GP_Evenings, GP_Tray, GP_Park, GP_Sound, GP_Tape, GP_Stage, GP_ParkReader, GP_EveningsReader, GP_Search, mzP_oth, upr_oth, upP_oth, upr_hit]) dX11_init_151 ?_
  refine j_iload_n (pc := 154) (i := 1) (g := 1) C dX11_init_154 rfl rfl ?_
  refine j_new (pc := 155) (N := 150) C ci_Tray cl_BandPark_9 (by rw [sh_150]) (by rw [sh_150]) (by omega) dX11_init_155 ?_
  refine j_dup (pc := 158) C dX11_init_158 rfl ?_
  refine j_callI (pc := 159) (N := 151) (N' := 152) (As := []) C (mc_Tray 150 sh_150 sh_151 _ _) yc_Tray rfl ym_Tray yl_BandPark_95 (by omega) rfl rfl (by omega) (by omega) (by simp only [dep_i, dep_r]; decide) dX11_init_159 ?_
  refine j_aast (pc := 162) (a := 1) (v := 150) (i := 3) (t := 4) (ci := 9) C (by rw [sh_1]) (by rw [sh_1]) (by omega) (by rw [sh_150]) (by rw [sh_150]) (by omega) rfl (fun _ => rfl) (show inI 3 from inIb_of rfl) (by decide) (by rw [sh_1]; decide) dX11_init_162 ?_
  refine j_iinc (pc := 163) (i := 1) (g := 1) C dX11_init_163 rfl (by decide) ?_
  refine j_sub (Γ2 := [(0, 2), (1, 0)]) C (by decide) ?_
  rw [show (([0, 3] : List Int).set 1 (wI (([0, 3] : List Int).getD 1 0 + 1))) = [0, 4] from by decide]
  refine j_goto (pc := 166) (tgt := 145) C dX11_init_166 (by decide) ?_
  refine j_iload_n (pc := 145) (i := 1) (g := 1) C dX11_init_145 rfl rfl ?_
  refine j_iconst (pc := 146) C dX11_init_146 ?_
  refine j_icmp_ge (pc := 147) (tgt := 169) C dX11_init_147 (by decide) (show inI 4 from inIb_of rfl) (show inI 4 from inIb_of rfl) (fun _ => ?_) (fun hq => absurd (by decide) hq)
  refine j_iconst (pc := 169) C dX11_init_169 ?_
  refine j_istore_n (pc := 170) (i := 1) C dX11_init_170 rfl (by decide) (show inI 0 from inIb_of rfl) ?_
  refine j_sub (Γ2 := [(0, 2), (1, 0)]) C (by decide) ?_
  rw [show (([0, 4] : List Int).set 1 0) = [0, 0] from by decide]
  refine j_iload_n (pc := 171) (i := 1) (g := 1) C dX11_init_171 rfl rfl ?_
  refine j_iconst (pc := 172) C dX11_init_172 ?_
  refine j_icmp_ge (pc := 173) (tgt := 195) C dX11_init_173 (by decide) (show inI 0 from inIb_of rfl) (show inI 3 from inIb_of rfl) (fun hq => absurd hq (by decide)) (fun _ => ?_)
  refine j_aload_n (pc := 176) (i := 0) (g := 0) C dX11_init_176 rfl rfl ?_
  refine j_getR (pc := 177) (a := 0) (r := 142) C fl_BandPark_63 (by rw [sh_0]) (by rw [sh_0]) (by omega) (by simp (disch := omega) only [GP_Tune, GP_Band, GP_Evenings, GP_Tray, GP_Park, GP_Sound, GP_Tape, GP_Stage, GP_ParkReader, GP_EveningsReader, GP_Search, mzP_oth, upr_oth, upP_oth, upr_hit]) dX11_init_177 ?_
  refine j_iload_n (pc := 180) (i := 1) (g := 1) C dX11_init_180 rfl rfl ?_
  refine j_new (pc := 181) (N := 152) C ci_Park cl_BandPark_61 (by rw [sh_152]) (by rw [sh_152]) (by omega) dX11_init_181 ?_
  refine j_dup (pc := 184) C dX11_init_184 rfl ?_
  refine j_callI (pc := 185) (N := 153) (N' := 181) (As := []) C (mc_Park 152 sh_152 sh_153 sh_154 sh_155 sh_156 sh_157 sh_158 sh_159 sh_160 sh_161 sh_162 sh_163 sh_164 sh_165 sh_166 sh_167 sh_168 sh_169 sh_170 sh_171 sh_172 sh_173 sh_174 sh_175 sh_176 sh_177 sh_178 sh_179 sh_180 _ _) yc_Park rfl ym_Park yl_BandPark_96 (by omega) rfl rfl (by omega) (by omega) (by simp only [dep_i, dep_r]; decide) dX11_init_185 ?_
  refine j_aast (pc := 188) (a := 142) (v := 152) (i := 0) (t := 5) (ci := 3) C (by rw [sh_142]) (by rw [sh_142]) (by omega) (by rw [sh_152]) (by rw [sh_152]) (by omega) rfl (fun _ => rfl) (show inI 0 from inIb_of rfl) (by decide) (by rw [sh_142]; decide) dX11_init_188 ?_
  refine j_iinc (pc := 189) (i := 1) (g := 1) C dX11_init_189 rfl (by decide) ?_
  refine j_sub (Γ2 := [(0, 2), (1, 0)]) C (by decide) ?_
  rw [show (([0, 0] : List Int).set 1 (wI (([0, 0] : List Int).getD 1 0 + 1))) = [0, 1] from by decide]
  refine j_goto (pc := 192) (tgt := 171) C dX11_init_192 (by decide) ?_
  refine j_iload_n (pc := 171) (i := 1) (g := 1) C dX11_init_171 rfl rfl ?_
  refine j_iconst (pc := 172) C dX11_init_172 ?_
  refine j_icmp_ge (pc := 173) (tgt := 195) C dX11_init_173 (by decide) (show inI 1 from inIb_of rfl) (show inI 3 from inIb_of rfl) (fun hq => absurd hq (by decide)) (fun _ => ?_)
  refine j_aload_n (pc := 176) (i := 0) (g := 0) C dX11_init_176 rfl rfl ?_
  refine j_getR (pc := 177) (a := 0) (r := 142) C fl_BandPark_63 (by rw [sh_0]) (by rw [sh_0]) (by omega) (by simp (disch := omega) only [GP_Tune, GP_Band, GP_Evenings, GP_Tray, GP_Park, GP_Sound, GP_Tape, GP_Stage, GP_ParkReader, GP_EveningsReader, GP_Search, mzP_oth, upr_oth, upP_oth, upr_hit]) dX11_init_177 ?_
  refine j_iload_n (pc := 180) (i := 1) (g := 1) C dX11_init_180 rfl rfl ?_
  refine j_new (pc := 181) (N := 181) C ci_Park cl_BandPark_61 (by rw [sh_181]) (by rw [sh_181]) (by omega) dX11_init_181 ?_
  refine j_dup (pc := 184) C dX11_init_184 rfl ?_
  refine j_callI (pc := 185) (N := 182) (N' := 210) (As := []) C (mc_Park 181 sh_181 sh_182 sh_183 sh_184 sh_185 sh_186 sh_187 sh_188 sh_189 sh_190 sh_191 sh_192 sh_193 sh_194 sh_195 sh_196 sh_197 sh_198 sh_199 sh_200 sh_201 sh_202 sh_203 sh_204 sh_205 sh_206 sh_207 sh_208 sh_209 _ _) yc_Park rfl ym_Park yl_BandPark_96 (by omega) rfl rfl (by omega) (by omega) (by simp only [dep_i, dep_r]; decide) dX11_init_185 ?_
  refine j_aast (pc := 188) (a := 142) (v := 181) (i := 1) (t := 5) (ci := 3) C (by rw [sh_142]) (by rw [sh_142]) (by omega) (by rw [sh_181]) (by rw [sh_181]) (by omega) rfl (fun _ => rfl) (show inI 1 from inIb_of rfl) (by decide) (by rw [sh_142]; decide) dX11_init_188 ?_
  refine j_iinc (pc := 189) (i := 1) (g := 1) C dX11_init_189 rfl (by decide) ?_
  refine j_sub (Γ2 := [(0, 2), (1, 0)]) C (by decide) ?_
  rw [show (([0, 1] : List Int).set 1 (wI (([0, 1] : List Int).getD 1 0 + 1))) = [0, 2] from by decide]
  refine j_goto (pc := 192) (tgt := 171) C dX11_init_192 (by decide) ?_
  refine j_iload_n (pc := 171) (i := 1) (g := 1) C dX11_init_171 rfl rfl ?_
  refine j_iconst (pc := 172) C dX11_init_172 ?_
  refine j_icmp_ge (pc := 173) (tgt := 195) C dX11_init_173 (by decide) (show inI 2 from inIb_of rfl) (show inI 3 from inIb_of rfl) (fun hq => absurd hq (by decide)) (fun _ => ?_)
  refine j_aload_n (pc := 176) (i := 0) (g := 0) C dX11_init_176 rfl rfl ?_
  refine j_getR (pc := 177) (a := 0) (r := 142) C fl_BandPark_63 (by rw [sh_0]) (by rw [sh_0]) (by omega) (by simp (disch := omega) only [GP_Tune, GP_Band, GP_Evenings, GP_Tray, GP_Park, GP_Sound, GP_Tape, GP_Stage, GP_ParkReader, GP_EveningsReader, GP_Search, mzP_oth, upr_oth, upP_oth, upr_hit]) dX11_init_177 ?_
  refine j_iload_n (pc := 180) (i := 1) (g := 1) C dX11_init_180 rfl rfl ?_
  refine j_new (pc := 181) (N := 210) C ci_Park cl_BandPark_61 (by rw [sh_210]) (by rw [sh_210]) (by omega) dX11_init_181 ?_
  refine j_dup (pc := 184) C dX11_init_184 rfl ?_
  refine j_callI (pc := 185) (N := 211) (N' := 239) (As := []) C (mc_Park 210 sh_210 sh_211 sh_212 sh_213 sh_214 sh_215 sh_216 sh_217 sh_218 sh_219 sh_220 sh_221 sh_222 sh_223 sh_224 sh_225 sh_226 sh_227 sh_228 sh_229 sh_230 sh_231 sh_232 sh_233 sh_234 sh_235 sh_236 sh_237 sh_238 _ _) yc_Park rfl ym_Park yl_BandPark_96 (by omega) rfl rfl (by omega) (by omega) (by simp only [dep_i, dep_r]; decide) dX11_init_185 ?_
  refine j_aast (pc := 188) (a := 142) (v := 210) (i := 2) (t := 5) (ci := 3) C (by rw [sh_142]) (by rw [sh_142]) (by omega) (by rw [sh_210]) (by rw [sh_210]) (by omega) rfl (fun _ => rfl) (show inI 2 from inIb_of rfl) (by decide) (by rw [sh_142]; decide) dX11_init_188 ?_
  refine j_iinc (pc := 189) (i := 1) (g := 1) C dX11_init_189 rfl (by decide) ?_
  refine j_sub (Γ2 := [(0, 2), (1, 0)]) C (by decide) ?_
  rw [show (([0, 2] : List Int).set 1 (wI (([0, 2] : List Int).getD 1 0 + 1))) = [0, 3] from by decide]
  refine j_goto (pc := 192) (tgt := 171) C dX11_init_192 (by decide) ?_
  refine j_iload_n (pc := 171) (i := 1) (g := 1) C dX11_init_171 rfl rfl ?_
  refine j_iconst (pc := 172) C dX11_init_172 ?_
  refine j_icmp_ge (pc := 173) (tgt := 195) C dX11_init_173 (by decide) (show inI 3 from inIb_of rfl) (show inI 3 from inIb_of rfl) (fun _ => ?_) (fun hq => absurd (by decide) hq)
  exact X 195 _ _ _ dX11_init_195
