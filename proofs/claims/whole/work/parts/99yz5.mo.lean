/-! BandParkModel() -/
theorem oi_BandParkModel : Cond.methodLink RX12 1 objectInit ∈ gtb := (gq_7 11 (by decide +kernel) rfl)
set_option maxRecDepth 20000 in
theorem yc_BandParkModel : YW yX12_init cX12_init 2 none 0 := ⟨(gq_7 10 rfl rfl), (gq_1 17 (by decide +kernel) rfl), by decide +kernel, by decide⟩
theorem ym_BandParkModel : Cond.instanceMethod yX12_init ∈ gtb := (gq_7 9 (by decide +kernel) rfl)
theorem fr_BandParkModel_13 : FR RX12 13 12 4 := ⟨RX12, TX12, 45, tyX12, rfl, by decide, in_X12, (gq_7 20 (by decide +kernel) rfl), rfl, rfl, tyX12_ok, nmX12, rfl, rfl, (Or.inr ⟨_, rfl⟩)⟩
theorem fr_BandParkModel_17 : FR RX12 17 12 5 := ⟨RX12, TX12, 45, tyX12, rfl, by decide, in_X12, (gq_7 21 (by decide +kernel) rfl), rfl, rfl, tyX12_ok, nmX12, rfl, rfl, (Or.inr ⟨_, rfl⟩)⟩
theorem fr_BandParkModel_20 : FR RX12 20 12 6 := ⟨RX12, TX12, 45, tyX12, rfl, by decide, in_X12, (gq_7 22 (by decide +kernel) rfl), rfl, rfl, tyX12_ok, nmX12, rfl, rfl, (Or.inr ⟨_, rfl⟩)⟩
theorem fr_BandParkModel_24 : FR RX12 24 12 7 := ⟨RX12, TX12, 45, tyX12, rfl, by decide, in_X12, (gq_7 23 (by decide +kernel) rfl), rfl, rfl, tyX12_ok, nmX12, rfl, rfl, (Or.inr ⟨_, rfl⟩)⟩
theorem fr_BandParkModel_35 : FR RX12 35 12 20 := ⟨RX12, TX12, 45, tyX12, rfl, by decide, in_X12, (gq_7 36 (by decide +kernel) rfl), rfl, rfl, tyX12_ok, nmX12, rfl, rfl, (Or.inr ⟨_, rfl⟩)⟩
theorem fr_BandParkModel_38 : FR RX12 38 12 21 := ⟨RX12, TX12, 45, tyX12, rfl, by decide, in_X12, (gq_7 37 (by decide +kernel) rfl), rfl, rfl, tyX12_ok, nmX12, rfl, rfl, (Or.inr ⟨_, rfl⟩)⟩
theorem fr_BandParkModel_41 : FR RX12 41 12 22 := ⟨RX12, TX12, 45, tyX12, rfl, by decide, in_X12, (gq_7 38 (by decide +kernel) rfl), rfl, rfl, tyX12_ok, nmX12, rfl, rfl, (Or.inr ⟨_, rfl⟩)⟩
theorem fr_BandParkModel_44 : FR RX12 44 12 23 := ⟨RX12, TX12, 45, tyX12, rfl, by decide, in_X12, (gq_7 39 (by decide +kernel) rfl), rfl, rfl, tyX12_ok, nmX12, rfl, rfl, (Or.inr ⟨_, rfl⟩)⟩
theorem fr_BandParkModel_47 : FR RX12 47 12 27 := ⟨RX12, TX12, 45, tyX12, rfl, by decide, in_X12, (gq_7 43 (by decide +kernel) rfl), rfl, rfl, tyX12_ok, nmX12, rfl, rfl, (Or.inr ⟨_, rfl⟩)⟩
theorem fr_BandParkModel_50 : FR RX12 50 12 28 := ⟨RX12, TX12, 45, tyX12, rfl, by decide, in_X12, (gq_7 44 (by decide +kernel) rfl), rfl, rfl, tyX12_ok, nmX12, rfl, rfl, (Or.inr ⟨_, rfl⟩)⟩
theorem fr_BandParkModel_53 : FR RX12 53 12 32 := ⟨RX12, TX12, 45, tyX12, rfl, by decide, in_X12, (gq_7 48 (by decide +kernel) rfl), rfl, rfl, tyX12_ok, nmX12, rfl, rfl, (Or.inr ⟨_, rfl⟩)⟩
theorem fr_BandParkModel_56 : FR RX12 56 12 33 := ⟨RX12, TX12, 45, tyX12, rfl, by decide, in_X12, (gq_7 49 (by decide +kernel) rfl), rfl, rfl, tyX12_ok, nmX12, rfl, rfl, (Or.inr ⟨_, rfl⟩)⟩
theorem fr_BandParkModel_59 : FR RX12 59 12 34 := ⟨RX12, TX12, 45, tyX12, rfl, by decide, in_X12, (gq_7 50 (by decide +kernel) rfl), rfl, rfl, tyX12_ok, nmX12, rfl, rfl, (Or.inr ⟨_, rfl⟩)⟩
theorem fr_BandParkModel_62 : FR RX12 62 12 35 := ⟨RX12, TX12, 45, tyX12, rfl, by decide, in_X12, (gq_7 51 (by decide +kernel) rfl), rfl, rfl, tyX12_ok, nmX12, rfl, rfl, (Or.inr ⟨_, rfl⟩)⟩
def GS_Model (σ : SS) : SS := (ups (ups (ups (ups (upA (upA (upA (upA (upA (upA (upA (upA (upA (upA (ups (ups (upA (upA (upA (upA (ups σ 239 3 1) 240 (fun _ => 0)) 241 (fun _ => 0)) 242 (fun _ => 0)) 243 (fun _ => 0)) 239 10 (-1)) 239 11 (-1)) 244 (fun _ => 0)) 245 (fun _ => 0)) 246 (fun _ => 0)) 247 (fun _ => 0)) 248 (fun _ => 0)) 249 (fun _ => 0)) 250 (fun _ => 0)) 251 (fun _ => 0)) 252 (fun _ => 0)) 253 (fun _ => 0)) 241 0 (-1)) 241 1 (-1)) 241 2 (-1)) 241 3 (-1))
def GP_Model (ρ : PP) : PP := (upr (upP (upr (upP (upr (upP (upr (upP (upr (upP (upr (upP (upr (upP (upr (upP (upr (upP (upr (upP (upr (upP (upr (upP (upr (upP (upr (upP ρ 240 (fun _ => none)) 239 4 (some 240)) 241 (fun _ => none)) 239 5 (some 241)) 242 (fun _ => none)) 239 6 (some 242)) 243 (fun _ => none)) 239 7 (some 243)) 244 (fun _ => none)) 239 20 (some 244)) 245 (fun _ => none)) 239 21 (some 245)) 246 (fun _ => none)) 239 22 (some 246)) 247 (fun _ => none)) 239 23 (some 247)) 248 (fun _ => none)) 239 27 (some 248)) 249 (fun _ => none)) 239 28 (some 249)) 250 (fun _ => none)) 239 32 (some 250)) 251 (fun _ => none)) 239 33 (some 251)) 252 (fun _ => none)) 239 34 (some 252)) 253 (fun _ => none)) 239 35 (some 253))
set_option maxRecDepth 20000 in
set_option maxHeartbeats 16000000 in
theorem mo_rows {l : Launch} {b : Nat} {V : V2} {σ : SS} {ρ : PP} (C : Ctx2 l b V cX12_init RX12 2 2 240 254) (X : V 153 [(0, 2), (1, 0)] (([0, 4], [239, 0], GS_Model σ, GP_Model ρ, 254) : Z2) []) : V 0 [(0, 2)] (([0, 0], [239, 0], σ, ρ, 240) : Z2) [] := by
  refine j_aload_n (pc := 0) (i := 0) (g := 0) C dX12_init_0 rfl rfl ?_
  refine j_objInit (pc := 1) C oi_BandParkModel oi_w (by omega) (by decide) dX12_init_1 ?_
  refine j_aload_n (pc := 4) (i := 0) (g := 0) C dX12_init_4 rfl rfl ?_
  refine j_lconst (pc := 5) (x := 1) C dX12_init_5 (by decide +kernel) ?_
  refine j_putI (pc := 6) (a := 239) (kn := 1) (x := 1) C pl_BandParkModel_7 (by rw [sh_239]) (by rw [sh_239]) (by omega) (Or.inr (Or.inl rfl)) (show inL 1 from inLb_of rfl) dX12_init_6 ?_
  refine j_aload_n (pc := 9) (i := 0) (g := 0) C dX12_init_9 rfl rfl ?_
  refine j_iconst (pc := 10) C dX12_init_10 ?_
  refine j_newaInt (pc := 11) (N := 240) C aw_int (by rw [sh_240]) (by rw [sh_240]; rfl) (by decide) (by omega) dX12_init_11 ?_
  refine j_putR (pc := 13) (a := 239) (r := 240) C fr_BandParkModel_13 (by rw [sh_239]) (by rw [sh_239]) (by omega) (by decide +kernel) dX12_init_13 ?_
  refine j_aload_n (pc := 16) (i := 0) (g := 0) C dX12_init_16 rfl rfl ?_
  refine j_iconst (pc := 17) C dX12_init_17 ?_
  refine j_newaInt (pc := 18) (N := 241) C aw_int (by rw [sh_241]) (by rw [sh_241]; rfl) (by decide) (by omega) dX12_init_18 ?_
  refine j_putR (pc := 20) (a := 239) (r := 241) C fr_BandParkModel_17 (by rw [sh_239]) (by rw [sh_239]) (by omega) (by decide +kernel) dX12_init_20 ?_
  refine j_aload_n (pc := 23) (i := 0) (g := 0) C dX12_init_23 rfl rfl ?_
  refine j_sipush (pc := 24) C dX12_init_24 rfl ?_
  refine j_newaLong (pc := 27) (N := 242) C aw_long (by rw [sh_242]) (by rw [sh_242]; rfl) (by decide) (by omega) dX12_init_27 ?_
  refine j_putR (pc := 29) (a := 239) (r := 242) C fr_BandParkModel_20 (by rw [sh_239]) (by rw [sh_239]) (by omega) (by decide +kernel) dX12_init_29 ?_
  refine j_aload_n (pc := 32) (i := 0) (g := 0) C dX12_init_32 rfl rfl ?_
  refine j_sipush (pc := 33) C dX12_init_33 rfl ?_
  refine j_newaByte (pc := 36) (N := 243) C aw_byte (by rw [sh_243]) (by rw [sh_243]; rfl) (by decide) (by omega) dX12_init_36 ?_
  refine j_putR (pc := 38) (a := 239) (r := 243) C fr_BandParkModel_24 (by rw [sh_239]) (by rw [sh_239]) (by omega) (by decide +kernel) dX12_init_38 ?_
  refine j_aload_n (pc := 41) (i := 0) (g := 0) C dX12_init_41 rfl rfl ?_
  refine j_iconst (pc := 42) C dX12_init_42 ?_
  refine j_putI (pc := 43) (a := 239) (kn := 0) (x := (-1)) C pl_BandParkModel_28 (by rw [sh_239]) (by rw [sh_239]) (by omega) (Or.inl rfl) (show inI (-1) from inIb_of rfl) dX12_init_43 ?_
  refine j_aload_n (pc := 46) (i := 0) (g := 0) C dX12_init_46 rfl rfl ?_
  refine j_iconst (pc := 47) C dX12_init_47 ?_
  refine j_putI (pc := 48) (a := 239) (kn := 0) (x := (-1)) C pl_BandParkModel_32 (by rw [sh_239]) (by rw [sh_239]) (by omega) (Or.inl rfl) (show inI (-1) from inIb_of rfl) dX12_init_48 ?_
  refine j_aload_n (pc := 51) (i := 0) (g := 0) C dX12_init_51 rfl rfl ?_
  refine j_sipush (pc := 52) C dX12_init_52 rfl ?_
  refine j_newaInt (pc := 55) (N := 244) C aw_int (by rw [sh_244]) (by rw [sh_244]; rfl) (by decide) (by omega) dX12_init_55 ?_
  refine j_putR (pc := 57) (a := 239) (r := 244) C fr_BandParkModel_35 (by rw [sh_239]) (by rw [sh_239]) (by omega) (by decide +kernel) dX12_init_57 ?_
  refine j_aload_n (pc := 60) (i := 0) (g := 0) C dX12_init_60 rfl rfl ?_
  refine j_sipush (pc := 61) C dX12_init_61 rfl ?_
  refine j_newaInt (pc := 64) (N := 245) C aw_int (by rw [sh_245]) (by rw [sh_245]; rfl) (by decide) (by omega) dX12_init_64 ?_
  refine j_putR (pc := 66) (a := 239) (r := 245) C fr_BandParkModel_38 (by rw [sh_239]) (by rw [sh_239]) (by omega) (by decide +kernel) dX12_init_66 ?_
  refine j_aload_n (pc := 69) (i := 0) (g := 0) C dX12_init_69 rfl rfl ?_
  refine j_sipush (pc := 70) C dX12_init_70 rfl ?_
  refine j_newaInt (pc := 73) (N := 246) C aw_int (by rw [sh_246]) (by rw [sh_246]; rfl) (by decide) (by omega) dX12_init_73 ?_
  refine j_putR (pc := 75) (a := 239) (r := 246) C fr_BandParkModel_41 (by rw [sh_239]) (by rw [sh_239]) (by omega) (by decide +kernel) dX12_init_75 ?_
  refine j_aload_n (pc := 78) (i := 0) (g := 0) C dX12_init_78 rfl rfl ?_
  refine j_bipush (pc := 79) C dX12_init_79 rfl ?_
  refine j_newaLong (pc := 81) (N := 247) C aw_long (by rw [sh_247]) (by rw [sh_247]; rfl) (by decide) (by omega) dX12_init_81 ?_
  refine j_putR (pc := 83) (a := 239) (r := 247) C fr_BandParkModel_44 (by rw [sh_239]) (by rw [sh_239]) (by omega) (by decide +kernel) dX12_init_83 ?_
  refine j_aload_n (pc := 86) (i := 0) (g := 0) C dX12_init_86 rfl rfl ?_
  refine j_bipush (pc := 87) C dX12_init_87 rfl ?_
  refine j_newaInt (pc := 89) (N := 248) C aw_int (by rw [sh_248]) (by rw [sh_248]; rfl) (by decide) (by omega) dX12_init_89 ?_
  refine j_putR (pc := 91) (a := 239) (r := 248) C fr_BandParkModel_47 (by rw [sh_239]) (by rw [sh_239]) (by omega) (by decide +kernel) dX12_init_91 ?_
  refine j_aload_n (pc := 94) (i := 0) (g := 0) C dX12_init_94 rfl rfl ?_
  refine j_bipush (pc := 95) C dX12_init_95 rfl ?_
  refine j_newaInt (pc := 97) (N := 249) C aw_int (by rw [sh_249]) (by rw [sh_249]; rfl) (by decide) (by omega) dX12_init_97 ?_
  refine j_putR (pc := 99) (a := 239) (r := 249) C fr_BandParkModel_50 (by rw [sh_239]) (by rw [sh_239]) (by omega) (by decide +kernel) dX12_init_99 ?_
  refine j_aload_n (pc := 102) (i := 0) (g := 0) C dX12_init_102 rfl rfl ?_
  refine j_bipush (pc := 103) C dX12_init_103 rfl ?_
  refine j_newaInt (pc := 105) (N := 250) C aw_int (by rw [sh_250]) (by rw [sh_250]; rfl) (by decide) (by omega) dX12_init_105 ?_
  refine j_putR (pc := 107) (a := 239) (r := 250) C fr_BandParkModel_53 (by rw [sh_239]) (by rw [sh_239]) (by omega) (by decide +kernel) dX12_init_107 ?_
  refine j_aload_n (pc := 110) (i := 0) (g := 0) C dX12_init_110 rfl rfl ?_
  refine j_bipush (pc := 111) C dX12_init_111 rfl ?_
  refine j_newaInt (pc := 113) (N := 251) C aw_int (by rw [sh_251]) (by rw [sh_251]; rfl) (by decide) (by omega) dX12_init_113 ?_
  refine j_putR (pc := 115) (a := 239) (r := 251) C fr_BandParkModel_56 (by rw [sh_239]) (by rw [sh_239]) (by omega) (by decide +kernel) dX12_init_115 ?_
  refine j_aload_n (pc := 118) (i := 0) (g := 0) C dX12_init_118 rfl rfl ?_
  refine j_bipush (pc := 119) C dX12_init_119 rfl ?_
  refine j_newaLong (pc := 121) (N := 252) C aw_long (by rw [sh_252]) (by rw [sh_252]; rfl) (by decide) (by omega) dX12_init_121 ?_
  refine j_putR (pc := 123) (a := 239) (r := 252) C fr_BandParkModel_59 (by rw [sh_239]) (by rw [sh_239]) (by omega) (by decide +kernel) dX12_init_123 ?_
  refine j_aload_n (pc := 126) (i := 0) (g := 0) C dX12_init_126 rfl rfl ?_
  refine j_iconst (pc := 127) C dX12_init_127 ?_
  refine j_newaInt (pc := 128) (N := 253) C aw_int (by rw [sh_253]) (by rw [sh_253]; rfl) (by decide) (by omega) dX12_init_128 ?_
  refine j_putR (pc := 130) (a := 239) (r := 253) C fr_BandParkModel_62 (by rw [sh_239]) (by rw [sh_239]) (by omega) (by decide +kernel) dX12_init_130 ?_
  refine j_iconst (pc := 133) C dX12_init_133 ?_
  refine j_istore_n (pc := 134) (i := 1) C dX12_init_134 rfl (by decide) (show inI 0 from inIb_of rfl) ?_
  refine j_sub (Γ2 := [(0, 2), (1, 0)]) C (by decide) ?_
  rw [show (([0, 0] : List Int).set 1 0) = [0, 0] from by decide]
  refine j_iload_n (pc := 135) (i := 1) (g := 1) C dX12_init_135 rfl rfl ?_
  refine j_iconst (pc := 136) C dX12_init_136 ?_
  refine j_icmp_ge (pc := 137) (tgt := 153) C dX12_init_137 (by decide) (show inI 0 from inIb_of rfl) (show inI 4 from inIb_of rfl) (fun hq => absurd hq (by decide)) (fun _ => ?_)
  refine j_aload_n (pc := 140) (i := 0) (g := 0) C dX12_init_140 rfl rfl ?_
  refine j_getR (pc := 141) (a := 239) (r := 241) C fl_BandParkModel_17 (by rw [sh_239]) (by rw [sh_239]) (by omega) (by simp (disch := omega) only [GP_Tune, GP_Band, GP_Evenings, GP_Tray, GP_Park, GP_Sound, GP_Tape, GP_Stage, GP_ParkReader, GP_EveningsReader, GP_Search, mzP_oth, upr_oth, upP_oth, upr_hit]) dX12_init_141 ?_
  refine j_iload_n (pc := 144) (i := 1) (g := 1) C dX12_init_144 rfl rfl ?_
  refine j_iconst (pc := 145) C dX12_init_145 ?_
  refine j_iast (pc := 146) (a := 241) (i := 0) (x := (-1)) C (by rw [sh_241]) (by omega) (show inI 0 from inIb_of rfl) (by decide) (by rw [sh_241]; decide) (show inI (-1) from inIb_of rfl) dX12_init_146 ?_
  refine j_iinc (pc := 147) (i := 1) (g := 1) C dX12_init_147 rfl (by decide) ?_
  refine j_sub (Γ2 := [(0, 2), (1, 0)]) C (by decide) ?_
  rw [show (([0, 0] : List Int).set 1 (wI (([0, 0] : List Int).getD 1 0 + 1))) = [0, 1] from by decide]
  refine j_goto (pc := 150) (tgt := 135) C dX12_init_150 (by decide) ?_
  refine j_iload_n (pc := 135) (i := 1) (g := 1) C dX12_init_135 rfl rfl ?_
  refine j_iconst (pc := 136) C dX12_init_136 ?_
  refine j_icmp_ge (pc := 137) (tgt := 153) C dX12_init_137 (by decide) (show inI 1 from inIb_of rfl) (show inI 4 from inIb_of rfl) (fun hq => absurd hq (by decide)) (fun _ => ?_)
  refine j_aload_n (pc := 140) (i := 0) (g := 0) C dX12_init_140 rfl rfl ?_
  refine j_getR (pc := 141) (a := 239) (r := 241) C fl_BandParkModel_17 (by rw [sh_239]) (by rw [sh_239]) (by omega) (by simp (disch := omega) only [GP_Tune, GP_Band, GP_Evenings, GP_Tray, GP_Park, GP_Sound, GP_Tape, GP_Stage, GP_ParkReader, GP_EveningsReader, GP_Search, mzP_oth, upr_oth, upP_oth, upr_hit]) dX12_init_141 ?_
  refine j_iload_n (pc := 144) (i := 1) (g := 1) C dX12_init_144 rfl rfl ?_
  refine j_iconst (pc := 145) C dX12_init_145 ?_
  refine j_iast (pc := 146) (a := 241) (i := 1) (x := (-1)) C (by rw [sh_241]) (by omega) (show inI 1 from inIb_of rfl) (by decide) (by rw [sh_241]; decide) (show inI (-1) from inIb_of rfl) dX12_init_146 ?_
  refine j_iinc (pc := 147) (i := 1) (g := 1) C dX12_init_147 rfl (by decide) ?_
  refine j_sub (Γ2 := [(0, 2), (1, 0)]) C (by decide) ?_
  rw [show (([0, 1] : List Int).set 1 (wI (([0, 1] : List Int).getD 1 0 + 1))) = [0, 2] from by decide]
  refine j_goto (pc := 150) (tgt := 135) C dX12_init_150 (by decide) ?_
  refine j_iload_n (pc := 135) (i := 1) (g := 1) C dX12_init_135 rfl rfl ?_
  refine j_iconst (pc := 136) C dX12_init_136 ?_
  refine j_icmp_ge (pc := 137) (tgt := 153) C dX12_init_137 (by decide) (show inI 2 from inIb_of rfl) (show inI 4 from inIb_of rfl) (fun hq => absurd hq (by decide)) (fun _ => ?_)
  refine j_aload_n (pc := 140) (i := 0) (g := 0) C dX12_init_140 rfl rfl ?_
  refine j_getR (pc := 141) (a := 239) (r := 241) C fl_BandParkModel_17 (by rw [sh_239]) (by rw [sh_239]) (by omega) (by simp (disch := omega) only [GP_Tune, GP_Band, GP_Evenings, GP_Tray, GP_Park, GP_Sound, GP_Tape, GP_Stage, GP_ParkReader, GP_EveningsReader, GP_Search, mzP_oth, upr_oth, upP_oth, upr_hit]) dX12_init_141 ?_
  refine j_iload_n (pc := 144) (i := 1) (g := 1) C dX12_init_144 rfl rfl ?_
  refine j_iconst (pc := 145) C dX12_init_145 ?_
  refine j_iast (pc := 146) (a := 241) (i := 2) (x := (-1)) C (by rw [sh_241]) (by omega) (show inI 2 from inIb_of rfl) (by decide) (by rw [sh_241]; decide) (show inI (-1) from inIb_of rfl) dX12_init_146 ?_
  refine j_iinc (pc := 147) (i := 1) (g := 1) C dX12_init_147 rfl (by decide) ?_
  refine j_sub (Γ2 := [(0, 2), (1, 0)]) C (by decide) ?_
  rw [show (([0, 2] : List Int).set 1 (wI (([0, 2] : List Int).getD 1 0 + 1))) = [0, 3] from by decide]
  refine j_goto (pc := 150) (tgt := 135) C dX12_init_150 (by decide) ?_
  refine j_iload_n (pc := 135) (i := 1) (g := 1) C dX12_init_135 rfl rfl ?_
  refine j_iconst (pc := 136) C dX12_init_136 ?_
  refine j_icmp_ge (pc := 137) (tgt := 153) C dX12_init_137 (by decide) (show inI 3 from inIb_of rfl) (show inI 4 from inIb_of rfl) (fun hq => absurd hq (by decide)) (fun _ => ?_)
  refine j_aload_n (pc := 140) (i := 0) (g := 0) C dX12_init_140 rfl rfl ?_
  refine j_getR (pc := 141) (a := 239) (r := 241) C fl_BandParkModel_17 (by rw [sh_239]) (by rw [sh_239]) (by omega) (by simp (disch := omega) only [GP_Tune, GP_Band, GP_Evenings, GP_Tray, GP_Park, GP_Sound, GP_Tape, GP_Stage, GP_ParkReader, GP_EveningsReader, GP_Search, mzP_oth, upr_oth, upP_oth, upr_hit]) dX12_init_141 ?_
  refine j_iload_n (pc := 144) (i := 1) (g := 1) C dX12_init_144 rfl rfl ?_
  refine j_iconst (pc := 145) C dX12_init_145 ?_
  refine j_iast (pc := 146) (a := 241) (i := 3) (x := (-1)) C (by rw [sh_241]) (by omega) (show inI 3 from inIb_of rfl) (by decide) (by rw [sh_241]; decide) (show inI (-1) from inIb_of rfl) dX12_init_146 ?_
  refine j_iinc (pc := 147) (i := 1) (g := 1) C dX12_init_147 rfl (by decide) ?_
  refine j_sub (Γ2 := [(0, 2), (1, 0)]) C (by decide) ?_
  rw [show (([0, 3] : List Int).set 1 (wI (([0, 3] : List Int).getD 1 0 + 1))) = [0, 4] from by decide]
  refine j_goto (pc := 150) (tgt := 135) C dX12_init_150 (by decide) ?_
  refine j_iload_n (pc := 135) (i := 1) (g := 1) C dX12_init_135 rfl rfl ?_
  refine j_iconst (pc := 136) C dX12_init_136 ?_
  refine j_icmp_ge (pc := 137) (tgt := 153) C dX12_init_137 (by decide) (show inI 4 from inIb_of rfl) (show inI 4 from inIb_of rfl) (fun _ => ?_) (fun hq => absurd (by decide) hq)
  exact X
/-- every reference stands as in the table -/
def RfK (ρ : PP) : Prop := ∀ a, a < 254 → ∀ k, k < 60 → ((sh a).1 = 1 → (fkX (sh a).2.1)[k]? = some 2 → ρ a k = some (rf a k)) ∧ ((sh a).1 = 6 → k < (sh a).2.2 → ρ a k = some (rf a k))
set_option maxRecDepth 20000 in
theorem sh_bnd : ∀ a, a < 254 → (fkX (sh a).2.1).length ≤ 60 ∧ (∀ kd ∈ fkX (sh a).2.1, kd ≤ 3) ∧ ((sh a).1 = 6 → (sh a).2.2 ≤ 60) := by decide +kernel
set_option maxRecDepth 20000 in
theorem shT_len : shT.length = 254 := by decide +kernel
theorem Hp_of2 {D : va_G} {tc : Nat → ClassId} {b : Nat} {σ : SS} {ρ : PP} {H : Heap} (hρ : RfK ρ) (h : Hp2 D tc b σ ρ 254 H) : Hp D tc b σ H := by
  intro a e he
  by_cases ha : a < 254
  · obtain ⟨n1, n2, n3⟩ := sh_bnd a ha
    by_cases h1 : (sh a).1 = 1
    · have q := h.2 a _ ha (cE2_obj h1 rfl)
      have e1 : cE tc b σ a = some (.inr ((sh a).2.1, (fkX (sh a).2.1).mapIdx fun k kd => vK b kd (σ a k) (rf a k))) := cE_obj h1 rfl
      rw [e1] at he
      cases he
      have e2 : ((fkX (sh a).2.1).mapIdx fun k kd => if kd = 2 then rv b (ρ a k) else vK b kd (σ a k) 0) = (fkX (sh a).2.1).mapIdx fun k kd => vK b kd (σ a k) (rf a k) := by
        apply List.ext_getElem?
        intro k
        rw [List.getElem?_mapIdx, List.getElem?_mapIdx]
        cases hk : (fkX (sh a).2.1)[k]? with
        | none => rfl
        | some kd =>
          have k60 : k < 60 := Nat.lt_of_lt_of_le (List.getElem?_eq_some_iff.mp hk).1 n1
          have kd3 : kd ≤ 3 := n2 kd (List.mem_of_getElem? hk)
          show some _ = some _
          congr 1
          have c : kd = 0 ∨ kd = 1 ∨ kd = 2 ∨ kd = 3 := by omega
          rcases c with c | c | c | c
          · subst c; rfl
          · subst c; rfl
          · subst c
            show rv b (ρ a k) = _
            rw [(hρ a ha k k60).1 h1 hk]
            rfl
          · subst c; rfl
      rw [e2] at q
      exact q
    · by_cases h6 : (sh a).1 = 6
      · have q := h.2 a _ ha (cE2_ref h6 rfl)
        have e1 : cE tc b σ a = some (.inl (tc (sh a).2.1, (sh a).2.2, .inr (.inr (.inr (.inr fun j => some (b + rf a j)))))) := by
          unfold cE
          rw [h6]
          rfl
        rw [e1] at he
        cases he
        have q' : H[b + a]? = some (vp_cell (tc (sh a).2.1) ((sh a).2.2, .inr (.inr (.inr (.inr fun j => (ρ a j).map fun r => b + r))))) := q
        show H[b + a]? = some (vp_cell (tc (sh a).2.1) ((sh a).2.2, .inr (.inr (.inr (.inr fun j => some (b + rf a j))))))
        rw [q', vp_cell_q, vp_cell_q]
        refine congrArg some (arrV_ext (fun j hj => ?_))
        rw [(hρ a ha j (by have := n3 h6; omega)).2 h6 hj]
        rfl
      · refine h.2 a e ha ?_
        unfold cE2
        rw [if_neg h1, if_neg h6]
        exact he
  · have z : (sh a).1 = 0 := by
      unfold sh
      rw [List.getD_eq_getElem?_getD, List.getElem?_eq_none (by rw [shT_len]; omega)]
      rfl
    have e1 : cE tc b σ a = none := by
      unfold cE
      rw [z]
      rfl
    rw [e1] at he
    cases he
def Mt3 (l : Launch) (y : MethodName) (cc : ByteArray) (nL h N0 N1 : Nat) (vs : Nat → List Value) (σ : SS) (ρ : PP) (σ' : SS) : Prop :=
  ∀ (D : va_G) (tc : Nat → ClassId) (b : Nat) (ad : Nat × Nat), Met l y (.code y cc nL none :: gtb) (rm2 h N0 N1) (va_Pc (vs b) (Mp2 D tc b ad σ ρ N0)) (fun _ s0 o t => o = .returned none ∧ (okS σ' ∧ Hp D tc b σ' t.heap) ∧ va_F (BB b) s0 t) (N1 - N0) (szN N1 - szN N0) (BB b)
theorem mo_gen {l : Launch} {σ σ' : SS} {ρ : PP} {r : Int} {N0 N1 : Nat} (rows : ∀ {b : Nat} {V : V2}, Ctx2 l b V cX12_init RX12 2 2 N0 N1 → V 153 [(0, 2), (1, 0)] (([0, 4], [239, 0], GS_Model σ, GP_Model ρ, N1) : Z2) [] → V 0 [(0, 2)] (([0, 0], [239, 0], σ, ρ, N0) : Z2) []) (hof : ∀ {D : va_G} {tc : Nat → ClassId} {b : Nat} {H : Heap}, Hp2 D tc b (GS_Model σ) (GP_Model ρ) N1 H → Hp D tc b (GS_Model σ) H) (hF : F_X12_empties 239 0 (GS_Model σ) = some (r, σ')) : Mt3 l yX12_init cX12_init 2 2 N0 N1 (fun b => [.ref (b + 239)]) σ ρ σ' := by
  intro D tc b ad
  refine Met.ofW (cc := cX12_init) (maxL := 2) (ret := none) (by decide +kernel) rfl ?_
  intro p e s m args below meth c s₁ B hml hv
  obtain ⟨rfl, okσ, hK, hE, hXX, hH⟩ := hv
  have hx := B.exec
  have hb := B.bytes
  have hr := B.returns
  have hts0 := atoms_spec (ws := Cond.code yX12_init cX12_init 2 none :: gtb) B.pre
  have hts : ∀ w ∈ gtb, w.before ([.ref (b + 239)] : List Value).toArray s = true := fun w hw => hts0 w (List.mem_cons_of_mem _ hw)
  have hown : s.vm.findClass RX12 = some m.cls := findClass_of_methodNamed B.named
  have hin : meth.name = "<init>" := (name_of_methodNamed B.named B.method).1
  have hlocks := B.notSynchronized
  have hl := lv_entry [.ref (b + 239)] (n := 2) (Nat.le_of_ble_eq_true rfl)
  rw [lg_entry_eq]
  generalize (lg_sl [Value.ref (b + 239)] ++ List.replicate (2 - (lg_sl [Value.ref (b + 239)]).length) Slot.unset).toArray = ls at hl ⊢
  have hl0 : lv_has ls 2 (lvG b [(0, 2)] (([0, 0], [239, 0], σ) : ZZ)) := hl
  have K := rows (V := At2 p l e (headSpec (Cond.code yX12_init cX12_init 2 none :: gtb) (rm2 2 N0 N1)).room s m ([.ref (b + 239)] : List Value).toArray below meth c (MQ below (fun _ s0 o t => o = .returned none ∧ (okS σ' ∧ Hp D tc b σ' t.heap) ∧ va_F (BB b) s0 t) ([.ref (b + 239)] : List Value).toArray s (N1 - N0) (szN N1 - szN N0) (BB b)) 2 D tc b N0)
    ⟨p, e, _, s, m, _, below, meth, c, _, D, tc, rfl, hx, hb, hml, hown, hts, hK, hE, Nat.le_refl _, Nat.le_refl _, Nat.le_refl _, Nat.le_refl _, by have := hH.1; omega, Or.inl hin, ad, hXX⟩ (by
      intro okσ1 okl1 hN1 ls1 H1 locs1 hl1 hH1 hA1
      have hH' : Hp D tc b (GS_Model σ) H1 := hof hH1
      refine lv_aload_n (pc := 153) (x := b + 239) hx hb dX12_init_153 rfl (lv_at hl1 0 rfl) ?_
      refine lv_iconst (pc := 154) (v := Int32.ofInt 0) hx hb dX12_init_154 rfl ?_
      have hM := m_X12_empties (l := l) 239 0 (GS_Model σ) r σ' (by rw [sh_239]) (by rw [sh_239]) inI_0 hF D tc b
      have cb : CallB (headSpec (Cond.code yX12_init cX12_init 2 none :: gtb) (rm2 2 N0 N1)).room s ([.ref (b + 239)] : List Value).toArray RX12 65 yX12_empties cX12_empties 4 none (Cond.code yX12_empties cX12_empties 4 none :: gtb) (rmH 0) 0 0 1 :=
        callB_of 1 hts (gtb_in yw_X12_empties.1.1) rfl rfl rfl (hts _ yw_X12_empties.1.2.1) (hts _ ml_BandParkModel_65) yw_X12_empties.1.2.2.1 ⟨by show 0 + 1 ≤ 2; omega, by show 8 + (4 + 11) + 48 * 0 ≤ 48 * 2; omega⟩
      obtain ⟨q, hq, hqy⟩ := yw_X12_empties.2.2.2
      have hrecv := va_recv hK (va_P1 (hH' 239 _ (cE_obj (ci := 12) (by rw [sh_239]) (by rw [sh_239])))) (q0 := 0) hq rfl
      rw [hqy] at hrecv
      have hrun := va_runV (As := [vI 0]) (rest := []) (locs := locs1) (cells := N1 - N0) (slots := szN N1 - szN N0) (g := F0 m 155 ls1 [vI 0, .ref (b + 239)]) (e := e) (below := below) (meth := meth) (b := b + 239) (H := H1) ⟨hx, hb, hml, hown, hts⟩ hM ⟨cb, hts _ yw_X12_empties.2.1, hts _ yw_X12_empties.2.2.1⟩ ⟨Mpre_blind, hrecv, fun U hU hW => ⟨rfl, okσ1, va_K.moved hW.alike hK, NW.warm hW hXX.1, by rw [hU]; exact hH'⟩⟩ rfl rfl hl1.1 rfl (by show 2 * 0 + 0 ≤ 8; omega) dX12_init_155 ⟨Nat.le_refl _, Nat.le_refl _⟩
      intro T hT X
      obtain ⟨v, st₀, t, T', Lc, h0, X', hLc, e1, e2, ⟨hv, ⟨hrr, okσ2, hH2⟩, hz, hk⟩, stp⟩ := hrun T hT X
      cases hv
      rw [h0] at hz hk
      have hA' : va_S (BB b) s.heap T'.heap (locs1 ++ Lc) := ⟨Nat.le_trans hA1.1 (by rw [e1]; exact hz), fun q q1 q2 => by
          rw [e1, hk q (Nat.lt_of_lt_of_le q1 hA1.1) (fun ⟨a, w, _⟩ => q2 (by show b ≤ q; omega))]
          exact hA1.2.1 q q1 q2, fun q hq => by
          rcases List.mem_append.mp hq with w | w
          · exact hA1.2.2 q w
          · obtain ⟨a, w, _⟩ := hLc q w
            show b ≤ q.base
            omega⟩
      have ret : W p l e (headSpec (Cond.code yX12_init cX12_init 2 none :: gtb) (rm2 2 N0 N1)).room s m ([.ref (b + 239)] : List Value).toArray below meth c T'.heap (locs1 ++ Lc) (N1 - N0) (szN N1 - szN N0) (MQ below (fun _ s0 o t => o = .returned none ∧ (okS σ' ∧ Hp D tc b σ' t.heap) ∧ va_F (BB b) s0 t) ([.ref (b + 239)] : List Value).toArray s (N1 - N0) (szN N1 - szN N0) (BB b)) (F0 m 158 ls1 []) := W.vret hx hb hr (fun t' ht hW => ⟨rfl, ⟨okσ2, by rw [ht, e1]; exact hH2⟩, hA'.F ht⟩) hA'.2.2 dX12_init_158
      obtain ⟨t2, a1, b1⟩ := ret T' rfl X'
      exact ⟨t2, stp t2 a1, b1⟩)
  have K := K okσ ⟨rfl, rfl, List.forall_mem_cons.mpr ⟨trivial, List.forall_mem_nil _⟩⟩ (Nat.le_refl _) ls s.heap [] hl0 hH va_S.rf
  have K : W p l e (headSpec (Cond.code yX12_init cX12_init 2 none :: gtb) (rm2 2 N0 N1)).room s m ([.ref (b + 239)] : List Value).toArray below meth c s.heap [] (N0 - N0) (szN N0 - szN N0) _ (F0 m 0 ls []) := K
  rw [Nat.sub_self, Nat.sub_self] at K
  exact K
theorem mc_Model {l : Launch} {σ σ' : SS} {ρ : PP} {r : Int} (hρ : RfK (GP_Model ρ)) (hF : F_X12_empties 239 0 (GS_Model σ) = some (r, σ')) : Mt3 l yX12_init cX12_init 2 2 240 254 (fun b => [.ref (b + 239)]) σ ρ σ' := mo_gen (fun C X => mo_rows C X) (fun h => Hp_of2 hρ h) hF
