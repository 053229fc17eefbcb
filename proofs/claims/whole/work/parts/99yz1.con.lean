/-! constructors: Sound, Search, Stage -/
theorem mzP_oth {ρ : PP} {N m a k : Nat} (h : a < N ∨ N + m < a) : mzP ρ N m a k = ρ a k := by
  unfold mzP
  rw [if_neg (by omega), if_neg (by omega)]
theorem oi_Search : Cond.methodLink RX5 3 objectInit ∈ gtb := (gq_3 17 (by decide +kernel) rfl)
theorem oi_Sound : Cond.methodLink RX6 3 objectInit ∈ gtb := (gq_2 144 (by decide +kernel) rfl)
set_option maxHeartbeats 8000000 in
theorem ml_Search_21 : Cond.classLink RX5 21 "[[I" ∈ gtb := (gq_3 18 (by decide +kernel) rfl)
set_option maxHeartbeats 8000000 in
theorem ml_Sound_9 : Cond.classLink RX6 9 "[[I" ∈ gtb := (gq_2 145 (by decide +kernel) rfl)
set_option maxRecDepth 20000 in
theorem yc_Sound : YW yX6_init cX6_init 2 none 1 := ⟨(gq_2 143 rfl rfl), (gq_1 12 (by decide +kernel) rfl), by decide +kernel, by decide⟩
theorem ym_Sound : Cond.instanceMethod yX6_init ∈ gtb := (gq_2 142 (by decide +kernel) rfl)
set_option maxRecDepth 20000 in
theorem yc_Search : YW yX5_init cX5_init 1 none 0 := ⟨(gq_3 16 rfl rfl), (gq_1 15 (by decide +kernel) rfl), by decide +kernel, by decide⟩
theorem ym_Search : Cond.instanceMethod yX5_init ∈ gtb := (gq_3 15 (by decide +kernel) rfl)
theorem fr_Search_9 : FR RX5 9 5 0 := ⟨RX5, TX5, 8, tyX5, rfl, by decide, in_X5, (gq_3 19 (by decide +kernel) rfl), rfl, rfl, tyX5_ok, nmX5, rfl, rfl, (Or.inr ⟨_, rfl⟩)⟩
theorem fr_Search_15 : FR RX5 15 5 1 := ⟨RX5, TX5, 8, tyX5, rfl, by decide, in_X5, (gq_3 21 (by decide +kernel) rfl), rfl, rfl, tyX5_ok, nmX5, rfl, rfl, (Or.inr ⟨_, rfl⟩)⟩
theorem fr_Search_18 : FR RX5 18 5 2 := ⟨RX5, TX5, 8, tyX5, rfl, by decide, in_X5, (gq_3 22 (by decide +kernel) rfl), rfl, rfl, tyX5_ok, nmX5, rfl, rfl, (Or.inr ⟨_, rfl⟩)⟩
theorem fr_Search_23 : FR RX5 23 5 3 := ⟨RX5, TX5, 8, tyX5, rfl, by decide, in_X5, (gq_3 23 (by decide +kernel) rfl), rfl, rfl, tyX5_ok, nmX5, rfl, rfl, (Or.inr ⟨_, rfl⟩)⟩
theorem fr_Search_26 : FR RX5 26 5 4 := ⟨RX5, TX5, 8, tyX5, rfl, by decide, in_X5, (gq_3 24 (by decide +kernel) rfl), rfl, rfl, tyX5_ok, nmX5, rfl, rfl, (Or.inr ⟨_, rfl⟩)⟩
theorem fr_Search_29 : FR RX5 29 5 5 := ⟨RX5, TX5, 8, tyX5, rfl, by decide, in_X5, (gq_3 25 (by decide +kernel) rfl), rfl, rfl, tyX5_ok, nmX5, rfl, rfl, (Or.inr ⟨_, rfl⟩)⟩
theorem fr_Search_32 : FR RX5 32 5 6 := ⟨RX5, TX5, 8, tyX5, rfl, by decide, in_X5, (gq_3 26 (by decide +kernel) rfl), rfl, rfl, tyX5_ok, nmX5, rfl, rfl, (Or.inr ⟨_, rfl⟩)⟩
theorem fr_Search_35 : FR RX5 35 5 7 := ⟨RX5, TX5, 8, tyX5, rfl, by decide, in_X5, (gq_3 27 (by decide +kernel) rfl), rfl, rfl, tyX5_ok, nmX5, rfl, rfl, (Or.inr ⟨_, rfl⟩)⟩
theorem fr_Sound_11 : FR RX6 11 6 1 := ⟨RX6, TX6, 6, tyX6, rfl, by decide, in_X6, (gq_2 148 (by decide +kernel) rfl), rfl, rfl, tyX6_ok, nmX6, rfl, rfl, (Or.inr ⟨_, rfl⟩)⟩
theorem fr_Sound_16 : FR RX6 16 6 2 := ⟨RX6, TX6, 6, tyX6, rfl, by decide, in_X6, (gq_2 149 (by decide +kernel) rfl), rfl, rfl, tyX6_ok, nmX6, rfl, rfl, (Or.inr ⟨_, rfl⟩)⟩
theorem fr_Sound_20 : FR RX6 20 6 3 := ⟨RX6, TX6, 6, tyX6, rfl, by decide, in_X6, (gq_2 150 (by decide +kernel) rfl), rfl, rfl, tyX6_ok, nmX6, rfl, rfl, (Or.inr ⟨_, rfl⟩)⟩
theorem fr_Sound_23 : FR RX6 23 6 4 := ⟨RX6, TX6, 6, tyX6, rfl, by decide, in_X6, (gq_2 151 (by decide +kernel) rfl), rfl, rfl, tyX6_ok, nmX6, rfl, rfl, (Or.inr ⟨_, rfl⟩)⟩
theorem fr_Sound_30 : FR RX6 30 6 0 := ⟨RX6, TX6, 6, tyX6, rfl, by decide, in_X6, (gq_2 147 (by decide +kernel) rfl), rfl, rfl, tyX6_ok, nmX6, rfl, rfl, (Or.inl ⟨_, rfl⟩)⟩
def GS_Sound (a : Nat) (σ : SS) : SS := (ups (upA (upA (upA (mzS σ (a + 1) 6) (a + 8) (fun _ => 0)) (a + 9) (fun _ => 0)) (a + 10) (fun _ => 0)) a 5 (-1))
def GP_Sound (a q1 : Nat) (ρ : PP) : PP := (upr (upr (upP (upr (upP (upr (upP (upr (mzP ρ (a + 1) 6) a 1 (some (a + 1))) (a + 8) (fun _ => none)) a 2 (some (a + 8))) (a + 9) (fun _ => none)) a 3 (some (a + 9))) (a + 10) (fun _ => none)) a 4 (some (a + 10))) a 0 (some q1))
set_option maxRecDepth 20000 in
set_option maxHeartbeats 8000000 in
theorem mc_Sound {l : Launch} (a q1 : Nat) (hs0 : sh a = (1, 6, 6)) (hs1 : sh (a + 1) = (6, 8, 6)) (hs2 : sh (a + 2) = (2, 0, 30)) (hs3 : sh (a + 3) = (2, 0, 30)) (hs4 : sh (a + 4) = (2, 0, 30)) (hs5 : sh (a + 5) = (2, 0, 30)) (hs6 : sh (a + 6) = (2, 0, 30)) (hs7 : sh (a + 7) = (2, 0, 30)) (hs8 : sh (a + 8) = (2, 0, 64)) (hs9 : sh (a + 9) = (2, 0, 384)) (hs10 : sh (a + 10) = (2, 0, 384)) (σ : SS) (ρ : PP) : Mt2 l yX6_init cX6_init 2 2 (a + 1) (a + 11) (fun b => [.ref (b + a), .ref (b + q1)]) σ ρ (GS_Sound a σ) (GP_Sound a q1 ρ) := by
  refine Mt2_of (own := RX6) (Γ0 := [(0, 2), (1, 2)]) (L0 := [0, 0]) (R0 := [a, q1]) (by decide +kernel) rfl rfl (fun b => rfl) (fun b => Nat.le_of_ble_eq_true rfl) ⟨rfl, rfl, List.forall_mem_cons.mpr ⟨trivial, List.forall_mem_cons.mpr ⟨trivial, List.forall_mem_nil _⟩⟩⟩ (fun b V C X => ?_)
  refine j_aload_n (pc := 0) (i := 0) (g := 0) C dX6_init_0 rfl rfl ?_
  refine j_objInit (pc := 1) C oi_Sound oi_w (by omega) (by decide) dX6_init_1 ?_
  refine j_aload_n (pc := 4) (i := 0) (g := 0) C dX6_init_4 rfl rfl ?_
  refine j_bipush (pc := 5) C dX6_init_5 rfl ?_
  refine j_bipush (pc := 7) C dX6_init_7 rfl ?_
  have hr1 : ∀ j, j < 6 → (sh ((a + 1) + 1 + j)).1 = 2 ∧ ((sh ((a + 1) + 1 + j)).2.2 : Int) = 30 := by
    intro j hj
    have q : j = 0 ∨ j = 1 ∨ j = 2 ∨ j = 3 ∨ j = 4 ∨ j = 5 := by omega
    rcases q with e | e | e | e | e | e <;> subst e
    · have z : sh ((a + 1) + 1 + 0) = (2, 0, 30) := hs2
      exact ⟨by rw [z], by rw [z]; rfl⟩
    · have z : sh ((a + 1) + 1 + 1) = (2, 0, 30) := hs3
      exact ⟨by rw [z], by rw [z]; rfl⟩
    · have z : sh ((a + 1) + 1 + 2) = (2, 0, 30) := hs4
      exact ⟨by rw [z], by rw [z]; rfl⟩
    · have z : sh ((a + 1) + 1 + 3) = (2, 0, 30) := hs5
      exact ⟨by rw [z], by rw [z]; rfl⟩
    · have z : sh ((a + 1) + 1 + 4) = (2, 0, 30) := hs6
      exact ⟨by rw [z], by rw [z]; rfl⟩
    · have z : sh ((a + 1) + 1 + 5) = (2, 0, 30) := hs7
      exact ⟨by rw [z], by rw [z]; rfl⟩
  refine j_multi (pc := 9) (N := (a + 1)) (n := 6) (k := 30) (nm := 6) C ml_Sound_9 aw_int (by rw [hs1]) (by rw [hs1]) (by rw [hs1]; rfl) hr1 (by decide) (by decide) rfl (by omega) dX6_init_9 ?_
  refine j_putR (pc := 13) (a := a) (r := (a + 1)) C fr_Sound_11 (by rw [hs0]) (by rw [hs0]) (by omega) (by decide +kernel) dX6_init_13 ?_
  refine j_aload_n (pc := 16) (i := 0) (g := 0) C dX6_init_16 rfl rfl ?_
  refine j_bipush (pc := 17) C dX6_init_17 rfl ?_
  refine j_newaInt (pc := 19) (N := (a + 8)) C aw_int (by rw [hs8]) (by rw [hs8]; rfl) (by decide) (by omega) dX6_init_19 ?_
  refine j_putR (pc := 21) (a := a) (r := (a + 8)) C fr_Sound_16 (by rw [hs0]) (by rw [hs0]) (by omega) (by decide +kernel) dX6_init_21 ?_
  refine j_aload_n (pc := 24) (i := 0) (g := 0) C dX6_init_24 rfl rfl ?_
  refine j_sipush (pc := 25) C dX6_init_25 rfl ?_
  refine j_newaInt (pc := 28) (N := (a + 9)) C aw_int (by rw [hs9]) (by rw [hs9]; rfl) (by decide) (by omega) dX6_init_28 ?_
  refine j_putR (pc := 30) (a := a) (r := (a + 9)) C fr_Sound_20 (by rw [hs0]) (by rw [hs0]) (by omega) (by decide +kernel) dX6_init_30 ?_
  refine j_aload_n (pc := 33) (i := 0) (g := 0) C dX6_init_33 rfl rfl ?_
  refine j_sipush (pc := 34) C dX6_init_34 rfl ?_
  refine j_newaInt (pc := 37) (N := (a + 10)) C aw_int (by rw [hs10]) (by rw [hs10]; rfl) (by decide) (by omega) dX6_init_37 ?_
  refine j_putR (pc := 39) (a := a) (r := (a + 10)) C fr_Sound_23 (by rw [hs0]) (by rw [hs0]) (by omega) (by decide +kernel) dX6_init_39 ?_
  refine j_aload_n (pc := 42) (i := 0) (g := 0) C dX6_init_42 rfl rfl ?_
  refine j_iconst (pc := 43) C dX6_init_43 ?_
  refine j_putI (pc := 44) (a := a) (kn := 0) (x := (-1)) C pl_Sound_26 (by rw [hs0]) (by rw [hs0]) (by omega) (Or.inl rfl) (show inI (-1) from inIb_of rfl) dX6_init_44 ?_
  refine j_aload_n (pc := 47) (i := 0) (g := 0) C dX6_init_47 rfl rfl ?_
  refine j_aload_n (pc := 48) (i := 1) (g := 1) C dX6_init_48 rfl rfl ?_
  refine j_putR (pc := 49) (a := a) (r := q1) C fr_Sound_30 (by rw [hs0]) (by rw [hs0]) (by omega) (by decide +kernel) dX6_init_49 ?_
  exact X 52 _ _ _ dX6_init_52
def GS_Search (a : Nat) (σ : SS) : SS := (upA (upA (upA (upA (mzS (upA (upA (upA σ (a + 1) (fun _ => 0)) (a + 2) (fun _ => 0)) (a + 3) (fun _ => 0)) (a + 4) 5) (a + 10) (fun _ => 0)) (a + 11) (fun _ => 0)) (a + 12) (fun _ => 0)) (a + 13) (fun _ => 0))
def GP_Search (a : Nat) (ρ : PP) : PP := (upr (upP (upr (upP (upr (upP (upr (upP (upr (mzP (upr (upP (upr (upP (upr (upP ρ (a + 1) (fun _ => none)) a 0 (some (a + 1))) (a + 2) (fun _ => none)) a 1 (some (a + 2))) (a + 3) (fun _ => none)) a 2 (some (a + 3))) (a + 4) 5) a 3 (some (a + 4))) (a + 10) (fun _ => none)) a 4 (some (a + 10))) (a + 11) (fun _ => none)) a 5 (some (a + 11))) (a + 12) (fun _ => none)) a 6 (some (a + 12))) (a + 13) (fun _ => none)) a 7 (some (a + 13)))
set_option maxRecDepth 20000 in
set_option maxHeartbeats 8000000 in
theorem mc_Search {l : Launch} (a : Nat) (hs0 : sh a = (1, 5, 8)) (hs1 : sh (a + 1) = (2, 0, 4)) (hs2 : sh (a + 2) = (2, 0, 4)) (hs3 : sh (a + 3) = (2, 0, 7)) (hs4 : sh (a + 4) = (6, 8, 5)) (hs5 : sh (a + 5) = (2, 0, 100)) (hs6 : sh (a + 6) = (2, 0, 100)) (hs7 : sh (a + 7) = (2, 0, 100)) (hs8 : sh (a + 8) = (2, 0, 100)) (hs9 : sh (a + 9) = (2, 0, 100)) (hs10 : sh (a + 10) = (2, 0, 6)) (hs11 : sh (a + 11) = (2, 0, 30)) (hs12 : sh (a + 12) = (2, 0, 30)) (hs13 : sh (a + 13) = (2, 0, 30)) (σ : SS) (ρ : PP) : Mt2 l yX5_init cX5_init 1 2 (a + 1) (a + 14) (fun b => [.ref (b + a)]) σ ρ (GS_Search a σ) (GP_Search a ρ) := by
  refine Mt2_of (own := RX5) (Γ0 := [(0, 2)]) (L0 := [0]) (R0 := [a]) (by decide +kernel) rfl rfl (fun b => rfl) (fun b => Nat.le_of_ble_eq_true rfl) ⟨rfl, rfl, List.forall_mem_cons.mpr ⟨trivial, List.forall_mem_nil _⟩⟩ (fun b V C X => ?_)
  refine j_aload_n (pc := 0) (i := 0) (g := 0) C dX5_init_0 rfl rfl ?_
  refine j_objInit (pc := 1) C oi_Search oi_w (by omega) (by decide) dX5_init_1 ?_
  refine j_aload_n (pc := 4) (i := 0) (g := 0) C dX5_init_4 rfl rfl ?_
  refine j_iconst (pc := 5) C dX5_init_5 ?_
  refine j_newaInt (pc := 6) (N := (a + 1)) C aw_int (by rw [hs1]) (by rw [hs1]; rfl) (by decide) (by omega) dX5_init_6 ?_
  refine j_putR (pc := 8) (a := a) (r := (a + 1)) C fr_Search_9 (by rw [hs0]) (by rw [hs0]) (by omega) (by decide +kernel) dX5_init_8 ?_
  refine j_aload_n (pc := 11) (i := 0) (g := 0) C dX5_init_11 rfl rfl ?_
  refine j_iconst (pc := 12) C dX5_init_12 ?_
  refine j_newaInt (pc := 13) (N := (a + 2)) C aw_int (by rw [hs2]) (by rw [hs2]; rfl) (by decide) (by omega) dX5_init_13 ?_
  refine j_putR (pc := 15) (a := a) (r := (a + 2)) C fr_Search_15 (by rw [hs0]) (by rw [hs0]) (by omega) (by decide +kernel) dX5_init_15 ?_
  refine j_aload_n (pc := 18) (i := 0) (g := 0) C dX5_init_18 rfl rfl ?_
  refine j_bipush (pc := 19) C dX5_init_19 rfl ?_
  refine j_newaInt (pc := 21) (N := (a + 3)) C aw_int (by rw [hs3]) (by rw [hs3]; rfl) (by decide) (by omega) dX5_init_21 ?_
  refine j_putR (pc := 23) (a := a) (r := (a + 3)) C fr_Search_18 (by rw [hs0]) (by rw [hs0]) (by omega) (by decide +kernel) dX5_init_23 ?_
  refine j_aload_n (pc := 26) (i := 0) (g := 0) C dX5_init_26 rfl rfl ?_
  refine j_iconst (pc := 27) C dX5_init_27 ?_
  refine j_bipush (pc := 28) C dX5_init_28 rfl ?_
  have hr4 : ∀ j, j < 5 → (sh ((a + 4) + 1 + j)).1 = 2 ∧ ((sh ((a + 4) + 1 + j)).2.2 : Int) = 100 := by
    intro j hj
    have q : j = 0 ∨ j = 1 ∨ j = 2 ∨ j = 3 ∨ j = 4 := by omega
    rcases q with e | e | e | e | e <;> subst e
    · have z : sh ((a + 4) + 1 + 0) = (2, 0, 100) := hs5
      exact ⟨by rw [z], by rw [z]; rfl⟩
    · have z : sh ((a + 4) + 1 + 1) = (2, 0, 100) := hs6
      exact ⟨by rw [z], by rw [z]; rfl⟩
    · have z : sh ((a + 4) + 1 + 2) = (2, 0, 100) := hs7
      exact ⟨by rw [z], by rw [z]; rfl⟩
    · have z : sh ((a + 4) + 1 + 3) = (2, 0, 100) := hs8
      exact ⟨by rw [z], by rw [z]; rfl⟩
    · have z : sh ((a + 4) + 1 + 4) = (2, 0, 100) := hs9
      exact ⟨by rw [z], by rw [z]; rfl⟩
  refine j_multi (pc := 30) (N := (a + 4)) (n := 5) (k := 100) (nm := 5) C ml_Search_21 aw_int (by rw [hs4]) (by rw [hs4]) (by rw [hs4]; rfl) hr4 (by decide) (by decide) rfl (by omega) dX5_init_30 ?_
  refine j_putR (pc := 34) (a := a) (r := (a + 4)) C fr_Search_23 (by rw [hs0]) (by rw [hs0]) (by omega) (by decide +kernel) dX5_init_34 ?_
  refine j_aload_n (pc := 37) (i := 0) (g := 0) C dX5_init_37 rfl rfl ?_
  refine j_bipush (pc := 38) C dX5_init_38 rfl ?_
  refine j_newaInt (pc := 40) (N := (a + 10)) C aw_int (by rw [hs10]) (by rw [hs10]; rfl) (by decide) (by omega) dX5_init_40 ?_
  refine j_putR (pc := 42) (a := a) (r := (a + 10)) C fr_Search_26 (by rw [hs0]) (by rw [hs0]) (by omega) (by decide +kernel) dX5_init_42 ?_
  refine j_aload_n (pc := 45) (i := 0) (g := 0) C dX5_init_45 rfl rfl ?_
  refine j_bipush (pc := 46) C dX5_init_46 rfl ?_
  refine j_newaInt (pc := 48) (N := (a + 11)) C aw_int (by rw [hs11]) (by rw [hs11]; rfl) (by decide) (by omega) dX5_init_48 ?_
  refine j_putR (pc := 50) (a := a) (r := (a + 11)) C fr_Search_29 (by rw [hs0]) (by rw [hs0]) (by omega) (by decide +kernel) dX5_init_50 ?_
  refine j_aload_n (pc := 53) (i := 0) (g := 0) C dX5_init_53 rfl rfl ?_
  refine j_bipush (pc := 54) C dX5_init_54 rfl ?_
  refine j_newaInt (pc := 56) (N := (a + 12)) C aw_int (by rw [hs12]) (by rw [hs12]; rfl) (by decide) (by omega) dX5_init_56 ?_
  refine j_putR (pc := 58) (a := a) (r := (a + 12)) C fr_Search_32 (by rw [hs0]) (by rw [hs0]) (by omega) (by decide +kernel) dX5_init_58 ?_
  refine j_aload_n (pc := 61) (i := 0) (g := 0) C dX5_init_61 rfl rfl ?_
  refine j_bipush (pc := 62) C dX5_init_62 rfl ?_
  refine j_newaInt (pc := 64) (N := (a + 13)) C aw_int (by rw [hs13]) (by rw [hs13]; rfl) (by decide) (by omega) dX5_init_64 ?_
  refine j_putR (pc := 66) (a := a) (r := (a + 13)) C fr_Search_35 (by rw [hs0]) (by rw [hs0]) (by omega) (by decide +kernel) dX5_init_66 ?_
  exact X 69 _ _ _ dX5_init_69
theorem oi_Stage : Cond.methodLink RX7 3 objectInit ∈ gtb := (gq_1 136 (by decide +kernel) rfl)
theorem cl_Stage_9 : Cond.classLink RX7 9 RX3 ∈ gtb := (gq_1 137 (by decide +kernel) rfl)
theorem cl_Stage_18 : Cond.classLink RX7 18 RX6 ∈ gtb := (gq_2 139 (by decide +kernel) rfl)
set_option maxRecDepth 20000 in
theorem yc_Stage : YW yX7_init cX7_init 1 none 0 := ⟨(gq_1 135 rfl rfl), (gq_1 7 (by decide +kernel) rfl), by decide +kernel, by decide⟩
theorem ym_Stage : Cond.instanceMethod yX7_init ∈ gtb := (gq_1 134 (by decide +kernel) rfl)
theorem yl_Stage_11 : Cond.methodLink RX7 11 yX3_init ∈ gtb ∨ ∃ q ∈ nestL, q.1 = RX7 ∧ q.2.1 = 11 ∧ q.2.2.1 = yX3_init := Or.inl (gq_1 139 (by decide +kernel) rfl)
theorem yl_Stage_20 : Cond.methodLink RX7 20 yX6_init ∈ gtb ∨ ∃ q ∈ nestL, q.1 = RX7 ∧ q.2.1 = 20 ∧ q.2.2.1 = yX6_init := Or.inl (gq_2 141 (by decide +kernel) rfl)
theorem fr_Stage_12 : FR RX7 12 7 0 := ⟨RX7, TX7, 12, tyX7, rfl, by decide, in_X7, (gq_2 166 (by decide +kernel) rfl), rfl, rfl, tyX7_ok, nmX7, rfl, rfl, (Or.inl ⟨_, rfl⟩)⟩
theorem fr_Stage_23 : FR RX7 23 7 1 := ⟨RX7, TX7, 12, tyX7, rfl, by decide, in_X7, (gq_2 169 (by decide +kernel) rfl), rfl, rfl, tyX7_ok, nmX7, rfl, rfl, (Or.inl ⟨_, rfl⟩)⟩
theorem fr_Stage_27 : FR RX7 27 7 2 := ⟨RX7, TX7, 12, tyX7, rfl, by decide, in_X7, (gq_2 171 (by decide +kernel) rfl), rfl, rfl, tyX7_ok, nmX7, rfl, rfl, (Or.inr ⟨_, rfl⟩)⟩
def GS_Stage (a : Nat) (σ : SS) : SS := (ups (ups (ups (ups (ups (ups (ups (ups (ups (upA (GS_Sound (a + 30) (upA (GS_Park (a + 1) (upA σ (a + 1) (fun _ => 0))) (a + 30) (fun _ => 0))) (a + 41) (fun _ => 0)) a 3 0) a 4 0) a 5 0) a 6 0) a 7 0) a 8 0) a 9 0) a 10 0) a 11 0)
def GP_Stage (a : Nat) (ρ : PP) : PP := (upr (upP (upr (GP_Sound (a + 30) (a + 1) (upP (upr (GP_Park (a + 1) (upP ρ (a + 1) (fun _ => none))) a 0 (some (a + 1))) (a + 30) (fun _ => none))) a 1 (some (a + 30))) (a + 41) (fun _ => none)) a 2 (some (a + 41)))
set_option maxRecDepth 20000 in
set_option maxHeartbeats 8000000 in
theorem mc_Stage {l : Launch} (a : Nat) (hs0 : sh a = (1, 7, 12)) (hs1 : sh (a + 1) = (1, 3, 15)) (hs2 : sh (a + 2) = (5, 0, 30)) (hs3 : sh (a + 3) = (6, 6, 6)) (hs4 : sh (a + 4) = (6, 7, 6)) (hs5 : sh (a + 5) = (1, 1, 8)) (hs6 : sh (a + 6) = (2, 0, 30)) (hs7 : sh (a + 7) = (2, 0, 30)) (hs8 : sh (a + 8) = (2, 0, 30)) (hs9 : sh (a + 9) = (2, 0, 30)) (hs10 : sh (a + 10) = (2, 0, 30)) (hs11 : sh (a + 11) = (2, 0, 30)) (hs12 : sh (a + 12) = (1, 10, 4)) (hs13 : sh (a + 13) = (1, 10, 4)) (hs14 : sh (a + 14) = (1, 10, 4)) (hs15 : sh (a + 15) = (1, 10, 4)) (hs16 : sh (a + 16) = (1, 10, 4)) (hs17 : sh (a + 17) = (1, 10, 4)) (hs18 : sh (a + 18) = (1, 0, 9)) (hs19 : sh (a + 19) = (2, 0, 6)) (hs20 : sh (a + 20) = (1, 0, 9)) (hs21 : sh (a + 21) = (2, 0, 6)) (hs22 : sh (a + 22) = (1, 0, 9)) (hs23 : sh (a + 23) = (2, 0, 6)) (hs24 : sh (a + 24) = (1, 0, 9)) (hs25 : sh (a + 25) = (2, 0, 6)) (hs26 : sh (a + 26) = (1, 0, 9)) (hs27 : sh (a + 27) = (2, 0, 6)) (hs28 : sh (a + 28) = (1, 0, 9)) (hs29 : sh (a + 29) = (2, 0, 6)) (hs30 : sh (a + 30) = (1, 6, 6)) (hs31 : sh (a + 31) = (6, 8, 6)) (hs32 : sh (a + 32) = (2, 0, 30)) (hs33 : sh (a + 33) = (2, 0, 30)) (hs34 : sh (a + 34) = (2, 0, 30)) (hs35 : sh (a + 35) = (2, 0, 30)) (hs36 : sh (a + 36) = (2, 0, 30)) (hs37 : sh (a + 37) = (2, 0, 30)) (hs38 : sh (a + 38) = (2, 0, 64)) (hs39 : sh (a + 39) = (2, 0, 384)) (hs40 : sh (a + 40) = (2, 0, 384)) (hs41 : sh (a + 41) = (2, 0, 6)) (σ : SS) (ρ : PP) : Mt2 l yX7_init cX7_init 1 4 (a + 1) (a + 42) (fun b => [.ref (b + a)]) σ ρ (GS_Stage a σ) (GP_Stage a ρ) := by
  refine Mt2_of (own := RX7) (Γ0 := [(0, 2)]) (L0 := [0]) (R0 := [a]) (by decide +kernel) rfl rfl (fun b => rfl) (fun b => Nat.le_of_ble_eq_true rfl) ⟨rfl, rfl, List.forall_mem_cons.mpr ⟨trivial, List.forall_mem_nil _⟩⟩ (fun b V C X => ?_)
  refine j_aload_n (pc := 0) (i := 0) (g := 0) C dX7_init_0 rfl rfl ?_
  refine j_objInit (pc := 1) C oi_Stage oi_w (by omega) (by decide) dX7_init_1 ?_
  refine j_aload_n (pc := 4) (i := 0) (g := 0) C dX7_init_4 rfl rfl ?_
  refine j_new (pc := 5) (N := (a + 1)) C ci_Park cl_Stage_9 (by rw [hs1]) (by rw [hs1]) (by omega) dX7_init_5 ?_
  refine j_dup (pc := 8) C dX7_init_8 rfl ?_
  refine j_callI (pc := 9) (N := (a + 2)) (N' := (a + 30)) (As := []) C (mc_Park (a + 1) hs1 hs2 hs3 hs4 hs5 hs6 hs7 hs8 hs9 hs10 hs11 hs12 hs13 hs14 hs15 hs16 hs17 hs18 hs19 hs20 hs21 hs22 hs23 hs24 hs25 hs26 hs27 hs28 hs29 _ _) yc_Park rfl ym_Park yl_Stage_11 (by omega) rfl rfl (by omega) (by omega) (by simp only [dep_i, dep_r]; decide) dX7_init_9 ?_
  refine j_putR (pc := 12) (a := a) (r := (a + 1)) C fr_Stage_12 (by rw [hs0]) (by rw [hs0]) (by omega) (by decide +kernel) dX7_init_12 ?_
  refine j_aload_n (pc := 15) (i := 0) (g := 0) C dX7_init_15 rfl rfl ?_
  refine j_new (pc := 16) (N := (a + 30)) C ci_Sound cl_Stage_18 (by rw [hs30]) (by rw [hs30]) (by omega) dX7_init_16 ?_
  refine j_dup (pc := 19) C dX7_init_19 rfl ?_
  refine j_aload_n (pc := 20) (i := 0) (g := 0) C dX7_init_20 rfl rfl ?_
  refine j_getR (pc := 21) (a := a) (r := (a + 1)) C fl_Stage_12 (by rw [hs0]) (by rw [hs0]) (by omega) (by simp (disch := omega) only [GP_Tune, GP_Band, GP_Evenings, GP_Tray, GP_Park, GP_Sound, mzP_oth, upr_oth, upP_oth, upr_hit]) dX7_init_21 ?_
  refine j_callI (pc := 24) (N := (a + 31)) (N' := (a + 41)) (As := [.ref (b + (a + 1))]) C (mc_Sound (a + 30) (a + 1) hs30 hs31 hs32 hs33 hs34 hs35 hs36 hs37 hs38 hs39 hs40 _ _) yc_Sound rfl ym_Sound yl_Stage_20 (by omega) rfl rfl (by omega) (by omega) (by simp only [dep_i, dep_r]; decide) dX7_init_24 ?_
  refine j_putR (pc := 27) (a := a) (r := (a + 30)) C fr_Stage_23 (by rw [hs0]) (by rw [hs0]) (by omega) (by decide +kernel) dX7_init_27 ?_
  refine j_aload_n (pc := 30) (i := 0) (g := 0) C dX7_init_30 rfl rfl ?_
  refine j_bipush (pc := 31) C dX7_init_31 rfl ?_
  refine j_newaInt (pc := 33) (N := (a + 41)) C aw_int (by rw [hs41]) (by rw [hs41]; rfl) (by decide) (by omega) dX7_init_33 ?_
  refine j_putR (pc := 35) (a := a) (r := (a + 41)) C fr_Stage_27 (by rw [hs0]) (by rw [hs0]) (by omega) (by decide +kernel) dX7_init_35 ?_
  refine j_aload_n (pc := 38) (i := 0) (g := 0) C dX7_init_38 rfl rfl ?_
  refine j_iconst (pc := 39) C dX7_init_39 ?_
  refine j_putI (pc := 40) (a := a) (kn := 0) (x := 0) C pl_Stage_31 (by rw [hs0]) (by rw [hs0]) (by omega) (Or.inl rfl) (show inI 0 from inIb_of rfl) dX7_init_40 ?_
  refine j_aload_n (pc := 43) (i := 0) (g := 0) C dX7_init_43 rfl rfl ?_
  refine j_iconst (pc := 44) C dX7_init_44 ?_
  refine j_putI (pc := 45) (a := a) (kn := 0) (x := 0) C pl_Stage_35 (by rw [hs0]) (by rw [hs0]) (by omega) (Or.inl rfl) (show inI 0 from inIb_of rfl) dX7_init_45 ?_
  refine j_aload_n (pc := 48) (i := 0) (g := 0) C dX7_init_48 rfl rfl ?_
  refine j_iconst (pc := 49) C dX7_init_49 ?_
  refine j_putI (pc := 50) (a := a) (kn := 0) (x := 0) C pl_Stage_38 (by rw [hs0]) (by rw [hs0]) (by omega) (Or.inl rfl) (show inI 0 from inIb_of rfl) dX7_init_50 ?_
  refine j_aload_n (pc := 53) (i := 0) (g := 0) C dX7_init_53 rfl rfl ?_
  refine j_iconst (pc := 54) C dX7_init_54 ?_
  refine j_putI (pc := 55) (a := a) (kn := 0) (x := 0) C pl_Stage_41 (by rw [hs0]) (by rw [hs0]) (by omega) (Or.inl rfl) (show inI 0 from inIb_of rfl) dX7_init_55 ?_
  refine j_aload_n (pc := 58) (i := 0) (g := 0) C dX7_init_58 rfl rfl ?_
  refine j_iconst (pc := 59) C dX7_init_59 ?_
  refine j_putI (pc := 60) (a := a) (kn := 0) (x := 0) C pl_Stage_44 (by rw [hs0]) (by rw [hs0]) (by omega) (Or.inl rfl) (show inI 0 from inIb_of rfl) dX7_init_60 ?_
  refine j_aload_n (pc := 63) (i := 0) (g := 0) C dX7_init_63 rfl rfl ?_
  refine j_iconst (pc := 64) C dX7_init_64 ?_
  refine j_putI (pc := 65) (a := a) (kn := 0) (x := 0) C pl_Stage_47 (by rw [hs0]) (by rw [hs0]) (by omega) (Or.inl rfl) (show inI 0 from inIb_of rfl) dX7_init_65 ?_
  refine j_aload_n (pc := 68) (i := 0) (g := 0) C dX7_init_68 rfl rfl ?_
  refine j_iconst (pc := 69) C dX7_init_69 ?_
  refine j_putI (pc := 70) (a := a) (kn := 3) (x := 0) C pl_Stage_50 (by rw [hs0]) (by rw [hs0]) (by omega) (Or.inr (Or.inr ⟨rfl, by decide⟩)) (show inI 0 from inIb_of rfl) dX7_init_70 ?_
  refine j_aload_n (pc := 73) (i := 0) (g := 0) C dX7_init_73 rfl rfl ?_
  refine j_iconst (pc := 74) C dX7_init_74 ?_
  refine j_putI (pc := 75) (a := a) (kn := 3) (x := 0) C pl_Stage_54 (by rw [hs0]) (by rw [hs0]) (by omega) (Or.inr (Or.inr ⟨rfl, by decide⟩)) (show inI 0 from inIb_of rfl) dX7_init_75 ?_
  refine j_aload_n (pc := 78) (i := 0) (g := 0) C dX7_init_78 rfl rfl ?_
  refine j_iconst (pc := 79) C dX7_init_79 ?_
  refine j_putI (pc := 80) (a := a) (kn := 0) (x := 0) C pl_Stage_57 (by rw [hs0]) (by rw [hs0]) (by omega) (Or.inl rfl) (show inI 0 from inIb_of rfl) dX7_init_80 ?_
  exact X 83 _ _ _ dX7_init_83
