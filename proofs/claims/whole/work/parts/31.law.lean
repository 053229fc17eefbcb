noncomputable def LBx (bS : Nat) (xs : Nat → Int) (Ls : Nat) (x : Int) : XS := if x = 0 then LB_0 bS xs Ls else if x = 1 then LB_1 bS xs Ls else if x = 2 then LB_2 bS xs Ls else if x = 3 then LB_3 bS xs Ls else if x = 4 then LB_4 bS xs Ls else if x = 5 then LB_5 bS xs Ls else if x = 6 then LB_6 bS xs Ls else if x = 7 then LB_7 bS xs Ls else if x = 8 then LB_8 bS xs Ls else if x = 9 then LB_9 bS xs Ls else if x = 10 then LB_10 bS xs Ls else if x = 11 then LB_11 bS xs Ls else if x = 12 then LB_12 bS xs Ls else if x = 13 then LB_13 bS xs Ls else if x = 14 then LB_14 bS xs Ls else if x = 15 then LB_15 bS xs Ls else if x = 16 then LB_16 bS xs Ls else if x = 17 then LB_17 bS xs Ls else if x = 18 then LB_18 bS xs Ls else if x = 19 then LB_19 bS xs Ls else if x = 20 then LB_20 bS xs Ls else if x = 21 then LB_21 bS xs Ls else if x = 22 then LB_22 bS xs Ls else if x = 23 then LB_23 bS xs Ls else if x = 24 then LB_24 bS xs Ls else if x = 25 then LB_25 bS xs Ls else if x = 26 then LB_26 bS xs Ls else if x = 27 then LB_27 bS xs Ls else if x = 28 then LB_28 bS xs Ls else if x = 29 then LB_29 bS xs Ls else if x = 30 then LB_30 bS xs Ls else if x = 31 then LB_31 bS xs Ls else if x = 32 then LB_32 bS xs Ls else if x = 33 then LB_33 bS xs Ls else if x = 34 then LB_34 bS xs Ls else if x = 35 then LB_35 bS xs Ls else if x = 36 then LB_36 bS xs Ls else if x = 37 then LB_37 bS xs Ls else if x = 38 then LB_38 bS xs Ls else if x = 39 then LB_39 bS xs Ls else if x = 40 then LB_40 bS xs Ls else if x = 41 then LB_41 bS xs Ls else if x = 42 then LB_42 bS xs Ls else if x = 43 then LB_43 bS xs Ls else if x = 44 then LB_44 bS xs Ls else if x = 45 then LB_45 bS xs Ls else if x = 46 then LB_46 bS xs Ls else if x = 47 then LB_47 bS xs Ls else if x = 48 then LB_48 bS xs Ls else if x = 49 then LB_49 bS xs Ls else if x = 50 then LB_50 bS xs Ls else if x = 51 then LB_51 bS xs Ls else if x = 52 then LB_52 bS xs Ls else if x = 53 then LB_53 bS xs Ls else if x = 54 then LB_54 bS xs Ls else if x = 55 then LB_55 bS xs Ls else if x = 56 then LB_56 bS xs Ls else if x = 57 then LB_57 bS xs Ls else if x = 58 then LB_58 bS xs Ls else sk
noncomputable def LBody (bS : Nat) (xs : Nat → Int) (Ls : Nat) : XS := sw (op2 (fun x y => some (andI x y)) (scrI bS xs Ls (lI 3)) (cI 63)) (LBx bS xs Ls)
def LCond (bS : Nat) (Ls : Nat) : XC := cmp2 (fun x y => decide (x ≤ y)) (lI 3) (op2 (fun x y => some (wI (x - y))) (slenI bS Ls) (cI 6))
noncomputable def LawB (bS : Nat) (xs : Nat → Int) (Ls : Nat) : XS := sq (asI 3 (cI 0)) (sq (lp (LCond bS Ls) (LBody bS xs Ls) (inc 3 6)) (rtZ (cI 1)))
set_option maxRecDepth 20000 in
set_option maxHeartbeats 4000000 in
theorem lc_body {l : Launch} {b : Nat} {V : VV} {h bS Ls : Nat} {xs : Nat → Int} {B K : Nat × GG} (C : LCtx l b V h bS Ls xs) (hh : 60 ≤ h) (X : ∀ (pc : Nat) (Γ : GG) (z : ZZ), decode cL_law pc = .ok (.ireturn, 1) → V pc Γ z [vI 1]) : SG V RtL [(0, 5), (1, 2), (2, 2), (3, 0)] 27 (LBody bS xs Ls) 2306 [(0, 5), (1, 2), (2, 2), (3, 0)] B K := by
  refine s_sw (q := 2306) (tg := fun x => tgS 0 58 [284, 297, 311, 325, 368, 441, 475, 538, 601, 624, 647, 670, 693, 726, 759, 792, 825, 848, 871, 910, 953, 976, 1019, 1052, 1085, 1118, 1177, 1200, 1253, 1286, 1319, 1342, 1365, 1388, 1431, 1464, 1497, 1520, 1553, 1606, 1669, 1692, 1715, 1758, 1801, 1844, 1867, 1890, 1903, 1956, 1999, 2052, 2105, 2158, 2191, 2214, 2237, 2280, 2293] 2306 x) (e_bin (e_scr C dL_law_27 rfl (e_iload_n (g := 3) C.1 dL_law_28 rfl rfl (q9 := 29) rfl) dL_law_29 (q9 := 30) rfl) (e_bipush C.1 dL_law_30 rfl rfl (q9 := 32) rfl) (b_iand C.1 dL_law_32) (q9 := 33) rfl) (fun x z hx k => i_table (lo := 0) (hi := 58) (td := 2306) (tg := [284, 297, 311, 325, 368, 441, 475, 538, 601, 624, 647, 670, 693, 726, 759, 792, 825, 848, 871, 910, 953, 976, 1019, 1052, 1085, 1118, 1177, 1200, 1253, 1286, 1319, 1342, 1365, 1388, 1431, 1464, 1497, 1520, 1553, 1606, 1669, 1692, 1715, 1758, 1801, 1844, 1867, 1890, 1903, 1956, 1999, 2052, 2105, 2158, 2191, 2214, 2237, 2280, 2293]) C.1 dL_law_33 hx (by decide) (by decide) (by decide) k) (fun x => ?_)
  unfold LBx
  by_cases h0 : x = 0
  · subst h0; exact lc_0 C hh X
  rw [if_neg h0]
  by_cases h1 : x = 1
  · subst h1; exact lc_1 C hh X
  rw [if_neg h1]
  by_cases h2 : x = 2
  · subst h2; exact lc_2 C hh X
  rw [if_neg h2]
  by_cases h3 : x = 3
  · subst h3; exact lc_3 C hh X
  rw [if_neg h3]
  by_cases h4 : x = 4
  · subst h4; exact lc_4 C hh X
  rw [if_neg h4]
  by_cases h5 : x = 5
  · subst h5; exact lc_5 C hh X
  rw [if_neg h5]
  by_cases h6 : x = 6
  · subst h6; exact lc_6 C hh X
  rw [if_neg h6]
  by_cases h7 : x = 7
  · subst h7; exact lc_7 C hh X
  rw [if_neg h7]
  by_cases h8 : x = 8
  · subst h8; exact lc_8 C hh X
  rw [if_neg h8]
  by_cases h9 : x = 9
  · subst h9; exact lc_9 C hh X
  rw [if_neg h9]
  by_cases h10 : x = 10
  · subst h10; exact lc_10 C hh X
  rw [if_neg h10]
  by_cases h11 : x = 11
  · subst h11; exact lc_11 C hh X
  rw [if_neg h11]
  by_cases h12 : x = 12
  · subst h12; exact lc_12 C hh X
  rw [if_neg h12]
  by_cases h13 : x = 13
  · subst h13; exact lc_13 C hh X
  rw [if_neg h13]
  by_cases h14 : x = 14
  · subst h14; exact lc_14 C hh X
  rw [if_neg h14]
  by_cases h15 : x = 15
  · subst h15; exact lc_15 C hh X
  rw [if_neg h15]
  by_cases h16 : x = 16
  · subst h16; exact lc_16 C hh X
  rw [if_neg h16]
  by_cases h17 : x = 17
  · subst h17; exact lc_17 C hh X
  rw [if_neg h17]
  by_cases h18 : x = 18
  · subst h18; exact lc_18 C hh X
  rw [if_neg h18]
  by_cases h19 : x = 19
  · subst h19; exact lc_19 C hh X
  rw [if_neg h19]
  by_cases h20 : x = 20
  · subst h20; exact lc_20 C hh X
  rw [if_neg h20]
  by_cases h21 : x = 21
  · subst h21; exact lc_21 C hh X
  rw [if_neg h21]
  by_cases h22 : x = 22
  · subst h22; exact lc_22 C hh X
  rw [if_neg h22]
  by_cases h23 : x = 23
  · subst h23; exact lc_23 C hh X
  rw [if_neg h23]
  by_cases h24 : x = 24
  · subst h24; exact lc_24 C hh X
  rw [if_neg h24]
  by_cases h25 : x = 25
  · subst h25; exact lc_25 C hh X
  rw [if_neg h25]
  by_cases h26 : x = 26
  · subst h26; exact lc_26 C hh X
  rw [if_neg h26]
  by_cases h27 : x = 27
  · subst h27; exact lc_27 C hh X
  rw [if_neg h27]
  by_cases h28 : x = 28
  · subst h28; exact lc_28 C hh X
  rw [if_neg h28]
  by_cases h29 : x = 29
  · subst h29; exact lc_29 C hh X
  rw [if_neg h29]
  by_cases h30 : x = 30
  · subst h30; exact lc_30 C hh X
  rw [if_neg h30]
  by_cases h31 : x = 31
  · subst h31; exact lc_31 C hh X
  rw [if_neg h31]
  by_cases h32 : x = 32
  · subst h32; exact lc_32 C hh X
  rw [if_neg h32]
  by_cases h33 : x = 33
  · subst h33; exact lc_33 C hh X
  rw [if_neg h33]
  by_cases h34 : x = 34
  · subst h34; exact lc_34 C hh X
  rw [if_neg h34]
  by_cases h35 : x = 35
  · subst h35; exact lc_35 C hh X
  rw [if_neg h35]
  by_cases h36 : x = 36
  · subst h36; exact lc_36 C hh X
  rw [if_neg h36]
  by_cases h37 : x = 37
  · subst h37; exact lc_37 C hh X
  rw [if_neg h37]
  by_cases h38 : x = 38
  · subst h38; exact lc_38 C hh X
  rw [if_neg h38]
  by_cases h39 : x = 39
  · subst h39; exact lc_39 C hh X
  rw [if_neg h39]
  by_cases h40 : x = 40
  · subst h40; exact lc_40 C hh X
  rw [if_neg h40]
  by_cases h41 : x = 41
  · subst h41; exact lc_41 C hh X
  rw [if_neg h41]
  by_cases h42 : x = 42
  · subst h42; exact lc_42 C hh X
  rw [if_neg h42]
  by_cases h43 : x = 43
  · subst h43; exact lc_43 C hh X
  rw [if_neg h43]
  by_cases h44 : x = 44
  · subst h44; exact lc_44 C hh X
  rw [if_neg h44]
  by_cases h45 : x = 45
  · subst h45; exact lc_45 C hh X
  rw [if_neg h45]
  by_cases h46 : x = 46
  · subst h46; exact lc_46 C hh X
  rw [if_neg h46]
  by_cases h47 : x = 47
  · subst h47; exact lc_47 C hh X
  rw [if_neg h47]
  by_cases h48 : x = 48
  · subst h48; exact lc_48 C hh X
  rw [if_neg h48]
  by_cases h49 : x = 49
  · subst h49; exact lc_49 C hh X
  rw [if_neg h49]
  by_cases h50 : x = 50
  · subst h50; exact lc_50 C hh X
  rw [if_neg h50]
  by_cases h51 : x = 51
  · subst h51; exact lc_51 C hh X
  rw [if_neg h51]
  by_cases h52 : x = 52
  · subst h52; exact lc_52 C hh X
  rw [if_neg h52]
  by_cases h53 : x = 53
  · subst h53; exact lc_53 C hh X
  rw [if_neg h53]
  by_cases h54 : x = 54
  · subst h54; exact lc_54 C hh X
  rw [if_neg h54]
  by_cases h55 : x = 55
  · subst h55; exact lc_55 C hh X
  rw [if_neg h55]
  by_cases h56 : x = 56
  · subst h56; exact lc_56 C hh X
  rw [if_neg h56]
  by_cases h57 : x = 57
  · subst h57; exact lc_57 C hh X
  rw [if_neg h57]
  by_cases h58 : x = 58
  · subst h58; exact lc_58 C hh X
  rw [if_neg h58]
  have hT : tgS 0 58 [284, 297, 311, 325, 368, 441, 475, 538, 601, 624, 647, 670, 693, 726, 759, 792, 825, 848, 871, 910, 953, 976, 1019, 1052, 1085, 1118, 1177, 1200, 1253, 1286, 1319, 1342, 1365, 1388, 1431, 1464, 1497, 1520, 1553, 1606, 1669, 1692, 1715, 1758, 1801, 1844, 1867, 1890, 1903, 1956, 1999, 2052, 2105, 2158, 2191, 2214, 2237, 2280, 2293] 2306 x = 2306 := by
    unfold tgS
    rw [if_pos (by omega)]
  rw [hT]
  exact s_sk
theorem lc_all {l : Launch} {b : Nat} {V : VV} {h bS Ls : Nat} {xs : Nat → Int} {L : List Int} {R : List Nat} {σ : SS} {z' : ZZ} (C : LCtx l b V h bS Ls xs) (hh : 60 ≤ h) (X : ∀ (pc : Nat) (Γ : GG) (z : ZZ), decode cL_law pc = .ok (.ireturn, 1) → V pc Γ z [vI 1]) (hF : LawB bS xs Ls (L, R, σ) = some (.inr 1, z')) : V 16 [(0, 5), (1, 2), (2, 2)] (L, R, σ) [] := by
  have h1 : SG V RtL [(0, 5), (1, 2), (2, 2)] 16 (LawB bS xs Ls) 0 [] (0, []) (0, []) :=
    s_sq (q := 18) (Γ1 := [(0, 5), (1, 2), (2, 2), (3, 0)]) (s_istore_n (Γ1 := [(0, 5), (1, 2), (2, 2), (3, 0)]) C.1 (e_iconst C.1 dL_law_16 rfl (q9 := 17) rfl) dL_law_17 rfl (by decide) (by decide) (q9 := 18) rfl)
      (s_sq (q := 2312) (Γ1 := [(0, 5), (1, 2), (2, 2), (3, 0)]) (s_lp (tb := 27) (pu := 2306) (qu := 2309) C.1 (c_le_f C.1 (e_iload_n (g := 3) C.1 dL_law_18 rfl rfl (q9 := 19) rfl) (e_bin (e_slen C dL_law_19 rfl dL_law_20 (q9 := 21) rfl) (e_bipush C.1 dL_law_21 rfl rfl (q9 := 23) rfl) (b_isub C.1 dL_law_23) (q9 := 24) rfl) dL_law_24 (by decide) (q9 := 27) rfl)
        (lc_body C hh X) (s_inc (g := 3) (Γ1 := [(0, 5), (1, 2), (2, 2), (3, 0)]) C.1 dL_law_2306 rfl (by decide) (by decide) (q9 := 2309) rfl) dL_law_2309 (by decide))
        (s_rtLaw X (e_iconst C.1 dL_law_2312 rfl (q9 := 2313) rfl) dL_law_2313))
  exact h1 L R σ _ _ hF rfl
