/-! a PARK, part by part: the reference -/
theorem cb4 (σ : SS) (k : Nat) : cb σ 4 k = σ 244 (1632 + k) := rfl
theorem wb4 (σ : SS) (k : Nat) : wb σ 4 k = σ 247 (48 + k) := rfl
section PO
variable {B : Nat → Int} {n : Nat} {σ : SS}
def RsF (σ σ' : SS) : Prop := Rm σ σ' ∧ (∀ j, ¬ (1632 ≤ j ∧ j < 2040) → σ' 244 j = σ 244 j) ∧ ∀ j, ¬ (48 ≤ j ∧ j < 60) → σ' 247 j = σ 247 j
theorem Rm_t {σ1 σ2 : SS} (h : Rm σ σ1) (h2 : Rm σ1 σ2) : Rm σ σ2 := ⟨fun x a b d => by rw [h2.1 x a b d, h.1 x a b d], fun k a b => by rw [h2.2 k a b, h.2 k a b]⟩
theorem RsF_r (σ : SS) : RsF σ σ := ⟨Rm_r _, fun _ _ => rfl, fun _ _ => rfl⟩
theorem RsF_t {σ1 σ2 : SS} (h : RsF σ σ1) (h2 : RsF σ1 σ2) : RsF σ σ2 := ⟨Rm_t h.1 h2.1, fun j hj => by rw [h2.2.1 j hj, h.2.1 j hj], fun j hj => by rw [h2.2.2 j hj, h.2.2 j hj]⟩
theorem RsF_f {σ1 : SS} (F : TmF σ σ1) : RsF σ σ1 := ⟨Rm_f (Rm_r _) F, fun j _ => by rw [F.1 244 (by omega)], fun j _ => by rw [F.1 247 (by omega)]⟩
def DrM (f : Int) (c w : Nat → Int) (σ : SS) : Prop := σ 239 25 = f ∧ cb σ 4 = c ∧ wb σ 4 = w
def MsQ (B : Nat → Int) (n : Nat) (X : PX) (σ σ' : SS) : Prop := TmS B n X.1 σ' ∧ RsF σ σ' ∧ (X.1.2.1 = 0 → DrM X.2.1 X.2.2.1 X.2.2.2 σ')
/-- before the sign at a part's end -/
def MsP (B : Nat → Int) (n : Nat) (X : PX) (σ : SS) (r : Int) (σ' : SS) : Prop := ∃ t : TS3, X.1 = tNdE B n t ∧ TmS B n t σ' ∧ RsF σ σ' ∧ (X.1.2.1 = 0 → DrM X.2.1 X.2.2.1 X.2.2.2 σ')
theorem ms_end {X : PX} {r : Int} {σ1 : SS} (h : MsP B n X σ r σ1) : Wd (F_X12_must 239 (if σ1 239 14 = 3 ∧ σ1 239 17 = 59 then 1 else 0) σ1) (fun _ σ2 => MsQ B n X σ σ2) := by
  obtain ⟨t, e, T, R, D⟩ := h
  refine Wd_mono (d_end T) (fun r2 σ2 h2 => ?_)
  obtain ⟨T2, F2, _⟩ := h2
  refine ⟨by rw [e]; exact T2, RsF_t R (RsF_f F2), fun g => ?_⟩
  obtain ⟨d1, d2, d3⟩ := D g
  refine ⟨by rw [F2.2 25 (by omega)]; exact d1, ?_, ?_⟩
  · rw [← d2]; unfold cb; rw [F2.1 244 (by omega)]
  · rw [← d3]; unfold wb; rw [F2.1 247 (by omega)]
variable {s : TS3} {f : Int} {c w : Nat → Int}
theorem tBlm_E {k : Int} (hk : k ≠ 0) (t : TS3) : tBlm B n k t = tNdE B n (tBlm B n k t) := (tNdE_0 (tBlm_1 hk)).symm
theorem ms_size (T : TmS B n s σ) (g : s.2.1 = 0) (h4 : ¬ tKd B n s.1 = 4) (D : DrM f c w σ) : Wd (F_X12_readPark 239 σ) (MsP B n (stZ B n s f c w) σ) := by
  refine Wd_mono (d_size T g h4 D.1) (fun r σ1 h => ?_)
  obtain ⟨T1, R1, x7, x4, xv⟩ := h
  refine ⟨_, rfl, T1, ⟨R1, fun j hj => x4 j (by omega) (by omega), fun j _ => by rw [x7]⟩, fun q => ?_⟩
  obtain ⟨y0, y1, y2⟩ := xv (tNdE_m q)
  refine ⟨y0, ?_, by show wb σ1 4 = w; rw [← D.2.2]; unfold wb; rw [x7]⟩
  funext k
  rw [cb4]
  show σ1 244 (1632 + k) = szC c _ _ k
  by_cases e0 : k = 0
  · subst e0; rw [szC_0]; exact y1
  · by_cases e1 : k = 1
    · subst e1; rw [szC_1]; exact y2
    · rw [szC_ne (by omega), ← D.2.1, cb4]
      exact x4 _ (by omega) (by omega)
theorem ms_rule {i : Nat} (i3 : i < 3) (hi : Int) (T : TmS B n s σ) (g : s.2.1 = 0) (h4 : ¬ tKd B n s.1 = 4) (D : DrM f c w σ) : Wd (F_X12_readOnce 239 i hi σ) (MsP B n (stRu B n i hi s f c w) σ) := by
  refine Wd_mono (d_rule T g h4 D.1 i3 hi) (fun r σ1 h => ?_)
  obtain ⟨T1, R1, x7, x4, xv⟩ := h
  refine ⟨_, rfl, T1, ⟨R1, fun j hj => x4 j (by omega), fun j _ => by rw [x7]⟩, fun q => ?_⟩
  obtain ⟨y0, y1⟩ := xv (tNdE_m q)
  refine ⟨y0, ?_, by show wb σ1 4 = w; rw [← D.2.2]; unfold wb; rw [x7]⟩
  funext k
  rw [cb4]
  show σ1 244 (1632 + k) = upc c (4 + i) _ k
  by_cases e0 : k = 4 + i
  · subst e0
    rw [upc_same, show 1632 + (4 + i) = 1636 + i by omega]
    exact y1
  · rw [upc_ne e0, ← D.2.1, cb4]
    exact x4 _ (by omega)
theorem ms_pond (T : TmS B n s σ) (D : DrM f c w σ) (hw : WH c) : Wd (F_X12_readPond 239 σ) (MsP B n (stPo B n s f c w) σ) := by
  have eW : σ 244 1632 = c 0 := by rw [← D.2.1]; rfl
  have eD : σ 244 1633 = c 1 := by rw [← D.2.1]; rfl
  refine Wd_mono (d_pond T D.1 eW eD hw.1 hw.2.1) (fun r σ1 h => ?_)
  obtain ⟨T1, R1, x7, x25, x4, xv⟩ := h
  refine ⟨_, rfl, T1, ⟨R1, x4, fun j _ => by rw [x7]⟩, fun q => ?_⟩
  have h : (tPond B n (hsO f 3) (c 0) (c 1) s).2.1 = 0 := q
  unfold tPond at h
  have h5 := tNdE_m h
  have v5 := (tNdN_v h5).2
  have h4 := tNdN_m h5
  have v4 := (tNdN_v h4).2
  have y := xv h5
  refine ⟨by rw [x25]; exact D.1, ?_, by show wb σ1 4 = w; rw [← D.2.2]; unfold wb; rw [x7]⟩
  funext k
  rw [cb4, y]
  show _ = upc c (106 + 6 * tNm B n (tNdN B n 0 (c 0 - 1) (tAdv B n (tBeh B n (hsO f 3) s))).1 + tNm B n (tAdv B n (tBeh B n (hsO f 3) s)).1).toNat 1 k
  generalize tNm B n (tNdN B n 0 (c 0 - 1) (tAdv B n (tBeh B n (hsO f 3) s))).1 = yy at *
  generalize tNm B n (tAdv B n (tBeh B n (hsO f 3) s)).1 = xx at *
  have e : (1738 + 6 * yy + xx).toNat = 1632 + (106 + 6 * yy + xx).toNat := by omega
  rw [e]
  by_cases e0 : k = (106 + 6 * yy + xx).toNat
  · rw [← e0, upc_same, ups_11]
  · rw [upc_ne e0, upsN (by omega), ← D.2.1, cb4]
theorem Mb6_P {X : PX} {t : TS3} {r : Int} {σ1 : SS} (e : X.1 = tNdE B n t) (n1 : ¬ t.2.1 = 0) (h : Mb6 B n t σ r σ1) : MsP B n X σ r σ1 := ⟨t, e, h.1, ⟨h.2.1, h.2.2.1, h.2.2.2⟩, fun q => by rw [e] at q; exact absurd (tNdE_m q) n1⟩
theorem ms_tune (T : TmS B n s σ) (g : s.2.1 = 0) (h4 : ¬ tKd B n s.1 = 4) (D : DrM f c w σ) (hw : WH c) : Wd (F_X12_readTune 239 σ) (MsP B n (stT B n s f c w) σ) := by
  unfold stT
  by_cases g6 : c 2 = 6
  · rw [if_pos g6]
    exact Wd_mono (d_tune6 T g h4 (by rw [D.2.1]; exact g6)) (fun r σ1 h => Mb6_P (tBlm_E (by decide) _) (tBlm_1 (by omega)) h)
  · rw [if_neg g6]
    have h2 := hw.2.2.1
    obtain ⟨m, hm⟩ : ∃ m : Nat, c 2 = (m : Int) := ⟨(c 2).toNat, by omega⟩
    have hm2 : (c 2).toNat = m := by omega
    have m6 : m < 6 := by omega
    have tu := d_tune T g (by rw [D.2.1]; exact hw) (m := m) (by rw [D.2.1]; exact hm) m6
    rw [D.2.1, D.2.2] at tu
    rw [hm2]
    refine Wd_mono tu (fun r σ1 h => ?_)
    obtain ⟨T1, R1, x4, x7, xv⟩ := h
    refine ⟨_, rfl, T1, ⟨R1, x4, fun j hj => x7 j (by omega)⟩, fun q => ?_⟩
    obtain ⟨y0, y1, y2, y3, y4, y5, y6⟩ := xv (tNdE_m q)
    refine ⟨by rw [y0]; exact D.1, ?_, ?_⟩
    · funext k
      rw [cb4]
      show σ1 244 (1632 + k) = tuC c m _ _ _ k
      by_cases e1 : k = 10 + m
      · subst e1; rw [tuC_1, show 1632 + (10 + m) = 1642 + m by omega]; exact y2
      · by_cases e2 : k = 16 + m
        · subst e2; rw [tuC_2, show 1632 + (16 + m) = 1648 + m by omega]; exact y3
        · by_cases e3 : k = 22 + m
          · subst e3; rw [tuC_3, show 1632 + (22 + m) = 1654 + m by omega]; exact y4
          · by_cases e4 : k = 2
            · subst e4; rw [tuC_m]; exact y5
            · rw [tuC_ne e1 e2 e3 e4, ← D.2.1, cb4]
              exact y6 _ (by omega) (by omega) (by omega) (by omega)
    · funext k
      rw [wb4]
      show σ1 247 (48 + k) = upc w m _ k
      by_cases e1 : k = m
      · subst e1; rw [upc_same]; exact y1
      · rw [upc_ne e1, ← D.2.2, wb4]
        exact x7 _ (by omega)
theorem ms_band (T : TmS B n s σ) (g : s.2.1 = 0) (h4 : ¬ tKd B n s.1 = 4) (D : DrM f c w σ) (hw : WH c) : Wd (F_X12_readBand 239 σ) (MsP B n (stB B n s f c w) σ) := by
  unfold stB
  by_cases g6 : c 3 = 6
  · rw [if_pos g6]
    exact Wd_mono (d_band6 D.2.1 D.2.2 hw g6 T g h4 D.1) (fun r σ1 h => Mb6_P (tBlm_E (by decide) _) (tBlm_1 (by omega)) h)
  · rw [if_neg g6]
    have h3 := hw.2.2.2.1
    obtain ⟨b, hb⟩ : ∃ b : Nat, c 3 = (b : Int) := ⟨(c 3).toNat, by omega⟩
    have hb2 : (c 3).toNat = b := by omega
    have b6 : b < 6 := by omega
    have ba := d_band D.2.1 D.2.2 hw hb b6 T g D.1
    refine Wd_mono ba (fun r σ1 h => ?_)
    obtain ⟨⟨R1, x25, x4, x7⟩, E⟩ := h
    have RR : RsF σ σ1 := ⟨R1, x4, fun j hj => x7 j (by omega)⟩
    have key : ∃ t : TS3, bdS B n c w (hsO f 3) s = tNdE B n t ∧ TmS B n t σ1 ∧ (t.2.1 = 0 → MbV B n c (tBd0 B n c w (hsO f 3) s) b (tWd B n (tAdv B n (tBeh B n (hsO f 3) s)).1) (bdN B n c w (hsO f 3) s) σ σ1 ∧ σ1 244 (1696 + b) = (bdN B n c w (hsO f 3) s : Int) ∧ ∀ k, k < bdN B n c w (hsO f 3) s → k < 6 → (pS B n (nmF w 0 (c 2).toNat) (k + 1) (tAdv B n (tB3 B n c (tBd0 B n c w (hsO f 3) s)))).2.1 = 0 → σ1 244 (1702 + 6 * b + k) = vEnt B n (nmF w 0 (c 2).toNat) (pS B n (nmF w 0 (c 2).toNat) k (tAdv B n (tB3 B n c (tBd0 B n c w (hsO f 3) s))))) := by
      unfold bdS bdN
      rcases E with ⟨q, T1, y⟩ | ⟨q, j, j1, nc, cc, T1, y⟩
      · rw [if_neg q, if_neg q]
        exact ⟨_, rfl, T1, fun h => ⟨(y h).1, (y h).2, fun k hk => by omega⟩⟩
      · rw [if_pos q, if_pos q]
        have ej := pJ_u j1.1 nc cc
        rw [← ej]
        exact ⟨_, rfl, T1, y⟩
    obtain ⟨t, et, T1, key⟩ := key
    refine ⟨t, et, T1, RR, fun q => ?_⟩
    have q : (bdS B n c w (hsO f 3) s).2.1 = 0 := q
    have bv := bd_v q
    have l6 := bv.2.2.2.2.2.2.2.1
    have lv := bv.2.2.2.2.2.2.2.2
    rw [et] at q
    obtain ⟨⟨z0, z1, z2, z3, z4, z5, z6, z7⟩, y7, ye⟩ := key (tNdE_m q)
    have ye : ∀ k, k < bdN B n c w (hsO f 3) s → σ1 244 (1702 + 6 * b + k) = vEnt B n (nmF w 0 (c 2).toNat) (pS B n (nmF w 0 (c 2).toNat) k (tAdv B n (tB3 B n c (tBd0 B n c w (hsO f 3) s)))) := fun k hk => ye k hk (by omega) (lv k hk)
    refine ⟨by rw [x25]; exact D.1, ?_, ?_⟩
    · show cb σ1 4 = bdC B n c w (hsO f 3) s
      unfold bdC
      rw [hb2]
      obtain ⟨ent, he⟩ : ∃ ent : Nat → Int, ent = fun k => vEnt B n (nmF w 0 (c 2).toNat) (pS B n (nmF w 0 (c 2).toNat) k (tAdv B n (tB3 B n c (tBd0 B n c w (hsO f 3) s)))) := ⟨_, rfl⟩
      have ye : ∀ k, k < bdN B n c w (hsO f 3) s → σ1 244 (1702 + 6 * b + k) = ent k := fun k hk => by rw [he]; exact ye k hk
      rw [← he]
      clear he bv lv key T1 ba E
      generalize bdN B n c w (hsO f 3) s = len at *
      funext k
      rw [cb4]
      by_cases e0 : k = 3
      · subst e0; rw [baC_3]; exact z6
      · by_cases e1 : k = 28 + b
        · subst e1; rw [baC_x b6, show 1632 + (28 + b) = 1660 + b by omega]; exact z1
        · by_cases e2 : k = 34 + b
          · subst e2; rw [baC_y b6, show 1632 + (34 + b) = 1666 + b by omega]; exact z2
          · by_cases e3 : k = 40 + b
            · subst e3; rw [baC_s b6, show 1632 + (40 + b) = 1672 + b by omega]; exact z3
            · by_cases e4 : k = 46 + b
              · subst e4; rw [baC_l b6, show 1632 + (46 + b) = 1678 + b by omega]; exact z4
              · by_cases e5 : k = 52 + b
                · subst e5; rw [baC_m b6, show 1632 + (52 + b) = 1684 + b by omega]; exact z5
                · by_cases e6 : k = 64 + b
                  · subst e6; rw [baC_n b6, show 1632 + (64 + b) = 1696 + b by omega]; exact y7
                  · by_cases e7 : 70 + 6 * b ≤ k ∧ k < 70 + 6 * b + len
                    · obtain ⟨i, hi⟩ : ∃ i : Nat, k = 70 + 6 * b + i := ⟨k - (70 + 6 * b), by omega⟩
                      subst hi
                      rw [baC_e b6 (by omega), show 1632 + (70 + 6 * b + i) = 1702 + 6 * b + i by omega]
                      exact ye i (by omega)
                    · rw [baC_ne e0 e1 e2 e3 e4 e5 e6 e7, ← D.2.1, cb4]
                      exact z7 _ (by omega) (by omega) (by omega) (by omega) (by omega) (by omega) (by omega) (by omega)
    · funext k
      rw [wb4]
      show σ1 247 (48 + k) = upc w (6 + (c 3).toNat) _ k
      rw [hb2]
      by_cases e1 : k = 6 + b
      · subst e1; rw [upc_same, show 48 + (6 + b) = 54 + b by omega]; exact z0
      · rw [upc_ne e1, ← D.2.2, wb4]
        exact x7 _ (by omega)
end PO
