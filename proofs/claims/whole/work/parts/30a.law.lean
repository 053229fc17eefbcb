/-! the law's loop -/
def LCtx (l : Launch) (b : Nat) (V : VV) (h bS Ls : Nat) (xs : Nat → Int) : Prop := Ctx l b V cL_law RL 4 h ∧
  (∀ (pc : Nat) (Γ : GG) (z : ZZ) (st : List Value) (g : Nat), Γ[g]? = some (0, 5) → z.2.1.getD 0 0 = bS → decode cL_law pc = .ok (.aload_n 0, 1) → V (pc + 1) Γ z (.ref bS :: st) → V pc Γ z st) ∧
  (∀ (pc : Nat) (Γ : GG) (z : ZZ) (st : List Value) (j : Int), inI j → 0 ≤ j → j < Ls → decode cL_law pc = .ok (.iaload, 1) → V (pc + 1) Γ z (vI (xs j.toNat) :: st) → V pc Γ z (vI j :: .ref bS :: st)) ∧
  (∀ (pc : Nat) (Γ : GG) (z : ZZ) (st : List Value), decode cL_law pc = .ok (.arraylength, 1) → V (pc + 1) Γ z (vI (Ls : Int) :: st) → V pc Γ z (.ref bS :: st)) ∧
  (∀ j : Nat, inI (xs j)) ∧ inI (Ls : Int)
def scrI (bS : Nat) (xs : Nat → Int) (Ls : Nat) (e : XI) : XI := fun z => bn (e z) fun x s => if z.2.1.getD 0 0 = bS ∧ 0 ≤ x ∧ x < Ls then some (xs x.toNat, s) else none
def slenI (bS : Nat) (Ls : Nat) : XI := fun z => if z.2.1.getD 0 0 = bS then some ((Ls : Int), z.2.2) else none
def RtL : Int → SS → Prop := fun x _ => x = 1
def shlL (x y : Int) : Int := (Int64.ofInt x <<< ((Int32.ofInt y).toInt64 &&& 63)).toInt
def orL (x y : Int) : Int := (Int64.ofInt x ||| Int64.ofInt y).toInt
def andL (x y : Int) : Int := (Int64.ofInt x &&& Int64.ofInt y).toInt
section LAWW
variable {l : Launch} {b : Nat} {V : VV} {cc : ByteArray} {own : String} {nL h : Nat} {Γ : GG} {d p q r bS Ls : Nat} {xs : Nat → Int}
theorem i_lshl (C : Ctx l b V cc own nL h) {pc : Nat} {z : ZZ} {st : List Value} {x y : Int} (hd : decode cc pc = .ok (.lshl, 1)) (k : V (pc + 1) Γ z (vL (shlL x y) :: st)) : V pc Γ z (vI y :: vL x :: st) := by
  obtain ⟨p, e, Rm, s, m, args, below, meth, c, cells, slots, Q, D, tc, rfl, hx, hb, hml, hown, hts, hK, hfr, hlo, hce, hsl⟩ := C
  intro okσ okl ls H locs hl hH hA
  have k' := k okσ okl ls H locs hl hH hA
  rw [vL, shlL, Int64.ofInt_toInt] at k'
  exact lv_lshl hx hb hd rfl k'
theorem i_lor (C : Ctx l b V cc own nL h) {pc : Nat} {z : ZZ} {st : List Value} {x y : Int} (hd : decode cc pc = .ok (.lor, 1)) (k : V (pc + 1) Γ z (vL (orL x y) :: st)) : V pc Γ z (vL y :: vL x :: st) := by
  obtain ⟨p, e, Rm, s, m, args, below, meth, c, cells, slots, Q, D, tc, rfl, hx, hb, hml, hown, hts, hK, hfr, hlo, hce, hsl⟩ := C
  intro okσ okl ls H locs hl hH hA
  have k' := k okσ okl ls H locs hl hH hA
  rw [vL, orL, Int64.ofInt_toInt] at k'
  exact lv_lor hx hb hd k'
theorem i_land (C : Ctx l b V cc own nL h) {pc : Nat} {z : ZZ} {st : List Value} {x y : Int} (hd : decode cc pc = .ok (.land, 1)) (k : V (pc + 1) Γ z (vL (andL x y) :: st)) : V pc Γ z (vL y :: vL x :: st) := by
  obtain ⟨p, e, Rm, s, m, args, below, meth, c, cells, slots, Q, D, tc, rfl, hx, hb, hml, hown, hts, hK, hfr, hlo, hce, hsl⟩ := C
  intro okσ okl ls H locs hl hH hA
  have k' := k okσ okl ls H locs hl hH hA
  rw [vL, andL, Int64.ofInt_toInt] at k'
  exact lv_land hx hb hd k'
theorem b_lor (C : Ctx l b V cc own nL h) (hd : decode cc r = .ok (.lor, 1)) : ∀ (z : ZZ) (st : List Value) (x y v : Int), inL x → inL y → (fun x y => some (orL x y)) x y = some v → (inL v → V (r + 1) Γ z (vL v :: st)) → V r Γ z (vL y :: vL x :: st) := by
  intro z st x y v hx hy e k
  cases e
  exact i_lor C hd (k (inL_toInt _))
theorem b_land (C : Ctx l b V cc own nL h) (hd : decode cc r = .ok (.land, 1)) : ∀ (z : ZZ) (st : List Value) (x y v : Int), inL x → inL y → (fun x y => some (andL x y)) x y = some v → (inL v → V (r + 1) Γ z (vL v :: st)) → V r Γ z (vL y :: vL x :: st) := by
  intro z st x y v hx hy e k
  cases e
  exact i_land C hd (k (inL_toInt _))
theorem e_lshl {a c : XI} (C : Ctx l b V cc own nL h) (h1 : EL V Γ d p a q) (h2 : EI V Γ (d + 2) q c r) (hd : decode cc r = .ok (.lshl, 1)) {q9 : Nat} (hq : r + 1 = q9) : EL V Γ d p (op2 (fun x y => some (shlL x y)) a c) q9 := by
  subst hq
  intro L R σ st x σ' hdp he k
  obtain ⟨u, s, e1, e2⟩ := bn_inv he
  obtain ⟨y, s2, e3, e4⟩ := bn_inv e2
  cases e4
  exact h1 L R σ st u s hdp e1 (fun hu => h2 L R s (vL u :: st) y _ (by rw [dep_l]; omega) e3 (fun hy => i_lshl C hd (k (inL_toInt _))))
theorem e_scr (C : LCtx l b V h bS Ls xs) {i : XI} {p1 : Nat} {G : GG} (hd0 : decode cL_law p = .ok (.aload_n 0, 1)) (hp1 : p + 1 = p1) (hi : EI V ((0, 5) :: G) (d + 1) p1 i r) (hd : decode cL_law r = .ok (.iaload, 1)) {q9 : Nat} (hq : r + 1 = q9) : EI V ((0, 5) :: G) d p (scrI bS xs Ls i) q9 := by
  subst hq
  subst hp1
  obtain ⟨C0, C1, C2, C3, C4, C5⟩ := C
  intro L R σ st x σ' hdp he k
  obtain ⟨y, s, e1, e2⟩ := bn_inv he
  obtain ⟨⟨c0, c1, c2⟩, e3⟩ := ite_inv e2
  cases e3
  exact C1 p _ _ st 0 rfl c0 hd0 (hi L R σ (.ref bS :: st) y _ (by rw [dep_r]; omega) e1 (fun hy => C2 r _ _ st y hy c1 c2 hd (k (C4 _))))
theorem e_slen (C : LCtx l b V h bS Ls xs) {p1 : Nat} {G : GG} (hd0 : decode cL_law p = .ok (.aload_n 0, 1)) (hp1 : p + 1 = p1) (hd : decode cL_law p1 = .ok (.arraylength, 1)) {q9 : Nat} (hq : p1 + 1 = q9) : EI V ((0, 5) :: G) d p (slenI bS Ls) q9 := by
  subst hq
  subst hp1
  obtain ⟨C0, C1, C2, C3, C4, C5⟩ := C
  intro L R σ st x σ' hdp he k
  obtain ⟨c0, e3⟩ := ite_inv he
  cases e3
  exact C1 p _ _ st 0 rfl c0 hd0 (C3 (p + 1) _ _ st hd (k C5))
theorem s_rtLaw {e : XI} {B K : Nat × GG} {Γ1 : GG} (X : ∀ (pc : Nat) (Γ : GG) (z : ZZ), decode cL_law pc = .ok (.ireturn, 1) → V pc Γ z [vI 1]) (h1 : EI V Γ 0 p e q) (hd : decode cL_law q = .ok (.ireturn, 1)) : SG V RtL Γ p (rtZ e) r Γ1 B K := by
  intro L R σ o z' he k
  obtain ⟨x, s, e1, e2⟩ := bn_inv he
  obtain ⟨c1, e2⟩ := ite_inv e2
  cases e2
  have k1 : x = 1 := k
  subst k1
  exact h1 L R σ [] _ _ dep_0 e1 (fun hx => X q Γ _ hd)
end LAWW
theorem e_caV_iiiii_3 {l : Launch} {b : Nat} {V : VV} {cc : ByteArray} {own : String} {nL h : Nat} {Γ : GG} {d p p0 p1 p2 p3 p4 p5 : Nat} {r : XR} {e1 : XI} {e2 : XI} {e3 : XI} {e4 : XI} {e5 : XI} {F : Nat → Int → Int → Int → Int → Int → SS → Option (Int × SS)} {y : MethodName} {cy : ByteArray} {nLy hy ci index : Nat} {ret : Option FieldType} (C : Ctx l b V cc own nL h) (h0 : ER b V Γ d p r p0) (h1 : EI V Γ (d + 1) p0 e1 p1) (h2 : EI V Γ (d + 2) p1 e2 p2) (h3 : EI V Γ (d + 3) p2 e3 p3) (h4 : EI V Γ (d + 4) p3 e4 p4) (h5 : EI V Γ (d + 5) p4 e5 p5) (hM : MV_iiiii l y cy nLy ret hy 3 ci F) (hY : YV y cy nLy ret 5 ci) (hl1 : Cond.methodLink own index y ∈ gtb) (hh : hy + 1 ≤ h) (hd8 : d ≤ 8) (hd : decode cc p5 = .ok (.invokevirtual index, 3)) {q9 : Nat} (hq : p5 + 3 = q9) : EI V Γ d p (caV_iiiii ci F r e1 e2 e3 e4 e5) q9 := by
  subst hq
  intro L R σ st x σ' hdp he k
  obtain ⟨a, s0, ea, he⟩ := bn_inv he
  obtain ⟨x1, s1, ee1, he⟩ := bn_inv he
  obtain ⟨x2, s2, ee2, he⟩ := bn_inv he
  obtain ⟨x3, s3, ee3, he⟩ := bn_inv he
  obtain ⟨x4, s4, ee4, he⟩ := bn_inv he
  obtain ⟨x5, s5, ee5, he⟩ := bn_inv he
  obtain ⟨⟨c1, c2⟩, he⟩ := ite_inv he
  exact (h0 L R σ _ a s0 hdp ea (h1 L R s0 _ x1 s1 (by rw [dep_r]; omega) ee1 (fun hx1 => (h2 L R s1 _ x2 s2 (by rw [dep_i, dep_r]; omega) ee2 (fun hx2 => (h3 L R s2 _ x3 s3 (by rw [dep_i, dep_i, dep_r]; omega) ee3 (fun hx3 => (h4 L R s3 _ x4 s4 (by rw [dep_i, dep_i, dep_i, dep_r]; omega) ee4 (fun hx4 => (h5 L R s4 _ x5 s5 (by rw [dep_i, dep_i, dep_i, dep_i, dep_r]; omega) ee5 (fun hx5 => (by obtain ⟨hY1, hY2, hY3, q, hq1, hq2⟩ := hY; exact i_callV (As := [vI x1, vI x2, vI x3, vI x4, vI x5]) (st := st) C (hM a x1 x2 x3 x4 x5 s5 _ _ c1 c2 hx1 hx2 hx3 hx4 hx5 he) hY1 ⟨hY2, hY3⟩ hl1 hh rfl rfl c1 c2 hq1 hq2 (Nat.le_trans hdp hd8) hd (fun hr => k hr)))))))))))))
theorem ml_BandParkLaw_13 : Cond.methodLink RL 13 yX11_status ∈ gtb := (gq_3 119 (by decide +kernel) rfl)
theorem ml_BandParkLaw_17 : Cond.methodLink RL 17 yX12_status ∈ gtb := (gq_7 152 (by decide +kernel) rfl)
theorem ml_BandParkLaw_18 : Cond.methodLink RL 18 yX11_top ∈ gtb := (gq_3 123 (by decide +kernel) rfl)
theorem ml_BandParkLaw_22 : Cond.methodLink RL 22 yX12_top ∈ gtb := (gq_7 156 (by decide +kernel) rfl)
theorem ml_BandParkLaw_23 : Cond.methodLink RL 23 yX11_bottom ∈ gtb := (gq_3 127 (by decide +kernel) rfl)
theorem ml_BandParkLaw_26 : Cond.methodLink RL 26 yX12_bottom ∈ gtb := (gq_7 160 (by decide +kernel) rfl)
theorem ml_BandParkLaw_27 : Cond.methodLink RL 27 yX11_tray ∈ gtb := (gq_3 131 (by decide +kernel) rfl)
theorem ml_BandParkLaw_31 : Cond.methodLink RL 31 yX12_tray ∈ gtb := (gq_7 164 (by decide +kernel) rfl)
theorem ml_BandParkLaw_34 : Cond.methodLink RL 34 yX11_write ∈ gtb := (gq_3 150 (by decide +kernel) rfl)
theorem ml_BandParkLaw_38 : Cond.methodLink RL 38 yX12_write ∈ gtb := (gq_7 172 (by decide +kernel) rfl)
theorem ml_BandParkLaw_39 : Cond.methodLink RL 39 yX11_read ∈ gtb := (gq_3 171 (by decide +kernel) rfl)
theorem ml_BandParkLaw_43 : Cond.methodLink RL 43 yX12_read ∈ gtb := (gq_7 187 (by decide +kernel) rfl)
theorem ml_BandParkLaw_44 : Cond.methodLink RL 44 yX11_pour ∈ gtb := (gq_3 184 (by decide +kernel) rfl)
theorem ml_BandParkLaw_48 : Cond.methodLink RL 48 yX12_pour ∈ gtb := (gq_7 192 (by decide +kernel) rfl)
theorem ml_BandParkLaw_49 : Cond.methodLink RL 49 yX11_feed ∈ gtb := (gq_3 191 (by decide +kernel) rfl)
theorem ml_BandParkLaw_53 : Cond.methodLink RL 53 yX12_feed ∈ gtb := (gq_7 196 (by decide +kernel) rfl)
theorem ml_BandParkLaw_54 : Cond.methodLink RL 54 yX11_park ∈ gtb := (gq_3 204 (by decide +kernel) rfl)
theorem ml_BandParkLaw_58 : Cond.methodLink RL 58 yX12_park ∈ gtb := (gq_7 208 (by decide +kernel) rfl)
theorem ml_BandParkLaw_59 : Cond.methodLink RL 59 yX11_evenings ∈ gtb := (gq_4 138 (by decide +kernel) rfl)
theorem ml_BandParkLaw_62 : Cond.methodLink RL 62 yX12_evenings ∈ gtb := (gq_8 181 (by decide +kernel) rfl)
theorem ml_BandParkLaw_63 : Cond.methodLink RL 63 yX11_fault ∈ gtb := (gq_4 188 (by decide +kernel) rfl)
theorem ml_BandParkLaw_66 : Cond.methodLink RL 66 yX12_fault ∈ gtb := (gq_7 204 (by decide +kernel) rfl)
theorem ml_BandParkLaw_67 : Cond.methodLink RL 67 yX11_many ∈ gtb := (gq_4 192 (by decide +kernel) rfl)
theorem ml_BandParkLaw_70 : Cond.methodLink RL 70 yX12_many ∈ gtb := (gq_8 205 (by decide +kernel) rfl)
theorem ml_BandParkLaw_71 : Cond.methodLink RL 71 yX11_tune ∈ gtb := (gq_5 10 (by decide +kernel) rfl)
theorem ml_BandParkLaw_75 : Cond.methodLink RL 75 yX12_tune ∈ gtb := (gq_9 17 (by decide +kernel) rfl)
theorem ml_BandParkLaw_76 : Cond.methodLink RL 76 yX11_band ∈ gtb := (gq_5 15 (by decide +kernel) rfl)
theorem ml_BandParkLaw_79 : Cond.methodLink RL 79 yX12_band ∈ gtb := (gq_9 26 (by decide +kernel) rfl)
theorem ml_BandParkLaw_80 : Cond.methodLink RL 80 yX11_entry ∈ gtb := (gq_5 23 (by decide +kernel) rfl)
theorem ml_BandParkLaw_83 : Cond.methodLink RL 83 yX12_entry ∈ gtb := (gq_9 35 (by decide +kernel) rfl)
theorem ml_BandParkLaw_84 : Cond.methodLink RL 84 yX11_pond ∈ gtb := (gq_5 27 (by decide +kernel) rfl)
theorem ml_BandParkLaw_87 : Cond.methodLink RL 87 yX12_pond ∈ gtb := (gq_9 39 (by decide +kernel) rfl)
theorem ml_BandParkLaw_88 : Cond.methodLink RL 88 yX11_hour ∈ gtb := (gq_5 32 (by decide +kernel) rfl)
theorem ml_BandParkLaw_91 : Cond.methodLink RL 91 yX12_hour ∈ gtb := (gq_9 51 (by decide +kernel) rfl)
theorem ml_BandParkLaw_92 : Cond.methodLink RL 92 yX11_wind ∈ gtb := (gq_5 67 (by decide +kernel) rfl)
theorem ml_BandParkLaw_96 : Cond.methodLink RL 96 yX12_wind ∈ gtb := (gq_9 61 (by decide +kernel) rfl)
theorem ml_BandParkLaw_97 : Cond.methodLink RL 97 yX11_rain ∈ gtb := (gq_5 75 (by decide +kernel) rfl)
theorem ml_BandParkLaw_101 : Cond.methodLink RL 101 yX12_rain ∈ gtb := (gq_9 70 (by decide +kernel) rfl)
theorem ml_BandParkLaw_102 : Cond.methodLink RL 102 yX11_set ∈ gtb := (gq_5 83 (by decide +kernel) rfl)
theorem ml_BandParkLaw_106 : Cond.methodLink RL 106 yX12_set ∈ gtb := (gq_9 74 (by decide +kernel) rfl)
theorem ml_BandParkLaw_107 : Cond.methodLink RL 107 yX11_drop ∈ gtb := (gq_5 92 (by decide +kernel) rfl)
theorem ml_BandParkLaw_110 : Cond.methodLink RL 110 yX12_drop ∈ gtb := (gq_9 78 (by decide +kernel) rfl)
theorem ml_BandParkLaw_111 : Cond.methodLink RL 111 yX11_move ∈ gtb := (gq_5 96 (by decide +kernel) rfl)
theorem ml_BandParkLaw_114 : Cond.methodLink RL 114 yX12_move ∈ gtb := (gq_9 82 (by decide +kernel) rfl)
theorem ml_BandParkLaw_115 : Cond.methodLink RL 115 yX11_train ∈ gtb := (gq_5 106 (by decide +kernel) rfl)
theorem ml_BandParkLaw_119 : Cond.methodLink RL 119 yX12_train ∈ gtb := (gq_9 86 (by decide +kernel) rfl)
theorem ml_BandParkLaw_120 : Cond.methodLink RL 120 yX11_soothe ∈ gtb := (gq_5 110 (by decide +kernel) rfl)
theorem ml_BandParkLaw_123 : Cond.methodLink RL 123 yX12_soothe ∈ gtb := (gq_9 90 (by decide +kernel) rfl)
theorem ml_BandParkLaw_124 : Cond.methodLink RL 124 yX11_rule ∈ gtb := (gq_5 114 (by decide +kernel) rfl)
theorem ml_BandParkLaw_127 : Cond.methodLink RL 127 yX12_rule ∈ gtb := (gq_9 94 (by decide +kernel) rfl)
theorem ml_BandParkLaw_128 : Cond.methodLink RL 128 yX11_dig ∈ gtb := (gq_5 122 (by decide +kernel) rfl)
theorem ml_BandParkLaw_132 : Cond.methodLink RL 132 yX12_dig ∈ gtb := (gq_9 100 (by decide +kernel) rfl)
theorem ml_BandParkLaw_133 : Cond.methodLink RL 133 yX11_plays ∈ gtb := (gq_5 126 (by decide +kernel) rfl)
theorem ml_BandParkLaw_136 : Cond.methodLink RL 136 yX12_plays ∈ gtb := (gq_9 104 (by decide +kernel) rfl)
theorem ml_BandParkLaw_137 : Cond.methodLink RL 137 yX11_heard ∈ gtb := (gq_5 135 (by decide +kernel) rfl)
theorem ml_BandParkLaw_141 : Cond.methodLink RL 141 yX12_heard ∈ gtb := (gq_9 108 (by decide +kernel) rfl)
theorem ml_BandParkLaw_142 : Cond.methodLink RL 142 yX11_loudest ∈ gtb := (gq_5 144 (by decide +kernel) rfl)
theorem ml_BandParkLaw_145 : Cond.methodLink RL 145 yX12_loudest ∈ gtb := (gq_9 112 (by decide +kernel) rfl)
theorem ml_BandParkLaw_146 : Cond.methodLink RL 146 yX11_holder ∈ gtb := (gq_5 157 (by decide +kernel) rfl)
theorem ml_BandParkLaw_149 : Cond.methodLink RL 149 yX12_holder ∈ gtb := (gq_9 120 (by decide +kernel) rfl)
theorem ml_BandParkLaw_150 : Cond.methodLink RL 150 yX11_lawns ∈ gtb := (gq_5 169 (by decide +kernel) rfl)
theorem ml_BandParkLaw_153 : Cond.methodLink RL 153 yX12_lawns ∈ gtb := (gq_9 128 (by decide +kernel) rfl)
theorem ml_BandParkLaw_154 : Cond.methodLink RL 154 yX11_ponds ∈ gtb := (gq_5 181 (by decide +kernel) rfl)
theorem ml_BandParkLaw_157 : Cond.methodLink RL 157 yX12_ponds ∈ gtb := (gq_9 132 (by decide +kernel) rfl)
theorem ml_BandParkLaw_158 : Cond.methodLink RL 158 yX11_copyHeld ∈ gtb := (gq_5 196 (by decide +kernel) rfl)
theorem ml_BandParkLaw_161 : Cond.methodLink RL 161 yX12_copyHeld ∈ gtb := (gq_9 143 (by decide +kernel) rfl)
theorem ml_BandParkLaw_162 : Cond.methodLink RL 162 yX11_holderIn ∈ gtb := (gq_5 201 (by decide +kernel) rfl)
theorem ml_BandParkLaw_165 : Cond.methodLink RL 165 yX12_holderIn ∈ gtb := (gq_9 152 (by decide +kernel) rfl)
theorem ml_BandParkLaw_166 : Cond.methodLink RL 166 yX11_pointsIn ∈ gtb := (gq_5 212 (by decide +kernel) rfl)
theorem ml_BandParkLaw_169 : Cond.methodLink RL 169 yX12_pointsIn ∈ gtb := (gq_9 172 (by decide +kernel) rfl)
theorem ml_BandParkLaw_170 : Cond.methodLink RL 170 yX11_lipsIn ∈ gtb := (gq_5 216 (by decide +kernel) rfl)
theorem ml_BandParkLaw_173 : Cond.methodLink RL 173 yX12_lipsIn ∈ gtb := (gq_9 180 (by decide +kernel) rfl)
theorem ml_BandParkLaw_174 : Cond.methodLink RL 174 yX11_tiredIn ∈ gtb := (gq_5 220 (by decide +kernel) rfl)
theorem ml_BandParkLaw_177 : Cond.methodLink RL 177 yX12_tiredIn ∈ gtb := (gq_9 184 (by decide +kernel) rfl)
theorem ml_BandParkLaw_178 : Cond.methodLink RL 178 yX11_changesIn ∈ gtb := (gq_5 224 (by decide +kernel) rfl)
theorem ml_BandParkLaw_181 : Cond.methodLink RL 181 yX12_changesIn ∈ gtb := (gq_9 188 (by decide +kernel) rfl)
theorem ml_BandParkLaw_182 : Cond.methodLink RL 182 yX11_holding ∈ gtb := (gq_5 228 (by decide +kernel) rfl)
theorem ml_BandParkLaw_185 : Cond.methodLink RL 185 yX12_holding ∈ gtb := (gq_9 192 (by decide +kernel) rfl)
theorem ml_BandParkLaw_186 : Cond.methodLink RL 186 yX11_holdingAt ∈ gtb := (gq_6 23 (by decide +kernel) rfl)
theorem ml_BandParkLaw_189 : Cond.methodLink RL 189 yX12_holdingAt ∈ gtb := (gq_9 215 (by decide +kernel) rfl)
theorem ml_BandParkLaw_190 : Cond.methodLink RL 190 yX11_best ∈ gtb := (gq_6 27 (by decide +kernel) rfl)
theorem ml_BandParkLaw_193 : Cond.methodLink RL 193 yX12_best ∈ gtb := (gq_9 219 (by decide +kernel) rfl)
theorem ml_BandParkLaw_194 : Cond.methodLink RL 194 yX11_bestLawns ∈ gtb := (gq_6 49 (by decide +kernel) rfl)
theorem ml_BandParkLaw_197 : Cond.methodLink RL 197 yX12_bestLawns ∈ gtb := (gq_9 227 (by decide +kernel) rfl)
theorem ml_BandParkLaw_198 : Cond.methodLink RL 198 yX11_low ∈ gtb := (gq_6 54 (by decide +kernel) rfl)
theorem ml_BandParkLaw_201 : Cond.methodLink RL 201 yX12_low ∈ gtb := (gq_9 231 (by decide +kernel) rfl)
theorem ml_BandParkLaw_202 : Cond.methodLink RL 202 yX11_game ∈ gtb := (gq_6 63 (by decide +kernel) rfl)
theorem ml_BandParkLaw_205 : Cond.methodLink RL 205 yX12_game ∈ gtb := (gq_9 235 (by decide +kernel) rfl)
theorem ml_BandParkLaw_206 : Cond.methodLink RL 206 yX11_moveOf ∈ gtb := (gq_6 82 (by decide +kernel) rfl)
theorem ml_BandParkLaw_209 : Cond.methodLink RL 209 yX12_moveOf ∈ gtb := (gq_10 11 (by decide +kernel) rfl)
theorem ml_BandParkLaw_210 : Cond.methodLink RL 210 yX11_ally ∈ gtb := (gq_6 91 (by decide +kernel) rfl)
theorem ml_BandParkLaw_213 : Cond.methodLink RL 213 yX12_ally ∈ gtb := (gq_10 15 (by decide +kernel) rfl)
theorem ml_BandParkLaw_214 : Cond.methodLink RL 214 yX11_stable ∈ gtb := (gq_6 104 (by decide +kernel) rfl)
theorem ml_BandParkLaw_217 : Cond.methodLink RL 217 yX12_stable ∈ gtb := (gq_10 31 (by decide +kernel) rfl)
theorem ml_BandParkLaw_218 : Cond.methodLink RL 218 yX11_alliance ∈ gtb := (gq_6 115 (by decide +kernel) rfl)
theorem ml_BandParkLaw_221 : Cond.methodLink RL 221 yX12_alliance ∈ gtb := (gq_10 42 (by decide +kernel) rfl)
theorem ml_BandParkLaw_222 : Cond.methodLink RL 222 yX11_together ∈ gtb := (gq_6 124 (by decide +kernel) rfl)
theorem ml_BandParkLaw_225 : Cond.methodLink RL 225 yX12_together ∈ gtb := (gq_10 46 (by decide +kernel) rfl)
theorem ml_BandParkLaw_226 : Cond.methodLink RL 226 yX11_fits ∈ gtb := (gq_6 134 (by decide +kernel) rfl)
theorem ml_BandParkLaw_229 : Cond.methodLink RL 229 yX12_fits ∈ gtb := (gq_10 53 (by decide +kernel) rfl)
theorem ml_BandParkLaw_230 : Cond.methodLink RL 230 yX11_fitsAt ∈ gtb := (gq_6 149 (by decide +kernel) rfl)
theorem ml_BandParkLaw_233 : Cond.methodLink RL 233 yX12_fitsAt ∈ gtb := (gq_10 70 (by decide +kernel) rfl)
theorem ml_BandParkLaw_234 : Cond.methodLink RL 234 yX11_quiet ∈ gtb := (gq_6 153 (by decide +kernel) rfl)
theorem ml_BandParkLaw_237 : Cond.methodLink RL 237 yX12_quiet ∈ gtb := (gq_10 74 (by decide +kernel) rfl)
theorem ml_BandParkLaw_238 : Cond.methodLink RL 238 yX11_quietSteps ∈ gtb := (gq_6 171 (by decide +kernel) rfl)
theorem ml_BandParkLaw_241 : Cond.methodLink RL 241 yX12_quietSteps ∈ gtb := (gq_10 90 (by decide +kernel) rfl)
theorem ml_BandParkLaw_242 : Cond.methodLink RL 242 yX11_wet ∈ gtb := (gq_6 176 (by decide +kernel) rfl)
theorem ml_BandParkLaw_245 : Cond.methodLink RL 245 yX12_wet ∈ gtb := (gq_10 94 (by decide +kernel) rfl)
theorem ml_BandParkLaw_246 : Cond.methodLink RL 246 yX11_live ∈ gtb := (gq_6 187 (by decide +kernel) rfl)
theorem ml_BandParkLaw_249 : Cond.methodLink RL 249 yX12_live ∈ gtb := (gq_10 99 (by decide +kernel) rfl)
theorem ml_BandParkLaw_250 : Cond.methodLink RL 250 yX11_lived ∈ gtb := (gq_6 230 (by decide +kernel) rfl)
theorem ml_BandParkLaw_253 : Cond.methodLink RL 253 yX12_lived ∈ gtb := (gq_10 141 (by decide +kernel) rfl)
theorem ml_BandParkLaw_254 : Cond.methodLink RL 254 yX11_mean ∈ gtb := (gq_6 234 (by decide +kernel) rfl)
theorem ml_BandParkLaw_257 : Cond.methodLink RL 257 yX12_mean ∈ gtb := (gq_10 145 (by decide +kernel) rfl)
theorem ml_BandParkLaw_258 : Cond.methodLink RL 258 yX11_mark ∈ gtb := (gq_6 238 (by decide +kernel) rfl)
theorem ml_BandParkLaw_261 : Cond.methodLink RL 261 yX12_mark ∈ gtb := (gq_10 149 (by decide +kernel) rfl)
theorem ml_BandParkLaw_262 : Cond.methodLink RL 262 yX11_back ∈ gtb := (gq_7 2 (by decide +kernel) rfl)
theorem ml_BandParkLaw_265 : Cond.methodLink RL 265 yX12_back ∈ gtb := (gq_10 153 (by decide +kernel) rfl)
theorem kL_BandParkLaw_32 : Cond.constantLong RL 32 (Int64.ofInt 4294967295) ∈ gtb := (gq_10 157 (by decide +kernel) rfl)
