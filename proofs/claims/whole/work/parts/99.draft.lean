/-! what is meant, over a block c of the reference and over what all play p -/
theorem mul_bd {x y A B : Int} (hx : 0 ≤ x) (hA : x ≤ A) (hy : 0 ≤ y) (hB : y ≤ B) : 0 ≤ x * y ∧ x * y ≤ A * B :=
  ⟨Int.mul_nonneg hx hy, Int.mul_le_mul hA hB hy (by omega)⟩
theorem ex_some {a : Int} {P : Int → Prop} : (∃ v, some a = some v ∧ P v) = P a := by
  refine propext ⟨?_, fun h => ⟨a, rfl, h⟩⟩
  rintro ⟨v, h1, h2⟩
  cases h1
  exact h2
theorem cN1 : ((1 : Nat) : Int) = 1 := rfl
theorem zz3 {L L' : List Int} {R R' : List Nat} {s s' : SS} (h1 : L = L') (h2 : R = R') (h3 : s = s') : ((L, R, s) : ZZ) = (L', R', s') := by rw [h1, h2, h3]
theorem zz2 {L L' : List Int} {R : List Nat} {s : SS} (h1 : L = L') : ((L, R, s) : ZZ) = (L', R, s) := by rw [h1]
theorem ups_eq (σ : SS) (a k : Nat) (v : Int) (a' k' : Nat) : ups σ a k v a' k' = if a' = a ∧ k' = k then v else σ a' k' := rfl
theorem ncS (i : Nat) : ((i + 1 : Nat) : Int) = (i : Int) + 1 := rfl
theorem Wd_out {α β : Type} {x : Option (α × β)} {a : α} {b : β} (h : Wd x (fun r s => r = a ∧ s = b)) : x = some (a, b) := by
  obtain ⟨r, s, e, h1, h2⟩ := h
  rw [e, h1, h2]
theorem nn_iff {c : Prop} [Decidable c] : (¬ ¬ c) = c := propext Decidable.not_not
abbrev WH (c : Nat → Int) : Prop := (0 ≤ c 0 ∧ c 0 ≤ 6) ∧ (0 ≤ c 1 ∧ c 1 ≤ 5) ∧ (0 ≤ c 2 ∧ c 2 ≤ 6) ∧ (0 ≤ c 3 ∧ c 3 ≤ 6) ∧ (0 ≤ c 4 ∧ c 4 ≤ 9) ∧ (0 ≤ c 5 ∧ c 5 ≤ 9) ∧ (0 ≤ c 6 ∧ c 6 ≤ 16) ∧ (0 ≤ c 7 ∧ c 7 ≤ 12000) ∧ (0 ≤ c 8 ∧ c 8 ≤ 4) ∧ (0 ≤ c 9 ∧ c 9 ≤ 1)
abbrev enB (c : Nat → Int) (e : Int) : Prop := (0 ≤ e ∧ e < c 2) ∨ e = 6
abbrev WTi (c : Nat → Int) (t : Int) : Prop := (0 ≤ c (10 + t).toNat ∧ c (10 + t).toNat ≤ 20) ∧ (0 ≤ c (16 + t).toNat ∧ c (16 + t).toNat ≤ 9) ∧ (1 ≤ c (22 + t).toNat ∧ c (22 + t).toNat ≤ 99)
def WT (c : Nat → Int) : Prop := ∀ t : Int, 0 ≤ t → t < c 2 → WTi c t
abbrev WDi (c : Nat → Int) (b : Int) : Prop := (0 ≤ c (28 + b).toNat ∧ c (28 + b).toNat < c 0) ∧ (0 ≤ c (34 + b).toNat ∧ c (34 + b).toNat < c 1) ∧ (0 ≤ c (40 + b).toNat ∧ c (40 + b).toNat ≤ 20) ∧ (0 ≤ c (46 + b).toNat ∧ c (46 + b).toNat ≤ c (52 + b).toNat ∧ c (52 + b).toNat ≤ 99) ∧ (0 ≤ c (58 + b).toNat ∧ c (58 + b).toNat ≤ 90 * c 7) ∧ (0 ≤ c (64 + b).toNat ∧ c (64 + b).toNat ≤ 6)
def WD (c : Nat → Int) : Prop := ∀ b : Int, 0 ≤ b → b < c 3 → WDi c b ∧ ∀ k : Int, 0 ≤ k → k < c (64 + b).toNat → enB c (c (70 + 6 * b + k).toNat)
def WP (c : Nat → Int) : Prop := ∀ k : Int, 0 ≤ k → k < 30 → (0 ≤ c (106 + k).toNat ∧ c (106 + k).toNat ≤ 1) ∧ (¬ (k % 6 < c 0 ∧ k / 6 < c 1) → c (106 + k).toNat = 0)
def WB (c : Nat → Int) : Prop := WH c ∧ WT c ∧ WD c ∧ WP c
def wantB (c : Nat → Int) (b h : Int) : Int := if c (64 + b).toNat = 0 then 6 else c (70 + 6 * b + h % c (64 + b).toNat).toNat
def playB (c : Nat → Int) (b : Int) : Int := if wantB c b (c 7) < 6 ∧ c (16 + wantB c b (c 7)).toNat ≤ c (46 + b).toNat then wantB c b (c 7) else 6
def tirB (c : Nat → Int) : Nat → Int
  | 0 => 0
  | b + 1 => if wantB c b (c 7) < 6 ∧ playB c b = 6 then orI (tirB c b) (shlI 1 b) else tirB c b
def fadeB (c : Nat → Int) (s way : Int) : Int := if c 8 = 4 then s * c 4 else if c 8 = way then s * (if 0 < c 4 - 1 then c 4 - 1 else 0) else s * (if c 8 = (way + 2) % 4 then c 4 + 1 else c 4)
def absB (d : Int) : Int := if 0 ≤ d then d else -d
def lossB (c : Nat → Int) (b x y : Int) : Int := fadeB c (absB (x - c (28 + b).toNat)) (if 0 < x - c (28 + b).toNat then 0 else 2) + fadeB c (absB (y - c (34 + b).toNat)) (if 0 < y - c (34 + b).toNat then 1 else 3) + 2 * c 9
def posB (n : Int) : Int := if 0 < n then n else 0
def hearB (c : Nat → Int) (b t x y : Int) : Int := if t = 6 then 0 else posB (c (40 + b).toNat + c (10 + t).toNat - lossB c b x y)
/-- the loudest among the first n bands, and who it is (-1 nobody, -2 several) -/
def mostN (v : Nat → Int) : Nat → Int
  | 0 => 0
  | n + 1 => if mostN v n < v n then v n else mostN v n
def whoN (v : Nat → Int) : Nat → Int
  | 0 => -1
  | n + 1 => if mostN v n < v n then (n : Int) else if v n = mostN v n ∧ 0 < v n then -2 else whoN v n
def noiB (c : Nat → Int) (p : Nat → Int) (x y : Int) : Nat → Int := fun b => hearB c b (p b) x y
def bn3 (c : Nat → Int) : Nat := (c 3).toNat
def holdB (c p : Nat → Int) (x y : Int) : Int := whoN (noiB c p x y) (bn3 c)
def loudB (c p : Nat → Int) (x y : Int) : Int := mostN (noiB c p x y) (bn3 c)
def sumN (f : Nat → Int) : Nat → Int
  | 0 => 0
  | n + 1 => sumN f n + f n
/-- over all cells, row by row -/
def sumC (c : Nat → Int) (f : Int → Int → Int) (n : Nat) : Int := sumN (fun k => f ((k : Int) % c 0) ((k : Int) / c 0)) n
def nC (c : Nat → Int) : Nat := (c 0 * c 1).toNat
def cellsB (c p : Nat → Int) (who : Int) : Int := sumC c (fun x y => if holdB c p x y = who then 1 else 0) (nC c)
def pondB (c : Nat → Int) (x y : Int) : Int := c (106 + 6 * y + x).toNat
def gainB (c p : Nat → Int) (who : Int) (n : Nat) : Int := sumC c (fun x y => if holdB c p x y = who then (if pondB c x y = 1 then 3 else 1) else 0) n
def lipsB (c p : Nat → Int) (b : Int) : Int := if p b.toNat < 6 then c (46 + b).toNat - c (16 + p b.toNat).toNat else if c (46 + b).toNat + c 5 < c (52 + b).toNat then c (46 + b).toNat + c 5 else c (52 + b).toNat
theorem absB_0 (d : Int) : 0 ≤ absB d := by unfold absB; split <;> omega
theorem absB_or (d : Int) : (absB d = d ∧ 0 ≤ d) ∨ (absB d = -d ∧ d < 0) := by unfold absB; split <;> omega
theorem fadeB_bd {c : Nat → Int} (h : WH c) {s way : Int} (h0 : 0 ≤ s) (h6 : s ≤ 6) : 0 ≤ fadeB c s way ∧ fadeB c s way ≤ 60 := by
  have p1 := mul_bd h0 h6 (show 0 ≤ c 4 by omega) (show c 4 ≤ 9 by omega)
  have p2 := mul_bd h0 h6 (show 0 ≤ c 4 + 1 by omega) (show c 4 + 1 ≤ 10 by omega)
  have p3 := mul_bd h0 h6 (show 0 ≤ (if 0 < c 4 - 1 then c 4 - 1 else 0) by split <;> omega) (show (if 0 < c 4 - 1 then c 4 - 1 else 0) ≤ 9 by split <;> omega)
  unfold fadeB
  split
  · omega
  · split
    · omega
    · split <;> omega
theorem posB_bd (n : Int) : 0 ≤ posB n ∧ (posB n ≤ n ∨ posB n = 0) := by unfold posB; split <;> omega
theorem lossB_bd {c : Nat → Int} (hw : WH c) (hd : WD c) {b x y : Int} (b0 : 0 ≤ b) (b1 : b < c 3) (hx : 0 ≤ x ∧ x ≤ 6) (hy : 0 ≤ y ∧ y ≤ 6) : 0 ≤ lossB c b x y ∧ lossB c b x y ≤ 122 := by
  have d1 := (hd b b0 b1).1
  have q1 := fadeB_bd hw (s := absB (x - c (28 + b).toNat)) (way := if 0 < x - c (28 + b).toNat then 0 else 2) (absB_0 _) (by unfold absB; split <;> omega)
  have q2 := fadeB_bd hw (s := absB (y - c (34 + b).toNat)) (way := if 0 < y - c (34 + b).toNat then 1 else 3) (absB_0 _) (by unfold absB; split <;> omega)
  unfold lossB
  omega
theorem hearB_bd {c : Nat → Int} (h : WH c) (ht : WT c) (hd : WD c) {b t x y : Int} (b0 : 0 ≤ b) (b1 : b < c 3) (he : enB c t) (hx : 0 ≤ x ∧ x ≤ 6) (hy : 0 ≤ y ∧ y ≤ 6) : 0 ≤ hearB c b t x y ∧ hearB c b t x y ≤ 40 := by
  have d1 := (hd b b0 b1).1
  have l1 := lossB_bd h hd b0 b1 hx hy
  unfold hearB
  by_cases h6 : t = 6
  · rw [if_pos h6]; omega
  · rw [if_neg h6]
    have t1 := ht t (by omega) (by omega)
    have p1 := posB_bd (c (40 + b).toNat + c (10 + t).toNat - lossB c b x y)
    omega
theorem wantB_en {c : Nat → Int} (hd : WD c) {b h : Int} (b0 : 0 ≤ b) (b1 : b < c 3) : enB c (wantB c b h) := by
  have ⟨d1, d2⟩ := hd b b0 b1
  unfold wantB
  split
  · exact Or.inr rfl
  · exact d2 _ (Int.emod_nonneg _ (by omega)) (Int.emod_lt_of_pos _ (by omega))
theorem playB_en {c : Nat → Int} (hd : WD c) {b : Int} (b0 : 0 ≤ b) (b1 : b < c 3) : enB c (playB c b) := by
  have h := wantB_en hd (h := c 7) b0 b1
  unfold playB
  split
  · exact h
  · exact Or.inr rfl
theorem tm_range {h l : Int} (hh : 0 ≤ h) (h0 : 0 < l) : Int.tmod h l = h % l ∧ 0 ≤ h % l ∧ h % l < l := by
  refine ⟨?_, Int.emod_nonneg _ (by omega), Int.emod_lt_of_pos _ h0⟩
  rw [Int.tmod_eq_emod_of_nonneg hh]
theorem td_range {h l : Int} (hh : 0 ≤ h) (h0 : 0 < l) : Int.tdiv h l = h / l ∧ 0 ≤ h / l := by
  refine ⟨?_, Int.ediv_nonneg hh (by omega)⟩
  rw [Int.tdiv_eq_ediv_of_nonneg hh]
theorem orI_0 (x : Int) (h : -2147483648 ≤ x ∧ x < 2147483648) : orI x 0 = x := by
  unfold orI
  have e : Int32.ofInt x ||| Int32.ofInt 0 = Int32.ofInt x := by
    show Int32.ofInt x ||| 0 = _
    exact Int32.or_zero
  rw [e]
  exact Int32.toInt_ofInt_of_le (by omega) (by omega)
theorem orI_rng (x y : Int) : -2147483648 ≤ orI x y ∧ orI x y < 2147483648 := by
  unfold orI
  have h1 := Int32.le_toInt (Int32.ofInt x ||| Int32.ofInt y)
  have h2 := Int32.toInt_lt (Int32.ofInt x ||| Int32.ofInt y)
  omega
theorem tirB_rng (c : Nat → Int) (n : Nat) : -2147483648 ≤ tirB c n ∧ tirB c n < 2147483648 := by
  induction n with
  | zero => unfold tirB; omega
  | succ n ih =>
    unfold tirB
    split
    · exact orI_rng _ _
    · exact ih
theorem whoN_rng (v : Nat → Int) (n : Nat) : -2 ≤ whoN v n ∧ whoN v n < n := by
  induction n with
  | zero => unfold whoN; omega
  | succ n ih =>
    unfold whoN
    split
    · omega
    · split <;> omega
theorem mostN_le {v : Nat → Int} {B : Int} (hB : 0 ≤ B) : ∀ n : Nat, (∀ k : Nat, k < n → v k ≤ B) → 0 ≤ mostN v n ∧ mostN v n ≤ B
  | 0, _ => by unfold mostN; omega
  | n + 1, h => by
    have ih := mostN_le hB n (fun k hk => h k (by omega))
    have hn := h n (by omega)
    unfold mostN
    split <;> omega
theorem sumN_bd {f : Nat → Int} {B : Int} (hB : 0 ≤ B) : ∀ n : Nat, (∀ k : Nat, k < n → 0 ≤ f k ∧ f k ≤ B) → 0 ≤ sumN f n ∧ sumN f n ≤ B * n
  | 0, _ => by unfold sumN; omega
  | n + 1, h => by
    have ih := sumN_bd hB n (fun k hk => h k (by omega))
    have hn := h n (by omega)
    unfold sumN
    have e : B * ((n + 1 : Nat) : Int) = B * n + B := by rw [ncS, Int.mul_add, Int.mul_one]
    omega
theorem sumN_congr {f g : Nat → Int} : ∀ n : Nat, (∀ k : Nat, k < n → f k = g k) → sumN f n = sumN g n
  | 0, _ => rfl
  | n + 1, h => by
    unfold sumN
    rw [sumN_congr n (fun k hk => h k (by omega)), h n (by omega)]
theorem mostN_congr {f g : Nat → Int} : ∀ n : Nat, (∀ k : Nat, k < n → f k = g k) → mostN f n = mostN g n
  | 0, _ => rfl
  | n + 1, h => by
    unfold mostN
    rw [mostN_congr n (fun k hk => h k (by omega)), h n (by omega)]
theorem whoN_congr {f g : Nat → Int} : ∀ n : Nat, (∀ k : Nat, k < n → f k = g k) → whoN f n = whoN g n
  | 0, _ => rfl
  | n + 1, h => by
    unfold whoN
    rw [mostN_congr n (fun k hk => h k (by omega)), whoN_congr n (fun k hk => h k (by omega)), h n (by omega)]
/-- the cell at column x of row y is the (y * wide + x)-th -/
theorem cell_xy {W x y : Int} (hx : 0 ≤ x) (hW : x < W) : (y * W + x) % W = x ∧ (y * W + x) / W = y := by
  have hw : W ≠ 0 := by omega
  constructor
  · rw [Int.add_comm, Int.add_mul_emod_self_right, Int.emod_eq_of_lt hx hW]
  · rw [Int.add_comm, Int.add_mul_ediv_right _ _ hw, Int.ediv_eq_zero_of_lt hx hW, Int.zero_add]
theorem ups_ups (σ : SS) (a k : Nat) (v v' : Int) : ups (ups σ a k v) a k v' = ups σ a k v' := by
  funext x y
  unfold ups
  split <;> rfl
theorem ups_fl {σ : SS} {a i a' k : Nat} {g : Nat → Int} {v : Int} (h : a' ≠ a) : ups (fl σ a i g) a' k v = fl (ups σ a' k v) a i g := by
  funext x y
  have e : ups σ a' k v a = σ a := upsA (fun q => h q.symm)
  unfold fl
  rw [e, ups_eq]
  by_cases hx : x = a
  · subst hx
    rw [if_neg (fun q => h q.1.symm), upA_same, upA_same]
  · rw [upA_ne hx, upA_ne hx, ups_eq]
/-! the reference, NOW -/
theorem bn3_c {c : Nat → Int} (h : WH c) : ((bn3 c : Nat) : Int) = c 3 := by unfold bn3; omega
theorem m_isField (x y : Int) {σ : SS} (h : WH (σ 244)) : F_X12_isField 239 x y σ = some (bI ((0 ≤ x ∧ x < σ 244 0) ∧ (0 ≤ y ∧ y < σ 244 1)), σ) := by
  simp (disch := omega) only [F_X12_isField, B_X12_isField, ev_isIn, Wd_some, Wd_bn, Wd_sqM, Wd_outV, Wd_blkM, Wd_swM, Wd_ite, Wd_map, v_kS_0, v_kS_b, v_kS_r, v_kO_r, v_kW_0, v_kW_1, v_kW_2, v_kW_r, v_kL_0, v_kL_1, v_kL_2, v_kL_r, v_kU_0, ups_11, upsN, upsA, upA_same, upA_neA, fl_at, fl_neA, v_sq_eq, v_sqM_0, v_sqM_r, v_sqM_b, v_sqM_n, sqM_ite, v_asI, v_asR, v_inc, v_pfI, v_pfZ, v_pfO, v_paI, v_paO, v_exI, v_iff, v_rtI, v_rtZ, v_rtV, v_sk, v_brk, v_cnt, v_blk_eq, v_blkM_some, blkM_ite, v_lI, v_lR, v_cI, v_gI, v_gR, v_op1, v_op2, v_arI, v_arR, v_alen, v_tern, v_cmp1, v_cmp2, v_cAnd, v_cOr, v_cNot, v_cTern, v_bn_some, bn_ite, v_bn_none, v_outV_r, v_outV_0, v_outV_n, outV_ite, List.getD_cons_zero, List.getD_cons_succ, List.set_cons_zero, List.set_cons_succ, List.take_succ_cons, List.take_zero, List.drop_succ_cons, List.drop_zero, List.nil_append, List.cons_append, Option.map_some, Option.map_none, if_true, if_false, reduceIte, reduceCtorEq, decide_eq_true_eq, Bool.not_eq_true', decide_eq_false_iff_not, decide_eq_true, decide_eq_false, decide_true, decide_false, and_self, and_true, true_and, or_self, stO, v_caV_, v_caV_i, v_caV_ii, v_caV_iii, v_caV_iiii, v_caV_iiiii, v_caV_il, v_caV_iil, v_caV_l, v_caV_ll, v_caV_r, v_caV_ri, v_caV_rii, v_caV_riii, v_caV_riiii, v_caV_ir, v_caV_iri, v_caV_iiri, v_caS_i, v_caS_ii, v_caS_iii, v_caS_iiii, v_caS_iiiiii, v_caS_il, v_caS_li, v_caS_ll, v_caS_lll, v_caS_ri, v_caS_riii, sh_239, sh_240, sh_241, sh_242, sh_243, sh_244, sh_245, sh_246, sh_247, sh_248, sh_249, sh_250, sh_251, sh_252, sh_253, rf_239_4, rf_239_5, rf_239_6, rf_239_7, rf_239_20, rf_239_21, rf_239_22, rf_239_23, rf_239_27, rf_239_28, rf_239_32, rf_239_33, rf_239_34, rf_239_35, Int.reduceLE, Int.reduceLT, Int.reduceToNat, Int.reduceAdd, Int.reduceSub, Int.reduceMul, Int.reduceNeg, Int.reduceEq, Int.reduceNe, Nat.reduceAdd, Nat.reduceMul, Nat.reduceLT, Nat.reduceEqDiff, or_true, true_or, or_false, false_or, and_false, false_and, not_true_eq_false, not_false_eq_true, ne_eq, cN4, cN5, cN6, cN7, cN13, cN30, cN60, cN64, cN100, cN136, cN240, cN384, cN900, cN2040, cN3, v_sw_eq, v_swM_0, v_swM_1, v_swM_r, v_swM_n, swM_ite, app_ite, ex_some, bI_0, bI_1, nn_iff, Int.toNat_natCast, Int.toNat_of_nonneg, Int.natCast_add, cN1, wI_id2, wL_id2, if_pos, if_neg]
  unfold bI
  repeat' split
  all_goals first | rfl | omega | (exfalso; omega)
theorem m_isTuneAt (x : Int) {σ : SS} (h : WH (σ 244)) : F_X12_isTuneAt 239 x σ = some (bI (0 ≤ x ∧ x < σ 244 2), σ) := by
  simp (disch := omega) only [F_X12_isTuneAt, B_X12_isTuneAt, ev_isIn, Wd_some, Wd_bn, Wd_sqM, Wd_outV, Wd_blkM, Wd_swM, Wd_ite, Wd_map, v_kS_0, v_kS_b, v_kS_r, v_kO_r, v_kW_0, v_kW_1, v_kW_2, v_kW_r, v_kL_0, v_kL_1, v_kL_2, v_kL_r, v_kU_0, ups_11, upsN, upsA, upA_same, upA_neA, fl_at, fl_neA, v_sq_eq, v_sqM_0, v_sqM_r, v_sqM_b, v_sqM_n, sqM_ite, v_asI, v_asR, v_inc, v_pfI, v_pfZ, v_pfO, v_paI, v_paO, v_exI, v_iff, v_rtI, v_rtZ, v_rtV, v_sk, v_brk, v_cnt, v_blk_eq, v_blkM_some, blkM_ite, v_lI, v_lR, v_cI, v_gI, v_gR, v_op1, v_op2, v_arI, v_arR, v_alen, v_tern, v_cmp1, v_cmp2, v_cAnd, v_cOr, v_cNot, v_cTern, v_bn_some, bn_ite, v_bn_none, v_outV_r, v_outV_0, v_outV_n, outV_ite, List.getD_cons_zero, List.getD_cons_succ, List.set_cons_zero, List.set_cons_succ, List.take_succ_cons, List.take_zero, List.drop_succ_cons, List.drop_zero, List.nil_append, List.cons_append, Option.map_some, Option.map_none, if_true, if_false, reduceIte, reduceCtorEq, decide_eq_true_eq, Bool.not_eq_true', decide_eq_false_iff_not, decide_eq_true, decide_eq_false, decide_true, decide_false, and_self, and_true, true_and, or_self, stO, v_caV_, v_caV_i, v_caV_ii, v_caV_iii, v_caV_iiii, v_caV_iiiii, v_caV_il, v_caV_iil, v_caV_l, v_caV_ll, v_caV_r, v_caV_ri, v_caV_rii, v_caV_riii, v_caV_riiii, v_caV_ir, v_caV_iri, v_caV_iiri, v_caS_i, v_caS_ii, v_caS_iii, v_caS_iiii, v_caS_iiiiii, v_caS_il, v_caS_li, v_caS_ll, v_caS_lll, v_caS_ri, v_caS_riii, sh_239, sh_240, sh_241, sh_242, sh_243, sh_244, sh_245, sh_246, sh_247, sh_248, sh_249, sh_250, sh_251, sh_252, sh_253, rf_239_4, rf_239_5, rf_239_6, rf_239_7, rf_239_20, rf_239_21, rf_239_22, rf_239_23, rf_239_27, rf_239_28, rf_239_32, rf_239_33, rf_239_34, rf_239_35, Int.reduceLE, Int.reduceLT, Int.reduceToNat, Int.reduceAdd, Int.reduceSub, Int.reduceMul, Int.reduceNeg, Int.reduceEq, Int.reduceNe, Nat.reduceAdd, Nat.reduceMul, Nat.reduceLT, Nat.reduceEqDiff, or_true, true_or, or_false, false_or, and_false, false_and, not_true_eq_false, not_false_eq_true, ne_eq, cN4, cN5, cN6, cN7, cN13, cN30, cN60, cN64, cN100, cN136, cN240, cN384, cN900, cN2040, cN3, v_sw_eq, v_swM_0, v_swM_1, v_swM_r, v_swM_n, swM_ite, app_ite, ex_some, bI_0, bI_1, nn_iff, Int.toNat_natCast, Int.toNat_of_nonneg, Int.natCast_add, cN1, wI_id2, wL_id2, if_pos, if_neg]
  unfold bI
  repeat' split
  all_goals first | rfl | omega | (exfalso; omega)
theorem m_isBandAt (x : Int) {σ : SS} (h : WH (σ 244)) : F_X12_isBandAt 239 x σ = some (bI (0 ≤ x ∧ x < σ 244 3), σ) := by
  simp (disch := omega) only [F_X12_isBandAt, B_X12_isBandAt, ev_isIn, Wd_some, Wd_bn, Wd_sqM, Wd_outV, Wd_blkM, Wd_swM, Wd_ite, Wd_map, v_kS_0, v_kS_b, v_kS_r, v_kO_r, v_kW_0, v_kW_1, v_kW_2, v_kW_r, v_kL_0, v_kL_1, v_kL_2, v_kL_r, v_kU_0, ups_11, upsN, upsA, upA_same, upA_neA, fl_at, fl_neA, v_sq_eq, v_sqM_0, v_sqM_r, v_sqM_b, v_sqM_n, sqM_ite, v_asI, v_asR, v_inc, v_pfI, v_pfZ, v_pfO, v_paI, v_paO, v_exI, v_iff, v_rtI, v_rtZ, v_rtV, v_sk, v_brk, v_cnt, v_blk_eq, v_blkM_some, blkM_ite, v_lI, v_lR, v_cI, v_gI, v_gR, v_op1, v_op2, v_arI, v_arR, v_alen, v_tern, v_cmp1, v_cmp2, v_cAnd, v_cOr, v_cNot, v_cTern, v_bn_some, bn_ite, v_bn_none, v_outV_r, v_outV_0, v_outV_n, outV_ite, List.getD_cons_zero, List.getD_cons_succ, List.set_cons_zero, List.set_cons_succ, List.take_succ_cons, List.take_zero, List.drop_succ_cons, List.drop_zero, List.nil_append, List.cons_append, Option.map_some, Option.map_none, if_true, if_false, reduceIte, reduceCtorEq, decide_eq_true_eq, Bool.not_eq_true', decide_eq_false_iff_not, decide_eq_true, decide_eq_false, decide_true, decide_false, and_self, and_true, true_and, or_self, stO, v_caV_, v_caV_i, v_caV_ii, v_caV_iii, v_caV_iiii, v_caV_iiiii, v_caV_il, v_caV_iil, v_caV_l, v_caV_ll, v_caV_r, v_caV_ri, v_caV_rii, v_caV_riii, v_caV_riiii, v_caV_ir, v_caV_iri, v_caV_iiri, v_caS_i, v_caS_ii, v_caS_iii, v_caS_iiii, v_caS_iiiiii, v_caS_il, v_caS_li, v_caS_ll, v_caS_lll, v_caS_ri, v_caS_riii, sh_239, sh_240, sh_241, sh_242, sh_243, sh_244, sh_245, sh_246, sh_247, sh_248, sh_249, sh_250, sh_251, sh_252, sh_253, rf_239_4, rf_239_5, rf_239_6, rf_239_7, rf_239_20, rf_239_21, rf_239_22, rf_239_23, rf_239_27, rf_239_28, rf_239_32, rf_239_33, rf_239_34, rf_239_35, Int.reduceLE, Int.reduceLT, Int.reduceToNat, Int.reduceAdd, Int.reduceSub, Int.reduceMul, Int.reduceNeg, Int.reduceEq, Int.reduceNe, Nat.reduceAdd, Nat.reduceMul, Nat.reduceLT, Nat.reduceEqDiff, or_true, true_or, or_false, false_or, and_false, false_and, not_true_eq_false, not_false_eq_true, ne_eq, cN4, cN5, cN6, cN7, cN13, cN30, cN60, cN64, cN100, cN136, cN240, cN384, cN900, cN2040, cN3, v_sw_eq, v_swM_0, v_swM_1, v_swM_r, v_swM_n, swM_ite, app_ite, ex_some, bI_0, bI_1, nn_iff, Int.toNat_natCast, Int.toNat_of_nonneg, Int.natCast_add, cN1, wI_id2, wL_id2, if_pos, if_neg]
  unfold bI
  repeat' split
  all_goals first | rfl | omega | (exfalso; omega)
theorem m_isPondAt {x y : Int} (hx : 0 ≤ x ∧ x < 6) (hy : 0 ≤ y ∧ y < 5) (σ : SS) : F_X12_isPondAt 239 x y σ = some (bI (pondB (σ 244) x y = 1), σ) := by
  simp (disch := omega) only [F_X12_isPondAt, B_X12_isPondAt, Wd_some, Wd_bn, Wd_sqM, Wd_outV, Wd_blkM, Wd_swM, Wd_ite, Wd_map, v_kS_0, v_kS_b, v_kS_r, v_kO_r, v_kW_0, v_kW_1, v_kW_2, v_kW_r, v_kL_0, v_kL_1, v_kL_2, v_kL_r, v_kU_0, ups_11, upsN, upsA, upA_same, upA_neA, fl_at, fl_neA, v_sq_eq, v_sqM_0, v_sqM_r, v_sqM_b, v_sqM_n, sqM_ite, v_asI, v_asR, v_inc, v_pfI, v_pfZ, v_pfO, v_paI, v_paO, v_exI, v_iff, v_rtI, v_rtZ, v_rtV, v_sk, v_brk, v_cnt, v_blk_eq, v_blkM_some, blkM_ite, v_lI, v_lR, v_cI, v_gI, v_gR, v_op1, v_op2, v_arI, v_arR, v_alen, v_tern, v_cmp1, v_cmp2, v_cAnd, v_cOr, v_cNot, v_cTern, v_bn_some, bn_ite, v_bn_none, v_outV_r, v_outV_0, v_outV_n, outV_ite, List.getD_cons_zero, List.getD_cons_succ, List.set_cons_zero, List.set_cons_succ, List.take_succ_cons, List.take_zero, List.drop_succ_cons, List.drop_zero, List.nil_append, List.cons_append, Option.map_some, Option.map_none, if_true, if_false, reduceIte, reduceCtorEq, decide_eq_true_eq, Bool.not_eq_true', decide_eq_false_iff_not, decide_eq_true, decide_eq_false, decide_true, decide_false, and_self, and_true, true_and, or_self, stO, v_caV_, v_caV_i, v_caV_ii, v_caV_iii, v_caV_iiii, v_caV_iiiii, v_caV_il, v_caV_iil, v_caV_l, v_caV_ll, v_caV_r, v_caV_ri, v_caV_rii, v_caV_riii, v_caV_riiii, v_caV_ir, v_caV_iri, v_caV_iiri, v_caS_i, v_caS_ii, v_caS_iii, v_caS_iiii, v_caS_iiiiii, v_caS_il, v_caS_li, v_caS_ll, v_caS_lll, v_caS_ri, v_caS_riii, sh_239, sh_240, sh_241, sh_242, sh_243, sh_244, sh_245, sh_246, sh_247, sh_248, sh_249, sh_250, sh_251, sh_252, sh_253, rf_239_4, rf_239_5, rf_239_6, rf_239_7, rf_239_20, rf_239_21, rf_239_22, rf_239_23, rf_239_27, rf_239_28, rf_239_32, rf_239_33, rf_239_34, rf_239_35, Int.reduceLE, Int.reduceLT, Int.reduceToNat, Int.reduceAdd, Int.reduceSub, Int.reduceMul, Int.reduceNeg, Int.reduceEq, Int.reduceNe, Nat.reduceAdd, Nat.reduceMul, Nat.reduceLT, Nat.reduceEqDiff, or_true, true_or, or_false, false_or, and_false, false_and, not_true_eq_false, not_false_eq_true, ne_eq, cN4, cN5, cN6, cN7, cN13, cN30, cN60, cN64, cN100, cN136, cN240, cN384, cN900, cN2040, cN3, v_sw_eq, v_swM_0, v_swM_1, v_swM_r, v_swM_n, swM_ite, app_ite, ex_some, bI_0, bI_1, nn_iff, Int.toNat_natCast, Int.toNat_of_nonneg, Int.natCast_add, cN1, wI_id2, wL_id2, if_pos, if_neg]
  unfold bI pondB
  repeat' split
  all_goals first | rfl | omega | (exfalso; omega)
theorem m_wanted {σ : SS} {b h : Int} (hb : 0 ≤ b ∧ b < 6) (hl : 0 ≤ σ 244 (64 + b).toNat ∧ σ 244 (64 + b).toNat ≤ 6) (hh : 0 ≤ h) : F_X12_wanted 239 b h σ = some (wantB (σ 244) b h, σ) := by
  unfold wantB
  by_cases h0 : σ 244 (64 + b).toNat = 0
  · simp (disch := omega) only [F_X12_wanted, B_X12_wanted, h0, Wd_some, Wd_bn, Wd_sqM, Wd_outV, Wd_blkM, Wd_swM, Wd_ite, Wd_map, v_kS_0, v_kS_b, v_kS_r, v_kO_r, v_kW_0, v_kW_1, v_kW_2, v_kW_r, v_kL_0, v_kL_1, v_kL_2, v_kL_r, v_kU_0, ups_11, upsN, upsA, upA_same, upA_neA, fl_at, fl_neA, v_sq_eq, v_sqM_0, v_sqM_r, v_sqM_b, v_sqM_n, sqM_ite, v_asI, v_asR, v_inc, v_pfI, v_pfZ, v_pfO, v_paI, v_paO, v_exI, v_iff, v_rtI, v_rtZ, v_rtV, v_sk, v_brk, v_cnt, v_blk_eq, v_blkM_some, blkM_ite, v_lI, v_lR, v_cI, v_gI, v_gR, v_op1, v_op2, v_arI, v_arR, v_alen, v_tern, v_cmp1, v_cmp2, v_cAnd, v_cOr, v_cNot, v_cTern, v_bn_some, bn_ite, v_bn_none, v_outV_r, v_outV_0, v_outV_n, outV_ite, List.getD_cons_zero, List.getD_cons_succ, List.set_cons_zero, List.set_cons_succ, List.take_succ_cons, List.take_zero, List.drop_succ_cons, List.drop_zero, List.nil_append, List.cons_append, Option.map_some, Option.map_none, if_true, if_false, reduceIte, reduceCtorEq, decide_eq_true_eq, Bool.not_eq_true', decide_eq_false_iff_not, decide_eq_true, decide_eq_false, decide_true, decide_false, and_self, and_true, true_and, or_self, stO, v_caV_, v_caV_i, v_caV_ii, v_caV_iii, v_caV_iiii, v_caV_iiiii, v_caV_il, v_caV_iil, v_caV_l, v_caV_ll, v_caV_r, v_caV_ri, v_caV_rii, v_caV_riii, v_caV_riiii, v_caV_ir, v_caV_iri, v_caV_iiri, v_caS_i, v_caS_ii, v_caS_iii, v_caS_iiii, v_caS_iiiiii, v_caS_il, v_caS_li, v_caS_ll, v_caS_lll, v_caS_ri, v_caS_riii, sh_239, sh_240, sh_241, sh_242, sh_243, sh_244, sh_245, sh_246, sh_247, sh_248, sh_249, sh_250, sh_251, sh_252, sh_253, rf_239_4, rf_239_5, rf_239_6, rf_239_7, rf_239_20, rf_239_21, rf_239_22, rf_239_23, rf_239_27, rf_239_28, rf_239_32, rf_239_33, rf_239_34, rf_239_35, Int.reduceLE, Int.reduceLT, Int.reduceToNat, Int.reduceAdd, Int.reduceSub, Int.reduceMul, Int.reduceNeg, Int.reduceEq, Int.reduceNe, Nat.reduceAdd, Nat.reduceMul, Nat.reduceLT, Nat.reduceEqDiff, or_true, true_or, or_false, false_or, and_false, false_and, not_true_eq_false, not_false_eq_true, ne_eq, cN4, cN5, cN6, cN7, cN13, cN30, cN60, cN64, cN100, cN136, cN240, cN384, cN900, cN2040, cN3, v_sw_eq, v_swM_0, v_swM_1, v_swM_r, v_swM_n, swM_ite, app_ite, ex_some, bI_0, bI_1, nn_iff, Int.toNat_natCast, Int.toNat_of_nonneg, Int.natCast_add, cN1, wI_id2, wL_id2, if_pos, if_neg]
  · obtain ⟨t1, t2, t3⟩ := tm_range hh (show 0 < σ 244 (64 + b).toNat by omega)
    simp (disch := omega) only [F_X12_wanted, B_X12_wanted, h0, t1, Wd_some, Wd_bn, Wd_sqM, Wd_outV, Wd_blkM, Wd_swM, Wd_ite, Wd_map, v_kS_0, v_kS_b, v_kS_r, v_kO_r, v_kW_0, v_kW_1, v_kW_2, v_kW_r, v_kL_0, v_kL_1, v_kL_2, v_kL_r, v_kU_0, ups_11, upsN, upsA, upA_same, upA_neA, fl_at, fl_neA, v_sq_eq, v_sqM_0, v_sqM_r, v_sqM_b, v_sqM_n, sqM_ite, v_asI, v_asR, v_inc, v_pfI, v_pfZ, v_pfO, v_paI, v_paO, v_exI, v_iff, v_rtI, v_rtZ, v_rtV, v_sk, v_brk, v_cnt, v_blk_eq, v_blkM_some, blkM_ite, v_lI, v_lR, v_cI, v_gI, v_gR, v_op1, v_op2, v_arI, v_arR, v_alen, v_tern, v_cmp1, v_cmp2, v_cAnd, v_cOr, v_cNot, v_cTern, v_bn_some, bn_ite, v_bn_none, v_outV_r, v_outV_0, v_outV_n, outV_ite, List.getD_cons_zero, List.getD_cons_succ, List.set_cons_zero, List.set_cons_succ, List.take_succ_cons, List.take_zero, List.drop_succ_cons, List.drop_zero, List.nil_append, List.cons_append, Option.map_some, Option.map_none, if_true, if_false, reduceIte, reduceCtorEq, decide_eq_true_eq, Bool.not_eq_true', decide_eq_false_iff_not, decide_eq_true, decide_eq_false, decide_true, decide_false, and_self, and_true, true_and, or_self, stO, v_caV_, v_caV_i, v_caV_ii, v_caV_iii, v_caV_iiii, v_caV_iiiii, v_caV_il, v_caV_iil, v_caV_l, v_caV_ll, v_caV_r, v_caV_ri, v_caV_rii, v_caV_riii, v_caV_riiii, v_caV_ir, v_caV_iri, v_caV_iiri, v_caS_i, v_caS_ii, v_caS_iii, v_caS_iiii, v_caS_iiiiii, v_caS_il, v_caS_li, v_caS_ll, v_caS_lll, v_caS_ri, v_caS_riii, sh_239, sh_240, sh_241, sh_242, sh_243, sh_244, sh_245, sh_246, sh_247, sh_248, sh_249, sh_250, sh_251, sh_252, sh_253, rf_239_4, rf_239_5, rf_239_6, rf_239_7, rf_239_20, rf_239_21, rf_239_22, rf_239_23, rf_239_27, rf_239_28, rf_239_32, rf_239_33, rf_239_34, rf_239_35, Int.reduceLE, Int.reduceLT, Int.reduceToNat, Int.reduceAdd, Int.reduceSub, Int.reduceMul, Int.reduceNeg, Int.reduceEq, Int.reduceNe, Nat.reduceAdd, Nat.reduceMul, Nat.reduceLT, Nat.reduceEqDiff, or_true, true_or, or_false, false_or, and_false, false_and, not_true_eq_false, not_false_eq_true, ne_eq, cN4, cN5, cN6, cN7, cN13, cN30, cN60, cN64, cN100, cN136, cN240, cN384, cN900, cN2040, cN3, v_sw_eq, v_swM_0, v_swM_1, v_swM_r, v_swM_n, swM_ite, app_ite, ex_some, bI_0, bI_1, nn_iff, Int.toNat_natCast, Int.toNat_of_nonneg, Int.natCast_add, cN1, wI_id2, wL_id2, if_pos, if_neg]
theorem m_played {σ : SS} {b t : Int} (hb : 0 ≤ b ∧ b < 6) (ht : 0 ≤ t ∧ t ≤ 6) : F_X12_played 239 b t σ = some (if t < 6 ∧ σ 244 (16 + t).toNat ≤ σ 244 (46 + b).toNat then t else 6, σ) := by
  simp (disch := omega) only [F_X12_played, B_X12_played, Wd_some, Wd_bn, Wd_sqM, Wd_outV, Wd_blkM, Wd_swM, Wd_ite, Wd_map, v_kS_0, v_kS_b, v_kS_r, v_kO_r, v_kW_0, v_kW_1, v_kW_2, v_kW_r, v_kL_0, v_kL_1, v_kL_2, v_kL_r, v_kU_0, ups_11, upsN, upsA, upA_same, upA_neA, fl_at, fl_neA, v_sq_eq, v_sqM_0, v_sqM_r, v_sqM_b, v_sqM_n, sqM_ite, v_asI, v_asR, v_inc, v_pfI, v_pfZ, v_pfO, v_paI, v_paO, v_exI, v_iff, v_rtI, v_rtZ, v_rtV, v_sk, v_brk, v_cnt, v_blk_eq, v_blkM_some, blkM_ite, v_lI, v_lR, v_cI, v_gI, v_gR, v_op1, v_op2, v_arI, v_arR, v_alen, v_tern, v_cmp1, v_cmp2, v_cAnd, v_cOr, v_cNot, v_cTern, v_bn_some, bn_ite, v_bn_none, v_outV_r, v_outV_0, v_outV_n, outV_ite, List.getD_cons_zero, List.getD_cons_succ, List.set_cons_zero, List.set_cons_succ, List.take_succ_cons, List.take_zero, List.drop_succ_cons, List.drop_zero, List.nil_append, List.cons_append, Option.map_some, Option.map_none, if_true, if_false, reduceIte, reduceCtorEq, decide_eq_true_eq, Bool.not_eq_true', decide_eq_false_iff_not, decide_eq_true, decide_eq_false, decide_true, decide_false, and_self, and_true, true_and, or_self, stO, v_caV_, v_caV_i, v_caV_ii, v_caV_iii, v_caV_iiii, v_caV_iiiii, v_caV_il, v_caV_iil, v_caV_l, v_caV_ll, v_caV_r, v_caV_ri, v_caV_rii, v_caV_riii, v_caV_riiii, v_caV_ir, v_caV_iri, v_caV_iiri, v_caS_i, v_caS_ii, v_caS_iii, v_caS_iiii, v_caS_iiiiii, v_caS_il, v_caS_li, v_caS_ll, v_caS_lll, v_caS_ri, v_caS_riii, sh_239, sh_240, sh_241, sh_242, sh_243, sh_244, sh_245, sh_246, sh_247, sh_248, sh_249, sh_250, sh_251, sh_252, sh_253, rf_239_4, rf_239_5, rf_239_6, rf_239_7, rf_239_20, rf_239_21, rf_239_22, rf_239_23, rf_239_27, rf_239_28, rf_239_32, rf_239_33, rf_239_34, rf_239_35, Int.reduceLE, Int.reduceLT, Int.reduceToNat, Int.reduceAdd, Int.reduceSub, Int.reduceMul, Int.reduceNeg, Int.reduceEq, Int.reduceNe, Nat.reduceAdd, Nat.reduceMul, Nat.reduceLT, Nat.reduceEqDiff, or_true, true_or, or_false, false_or, and_false, false_and, not_true_eq_false, not_false_eq_true, ne_eq, cN4, cN5, cN6, cN7, cN13, cN30, cN60, cN64, cN100, cN136, cN240, cN384, cN900, cN2040, cN3, v_sw_eq, v_swM_0, v_swM_1, v_swM_r, v_swM_n, swM_ite, app_ite, ex_some, bI_0, bI_1, nn_iff, Int.toNat_natCast, Int.toNat_of_nonneg, Int.natCast_add, cN1, wI_id2, wL_id2, if_pos, if_neg]
  repeat' split
  all_goals first | rfl | omega | (exfalso; omega)
noncomputable def nowM (σ : SS) (n : Nat) : SS := fl (ups σ 239 29 (tirB (σ 244) n)) 248 n (fun k => playB (σ 244) k)
theorem nowM_a {σ : SS} {n a : Nat} (h : a ≠ 239) (h2 : a ≠ 248) : nowM σ n a = σ a := by unfold nowM; rw [fl_neA h2, upsA h]
theorem nowM_f {σ : SS} {n k : Nat} (h : k ≠ 29) : nowM σ n 239 k = σ 239 k := by unfold nowM; rw [fl_neA (by omega), upsN h]
theorem nowM_29 {σ : SS} {n : Nat} : nowM σ n 239 29 = tirB (σ 244) n := by unfold nowM; rw [fl_neA (by omega), ups_11]
theorem nowM_p {σ : SS} {n k : Nat} (h : k < n) : nowM σ n 248 k = playB (σ 244) k := by unfold nowM; rw [fl_at, if_pos h]
theorem nowM_s {σ : SS} {n : Nat} : ups (ups (nowM σ n) 248 n (playB (σ 244) n)) 239 29 (tirB (σ 244) (n + 1)) = nowM σ (n + 1) := by
  unfold nowM
  rw [fl_step rfl, ups_fl (by omega), ups_ups]
theorem nowM_0 {σ : SS} : nowM σ 0 = ups σ 239 29 0 := by
  unfold nowM
  rw [fl_0, tirB]
theorem tirB_s (c : Nat → Int) (i : Nat) : tirB c (i + 1) = orI (tirB c i) (if wantB c i (c 7) < 6 ∧ playB c i = 6 then shlI 1 i else 0) := by
  rw [tirB]
  split
  · rfl
  · rw [orI_0 _ (tirB_rng c i)]
theorem nowM_w {σ : SS} (h : WH (σ 244)) (hd : WD (σ 244)) {i : Nat} (hi : (i : Int) < σ 244 3) : F_X12_wanted 239 i (σ 244 7) (nowM σ i) = some (wantB (σ 244) i (σ 244 7), nowM σ i) ∧ F_X12_played 239 i (wantB (σ 244) i (σ 244 7)) (nowM σ i) = some (playB (σ 244) i, nowM σ i) := by
  have d1 := (hd i (by omega) hi).1
  have w1 := wantB_en hd (b := i) (h := σ 244 7) (by omega) (by omega)
  have e0 : nowM σ i 244 = σ 244 := nowM_a (by omega) (by omega)
  constructor
  · rw [m_wanted (by omega) (by rw [e0]; omega) (by omega), e0]
  · rw [m_played (by omega) (by omega), e0]
    rfl
theorem ml_laysNow {σ : SS} (h : WH (σ 244)) (hd : WD (σ 244)) : L_X12_laysNow_0 ([0, 0, 0], [239, 0, 0], ups σ 239 29 0) = some (.inl 0, ([0, σ 244 3, 0], [239, 0, 0], nowM σ (bn3 (σ 244)))) := by
  refine Wd_out ?_
  unfold L_X12_laysNow_0
  have hn := bn3_c h
  rw [← nowM_0]
  refine Wd_it (fun i z => z = ([0, (i : Int), 0], [239, 0, 0], nowM σ i)) (bn3 (σ 244)) rfl ?_ ?_
  · intro i z hi hz
    subst hz
    obtain ⟨e1, e2⟩ := nowM_w h hd (show (i : Int) < σ 244 3 by omega)
    simp (disch := omega) only [C_X12_laysNow_0, D_X12_laysNow_0, U_X12_laysNow_0, e1, e2, nowM_a, nowM_29, Wd_some, Wd_bn, Wd_sqM, Wd_outV, Wd_blkM, Wd_swM, Wd_ite, Wd_map, v_kS_0, v_kS_b, v_kS_r, v_kO_r, v_kW_0, v_kW_1, v_kW_2, v_kW_r, v_kL_0, v_kL_1, v_kL_2, v_kL_r, v_kU_0, ups_11, upsN, upsA, upA_same, upA_neA, fl_at, fl_neA, v_sq_eq, v_sqM_0, v_sqM_r, v_sqM_b, v_sqM_n, sqM_ite, v_asI, v_asR, v_inc, v_pfI, v_pfZ, v_pfO, v_paI, v_paO, v_exI, v_iff, v_rtI, v_rtZ, v_rtV, v_sk, v_brk, v_cnt, v_blk_eq, v_blkM_some, blkM_ite, v_lI, v_lR, v_cI, v_gI, v_gR, v_op1, v_op2, v_arI, v_arR, v_alen, v_tern, v_cmp1, v_cmp2, v_cAnd, v_cOr, v_cNot, v_cTern, v_bn_some, bn_ite, v_bn_none, v_outV_r, v_outV_0, v_outV_n, outV_ite, List.getD_cons_zero, List.getD_cons_succ, List.set_cons_zero, List.set_cons_succ, List.take_succ_cons, List.take_zero, List.drop_succ_cons, List.drop_zero, List.nil_append, List.cons_append, Option.map_some, Option.map_none, if_true, if_false, reduceIte, reduceCtorEq, decide_eq_true_eq, Bool.not_eq_true', decide_eq_false_iff_not, decide_eq_true, decide_eq_false, decide_true, decide_false, and_self, and_true, true_and, or_self, stO, v_caV_, v_caV_i, v_caV_ii, v_caV_iii, v_caV_iiii, v_caV_iiiii, v_caV_il, v_caV_iil, v_caV_l, v_caV_ll, v_caV_r, v_caV_ri, v_caV_rii, v_caV_riii, v_caV_riiii, v_caV_ir, v_caV_iri, v_caV_iiri, v_caS_i, v_caS_ii, v_caS_iii, v_caS_iiii, v_caS_iiiiii, v_caS_il, v_caS_li, v_caS_ll, v_caS_lll, v_caS_ri, v_caS_riii, sh_239, sh_240, sh_241, sh_242, sh_243, sh_244, sh_245, sh_246, sh_247, sh_248, sh_249, sh_250, sh_251, sh_252, sh_253, rf_239_4, rf_239_5, rf_239_6, rf_239_7, rf_239_20, rf_239_21, rf_239_22, rf_239_23, rf_239_27, rf_239_28, rf_239_32, rf_239_33, rf_239_34, rf_239_35, Int.reduceLE, Int.reduceLT, Int.reduceToNat, Int.reduceAdd, Int.reduceSub, Int.reduceMul, Int.reduceNeg, Int.reduceEq, Int.reduceNe, Nat.reduceAdd, Nat.reduceMul, Nat.reduceLT, Nat.reduceEqDiff, or_true, true_or, or_false, false_or, and_false, false_and, not_true_eq_false, not_false_eq_true, ne_eq, cN4, cN5, cN6, cN7, cN13, cN30, cN60, cN64, cN100, cN136, cN240, cN384, cN900, cN2040, cN3, v_sw_eq, v_swM_0, v_swM_1, v_swM_r, v_swM_n, swM_ite, app_ite, ex_some, bI_0, bI_1, nn_iff, Int.toNat_natCast, Int.toNat_of_nonneg, Int.natCast_add, cN1, wI_id2, wL_id2, if_pos, if_neg]
    rw [← nowM_s, tirB_s]
    by_cases g1 : wantB (σ 244) i (σ 244 7) < 6
    · by_cases g2 : playB (σ 244) i = 6
      · rw [if_pos g1, if_pos g2, if_pos ⟨g1, g2⟩]
      · rw [if_pos g1, if_neg g2, if_neg (fun q => g2 q.2)]
    · rw [if_neg g1, if_neg (fun q => g1 q.1)]
  · intro z hz
    subst hz
    simp (disch := omega) only [C_X12_laysNow_0, nowM_a, hn, Wd_some, Wd_bn, Wd_sqM, Wd_outV, Wd_blkM, Wd_swM, Wd_ite, Wd_map, v_kS_0, v_kS_b, v_kS_r, v_kO_r, v_kW_0, v_kW_1, v_kW_2, v_kW_r, v_kL_0, v_kL_1, v_kL_2, v_kL_r, v_kU_0, ups_11, upsN, upsA, upA_same, upA_neA, fl_at, fl_neA, v_sq_eq, v_sqM_0, v_sqM_r, v_sqM_b, v_sqM_n, sqM_ite, v_asI, v_asR, v_inc, v_pfI, v_pfZ, v_pfO, v_paI, v_paO, v_exI, v_iff, v_rtI, v_rtZ, v_rtV, v_sk, v_brk, v_cnt, v_blk_eq, v_blkM_some, blkM_ite, v_lI, v_lR, v_cI, v_gI, v_gR, v_op1, v_op2, v_arI, v_arR, v_alen, v_tern, v_cmp1, v_cmp2, v_cAnd, v_cOr, v_cNot, v_cTern, v_bn_some, bn_ite, v_bn_none, v_outV_r, v_outV_0, v_outV_n, outV_ite, List.getD_cons_zero, List.getD_cons_succ, List.set_cons_zero, List.set_cons_succ, List.take_succ_cons, List.take_zero, List.drop_succ_cons, List.drop_zero, List.nil_append, List.cons_append, Option.map_some, Option.map_none, if_true, if_false, reduceIte, reduceCtorEq, decide_eq_true_eq, Bool.not_eq_true', decide_eq_false_iff_not, decide_eq_true, decide_eq_false, decide_true, decide_false, and_self, and_true, true_and, or_self, stO, v_caV_, v_caV_i, v_caV_ii, v_caV_iii, v_caV_iiii, v_caV_iiiii, v_caV_il, v_caV_iil, v_caV_l, v_caV_ll, v_caV_r, v_caV_ri, v_caV_rii, v_caV_riii, v_caV_riiii, v_caV_ir, v_caV_iri, v_caV_iiri, v_caS_i, v_caS_ii, v_caS_iii, v_caS_iiii, v_caS_iiiiii, v_caS_il, v_caS_li, v_caS_ll, v_caS_lll, v_caS_ri, v_caS_riii, sh_239, sh_240, sh_241, sh_242, sh_243, sh_244, sh_245, sh_246, sh_247, sh_248, sh_249, sh_250, sh_251, sh_252, sh_253, rf_239_4, rf_239_5, rf_239_6, rf_239_7, rf_239_20, rf_239_21, rf_239_22, rf_239_23, rf_239_27, rf_239_28, rf_239_32, rf_239_33, rf_239_34, rf_239_35, Int.reduceLE, Int.reduceLT, Int.reduceToNat, Int.reduceAdd, Int.reduceSub, Int.reduceMul, Int.reduceNeg, Int.reduceEq, Int.reduceNe, Nat.reduceAdd, Nat.reduceMul, Nat.reduceLT, Nat.reduceEqDiff, or_true, true_or, or_false, false_or, and_false, false_and, not_true_eq_false, not_false_eq_true, ne_eq, cN4, cN5, cN6, cN7, cN13, cN30, cN60, cN64, cN100, cN136, cN240, cN384, cN900, cN2040, cN3, v_sw_eq, v_swM_0, v_swM_1, v_swM_r, v_swM_n, swM_ite, app_ite, ex_some, bI_0, bI_1, nn_iff, Int.toNat_natCast, Int.toNat_of_nonneg, Int.natCast_add, cN1, wI_id2, wL_id2, if_pos, if_neg]
theorem m_laysNow {σ : SS} (h : WH (σ 244)) (hd : WD (σ 244)) : F_X12_laysNow 239 σ = some (0, nowM σ (bn3 (σ 244))) := by
  simp (disch := omega) only [F_X12_laysNow, E_X12_laysNow, ml_laysNow h hd, Wd_some, Wd_bn, Wd_sqM, Wd_outV, Wd_blkM, Wd_swM, Wd_ite, Wd_map, v_kS_0, v_kS_b, v_kS_r, v_kO_r, v_kW_0, v_kW_1, v_kW_2, v_kW_r, v_kL_0, v_kL_1, v_kL_2, v_kL_r, v_kU_0, ups_11, upsN, upsA, upA_same, upA_neA, fl_at, fl_neA, v_sq_eq, v_sqM_0, v_sqM_r, v_sqM_b, v_sqM_n, sqM_ite, v_asI, v_asR, v_inc, v_pfI, v_pfZ, v_pfO, v_paI, v_paO, v_exI, v_iff, v_rtI, v_rtZ, v_rtV, v_sk, v_brk, v_cnt, v_blk_eq, v_blkM_some, blkM_ite, v_lI, v_lR, v_cI, v_gI, v_gR, v_op1, v_op2, v_arI, v_arR, v_alen, v_tern, v_cmp1, v_cmp2, v_cAnd, v_cOr, v_cNot, v_cTern, v_bn_some, bn_ite, v_bn_none, v_outV_r, v_outV_0, v_outV_n, outV_ite, List.getD_cons_zero, List.getD_cons_succ, List.set_cons_zero, List.set_cons_succ, List.take_succ_cons, List.take_zero, List.drop_succ_cons, List.drop_zero, List.nil_append, List.cons_append, Option.map_some, Option.map_none, if_true, if_false, reduceIte, reduceCtorEq, decide_eq_true_eq, Bool.not_eq_true', decide_eq_false_iff_not, decide_eq_true, decide_eq_false, decide_true, decide_false, and_self, and_true, true_and, or_self, stO, v_caV_, v_caV_i, v_caV_ii, v_caV_iii, v_caV_iiii, v_caV_iiiii, v_caV_il, v_caV_iil, v_caV_l, v_caV_ll, v_caV_r, v_caV_ri, v_caV_rii, v_caV_riii, v_caV_riiii, v_caV_ir, v_caV_iri, v_caV_iiri, v_caS_i, v_caS_ii, v_caS_iii, v_caS_iiii, v_caS_iiiiii, v_caS_il, v_caS_li, v_caS_ll, v_caS_lll, v_caS_ri, v_caS_riii, sh_239, sh_240, sh_241, sh_242, sh_243, sh_244, sh_245, sh_246, sh_247, sh_248, sh_249, sh_250, sh_251, sh_252, sh_253, rf_239_4, rf_239_5, rf_239_6, rf_239_7, rf_239_20, rf_239_21, rf_239_22, rf_239_23, rf_239_27, rf_239_28, rf_239_32, rf_239_33, rf_239_34, rf_239_35, Int.reduceLE, Int.reduceLT, Int.reduceToNat, Int.reduceAdd, Int.reduceSub, Int.reduceMul, Int.reduceNeg, Int.reduceEq, Int.reduceNe, Nat.reduceAdd, Nat.reduceMul, Nat.reduceLT, Nat.reduceEqDiff, or_true, true_or, or_false, false_or, and_false, false_and, not_true_eq_false, not_false_eq_true, ne_eq, cN4, cN5, cN6, cN7, cN13, cN30, cN60, cN64, cN100, cN136, cN240, cN384, cN900, cN2040, cN3, v_sw_eq, v_swM_0, v_swM_1, v_swM_r, v_swM_n, swM_ite, app_ite, ex_some, bI_0, bI_1, nn_iff, Int.toNat_natCast, Int.toNat_of_nonneg, Int.natCast_add, cN1, wI_id2, wL_id2, if_pos, if_neg]
theorem m_faded {σ : SS} (h : WH (σ 244)) {s way : Int} (h0 : 0 ≤ s) (h6 : s ≤ 6) (hw : 0 ≤ way ∧ way ≤ 3) : F_X12_faded 239 s way σ = some (fadeB (σ 244) s way, σ) := by
  have p1 := mul_bd h0 h6 (show 0 ≤ σ 244 4 by omega) (show σ 244 4 ≤ 9 by omega)
  have p2 := mul_bd h0 h6 (show 0 ≤ σ 244 4 + 1 by omega) (show σ 244 4 + 1 ≤ 10 by omega)
  have p3 := mul_bd h0 h6 (show 0 ≤ (if 0 < σ 244 4 - 1 then σ 244 4 - 1 else 0) by split <;> omega) (show (if 0 < σ 244 4 - 1 then σ 244 4 - 1 else 0) ≤ 9 by split <;> omega)
  have t1 := (tm_range (h := way + 2) (l := 4) (by omega) (by omega)).1
  unfold fadeB
  simp (disch := omega) only [F_X12_faded, B_X12_faded, t1, Wd_some, Wd_bn, Wd_sqM, Wd_outV, Wd_blkM, Wd_swM, Wd_ite, Wd_map, v_kS_0, v_kS_b, v_kS_r, v_kO_r, v_kW_0, v_kW_1, v_kW_2, v_kW_r, v_kL_0, v_kL_1, v_kL_2, v_kL_r, v_kU_0, ups_11, upsN, upsA, upA_same, upA_neA, fl_at, fl_neA, v_sq_eq, v_sqM_0, v_sqM_r, v_sqM_b, v_sqM_n, sqM_ite, v_asI, v_asR, v_inc, v_pfI, v_pfZ, v_pfO, v_paI, v_paO, v_exI, v_iff, v_rtI, v_rtZ, v_rtV, v_sk, v_brk, v_cnt, v_blk_eq, v_blkM_some, blkM_ite, v_lI, v_lR, v_cI, v_gI, v_gR, v_op1, v_op2, v_arI, v_arR, v_alen, v_tern, v_cmp1, v_cmp2, v_cAnd, v_cOr, v_cNot, v_cTern, v_bn_some, bn_ite, v_bn_none, v_outV_r, v_outV_0, v_outV_n, outV_ite, List.getD_cons_zero, List.getD_cons_succ, List.set_cons_zero, List.set_cons_succ, List.take_succ_cons, List.take_zero, List.drop_succ_cons, List.drop_zero, List.nil_append, List.cons_append, Option.map_some, Option.map_none, if_true, if_false, reduceIte, reduceCtorEq, decide_eq_true_eq, Bool.not_eq_true', decide_eq_false_iff_not, decide_eq_true, decide_eq_false, decide_true, decide_false, and_self, and_true, true_and, or_self, stO, v_caV_, v_caV_i, v_caV_ii, v_caV_iii, v_caV_iiii, v_caV_iiiii, v_caV_il, v_caV_iil, v_caV_l, v_caV_ll, v_caV_r, v_caV_ri, v_caV_rii, v_caV_riii, v_caV_riiii, v_caV_ir, v_caV_iri, v_caV_iiri, v_caS_i, v_caS_ii, v_caS_iii, v_caS_iiii, v_caS_iiiiii, v_caS_il, v_caS_li, v_caS_ll, v_caS_lll, v_caS_ri, v_caS_riii, sh_239, sh_240, sh_241, sh_242, sh_243, sh_244, sh_245, sh_246, sh_247, sh_248, sh_249, sh_250, sh_251, sh_252, sh_253, rf_239_4, rf_239_5, rf_239_6, rf_239_7, rf_239_20, rf_239_21, rf_239_22, rf_239_23, rf_239_27, rf_239_28, rf_239_32, rf_239_33, rf_239_34, rf_239_35, Int.reduceLE, Int.reduceLT, Int.reduceToNat, Int.reduceAdd, Int.reduceSub, Int.reduceMul, Int.reduceNeg, Int.reduceEq, Int.reduceNe, Nat.reduceAdd, Nat.reduceMul, Nat.reduceLT, Nat.reduceEqDiff, or_true, true_or, or_false, false_or, and_false, false_and, not_true_eq_false, not_false_eq_true, ne_eq, cN4, cN5, cN6, cN7, cN13, cN30, cN60, cN64, cN100, cN136, cN240, cN384, cN900, cN2040, cN3, v_sw_eq, v_swM_0, v_swM_1, v_swM_r, v_swM_n, swM_ite, app_ite, ex_some, bI_0, bI_1, nn_iff, Int.toNat_natCast, Int.toNat_of_nonneg, Int.natCast_add, cN1, wI_id2, wL_id2, if_pos, if_neg]
  by_cases g1 : σ 244 8 = 4
  · rw [if_pos g1, if_pos g1]
  · rw [if_neg g1, if_neg g1]
    by_cases g2 : σ 244 8 = way
    · rw [if_pos g2, if_pos g2]
    · rw [if_neg g2, if_neg g2]
      by_cases g3 : σ 244 8 = (way + 2) % 4
      · rw [if_pos g3, if_pos g3]
      · rw [if_neg g3, if_neg g3]
theorem absB_f (d : Int) : (if 0 ≤ d then d else -d) = absB d := rfl
theorem absB_p {d : Int} (h : 0 < d) : absB d = d := if_pos (by omega)
theorem m_heardOf {σ : SS} (h : WH (σ 244)) (ht : WT (σ 244)) (hd : WD (σ 244)) {b t x y : Int} (b0 : 0 ≤ b) (b1 : b < σ 244 3) (he : enB (σ 244) t) (hx : 0 ≤ x ∧ x ≤ 6) (hy : 0 ≤ y ∧ y ≤ 6) : F_X12_heardOf 239 b t x y σ = some (hearB (σ 244) b t x y, σ) := by
  have d1 := (hd b b0 b1).1
  by_cases h6 : t = 6
  · subst h6
    simp (disch := omega) only [F_X12_heardOf, B_X12_heardOf, hearB, Wd_some, Wd_bn, Wd_sqM, Wd_outV, Wd_blkM, Wd_swM, Wd_ite, Wd_map, v_kS_0, v_kS_b, v_kS_r, v_kO_r, v_kW_0, v_kW_1, v_kW_2, v_kW_r, v_kL_0, v_kL_1, v_kL_2, v_kL_r, v_kU_0, ups_11, upsN, upsA, upA_same, upA_neA, fl_at, fl_neA, v_sq_eq, v_sqM_0, v_sqM_r, v_sqM_b, v_sqM_n, sqM_ite, v_asI, v_asR, v_inc, v_pfI, v_pfZ, v_pfO, v_paI, v_paO, v_exI, v_iff, v_rtI, v_rtZ, v_rtV, v_sk, v_brk, v_cnt, v_blk_eq, v_blkM_some, blkM_ite, v_lI, v_lR, v_cI, v_gI, v_gR, v_op1, v_op2, v_arI, v_arR, v_alen, v_tern, v_cmp1, v_cmp2, v_cAnd, v_cOr, v_cNot, v_cTern, v_bn_some, bn_ite, v_bn_none, v_outV_r, v_outV_0, v_outV_n, outV_ite, List.getD_cons_zero, List.getD_cons_succ, List.set_cons_zero, List.set_cons_succ, List.take_succ_cons, List.take_zero, List.drop_succ_cons, List.drop_zero, List.nil_append, List.cons_append, Option.map_some, Option.map_none, if_true, if_false, reduceIte, reduceCtorEq, decide_eq_true_eq, Bool.not_eq_true', decide_eq_false_iff_not, decide_eq_true, decide_eq_false, decide_true, decide_false, and_self, and_true, true_and, or_self, stO, v_caV_, v_caV_i, v_caV_ii, v_caV_iii, v_caV_iiii, v_caV_iiiii, v_caV_il, v_caV_iil, v_caV_l, v_caV_ll, v_caV_r, v_caV_ri, v_caV_rii, v_caV_riii, v_caV_riiii, v_caV_ir, v_caV_iri, v_caV_iiri, v_caS_i, v_caS_ii, v_caS_iii, v_caS_iiii, v_caS_iiiiii, v_caS_il, v_caS_li, v_caS_ll, v_caS_lll, v_caS_ri, v_caS_riii, sh_239, sh_240, sh_241, sh_242, sh_243, sh_244, sh_245, sh_246, sh_247, sh_248, sh_249, sh_250, sh_251, sh_252, sh_253, rf_239_4, rf_239_5, rf_239_6, rf_239_7, rf_239_20, rf_239_21, rf_239_22, rf_239_23, rf_239_27, rf_239_28, rf_239_32, rf_239_33, rf_239_34, rf_239_35, Int.reduceLE, Int.reduceLT, Int.reduceToNat, Int.reduceAdd, Int.reduceSub, Int.reduceMul, Int.reduceNeg, Int.reduceEq, Int.reduceNe, Nat.reduceAdd, Nat.reduceMul, Nat.reduceLT, Nat.reduceEqDiff, or_true, true_or, or_false, false_or, and_false, false_and, not_true_eq_false, not_false_eq_true, ne_eq, cN4, cN5, cN6, cN7, cN13, cN30, cN60, cN64, cN100, cN136, cN240, cN384, cN900, cN2040, cN3, v_sw_eq, v_swM_0, v_swM_1, v_swM_r, v_swM_n, swM_ite, app_ite, ex_some, bI_0, bI_1, nn_iff, Int.toNat_natCast, Int.toNat_of_nonneg, Int.natCast_add, cN1, wI_id2, wL_id2, if_pos, if_neg]
  · have t1 := ht t (by omega) (by omega)
    have a1 : absB (x - σ 244 (28 + b).toNat) ≤ 6 := by unfold absB; split <;> omega
    have a2 : absB (y - σ 244 (34 + b).toNat) ≤ 6 := by unfold absB; split <;> omega
    have f1 := fadeB_bd h (s := absB (x - σ 244 (28 + b).toNat)) (way := if 0 < x - σ 244 (28 + b).toNat then 0 else 2) (absB_0 _) a1
    have f2 := fadeB_bd h (s := absB (y - σ 244 (34 + b).toNat)) (way := if 0 < y - σ 244 (34 + b).toNat then 1 else 3) (absB_0 _) a2
    have m1 := m_faded h (absB_0 (x - σ 244 (28 + b).toNat)) a1 (way := if 0 < x - σ 244 (28 + b).toNat then 0 else 2) (by split <;> omega)
    have m2 := m_faded h (absB_0 (y - σ 244 (34 + b).toNat)) a2 (way := if 0 < y - σ 244 (34 + b).toNat then 1 else 3) (by split <;> omega)
    have key : hearB (σ 244) b t x y = posB (σ 244 (40 + b).toNat + σ 244 (10 + t).toNat - fadeB (σ 244) (absB (x - σ 244 (28 + b).toNat)) (if 0 < x - σ 244 (28 + b).toNat then 0 else 2) - fadeB (σ 244) (absB (y - σ 244 (34 + b).toNat)) (if 0 < y - σ 244 (34 + b).toNat then 1 else 3) - 2 * σ 244 9) := by
      unfold hearB
      rw [if_neg h6]
      congr 1
      unfold lossB
      omega
    rw [key]
    unfold posB
    by_cases g1 : 0 < x - σ 244 (28 + b).toNat
    · rw [if_pos g1, absB_p g1] at f1 m1 ⊢
      by_cases g2 : 0 < y - σ 244 (34 + b).toNat
      · rw [if_pos g2, absB_p g2] at f2 m2 ⊢
        simp (disch := omega) only [F_X12_heardOf, B_X12_heardOf, h6, m1, m2, absB_f, Wd_some, Wd_bn, Wd_sqM, Wd_outV, Wd_blkM, Wd_swM, Wd_ite, Wd_map, v_kS_0, v_kS_b, v_kS_r, v_kO_r, v_kW_0, v_kW_1, v_kW_2, v_kW_r, v_kL_0, v_kL_1, v_kL_2, v_kL_r, v_kU_0, ups_11, upsN, upsA, upA_same, upA_neA, fl_at, fl_neA, v_sq_eq, v_sqM_0, v_sqM_r, v_sqM_b, v_sqM_n, sqM_ite, v_asI, v_asR, v_inc, v_pfI, v_pfZ, v_pfO, v_paI, v_paO, v_exI, v_iff, v_rtI, v_rtZ, v_rtV, v_sk, v_brk, v_cnt, v_blk_eq, v_blkM_some, blkM_ite, v_lI, v_lR, v_cI, v_gI, v_gR, v_op1, v_op2, v_arI, v_arR, v_alen, v_tern, v_cmp1, v_cmp2, v_cAnd, v_cOr, v_cNot, v_cTern, v_bn_some, bn_ite, v_bn_none, v_outV_r, v_outV_0, v_outV_n, outV_ite, List.getD_cons_zero, List.getD_cons_succ, List.set_cons_zero, List.set_cons_succ, List.take_succ_cons, List.take_zero, List.drop_succ_cons, List.drop_zero, List.nil_append, List.cons_append, Option.map_some, Option.map_none, if_true, if_false, reduceIte, reduceCtorEq, decide_eq_true_eq, Bool.not_eq_true', decide_eq_false_iff_not, decide_eq_true, decide_eq_false, decide_true, decide_false, and_self, and_true, true_and, or_self, stO, v_caV_, v_caV_i, v_caV_ii, v_caV_iii, v_caV_iiii, v_caV_iiiii, v_caV_il, v_caV_iil, v_caV_l, v_caV_ll, v_caV_r, v_caV_ri, v_caV_rii, v_caV_riii, v_caV_riiii, v_caV_ir, v_caV_iri, v_caV_iiri, v_caS_i, v_caS_ii, v_caS_iii, v_caS_iiii, v_caS_iiiiii, v_caS_il, v_caS_li, v_caS_ll, v_caS_lll, v_caS_ri, v_caS_riii, sh_239, sh_240, sh_241, sh_242, sh_243, sh_244, sh_245, sh_246, sh_247, sh_248, sh_249, sh_250, sh_251, sh_252, sh_253, rf_239_4, rf_239_5, rf_239_6, rf_239_7, rf_239_20, rf_239_21, rf_239_22, rf_239_23, rf_239_27, rf_239_28, rf_239_32, rf_239_33, rf_239_34, rf_239_35, Int.reduceLE, Int.reduceLT, Int.reduceToNat, Int.reduceAdd, Int.reduceSub, Int.reduceMul, Int.reduceNeg, Int.reduceEq, Int.reduceNe, Nat.reduceAdd, Nat.reduceMul, Nat.reduceLT, Nat.reduceEqDiff, or_true, true_or, or_false, false_or, and_false, false_and, not_true_eq_false, not_false_eq_true, ne_eq, cN4, cN5, cN6, cN7, cN13, cN30, cN60, cN64, cN100, cN136, cN240, cN384, cN900, cN2040, cN3, v_sw_eq, v_swM_0, v_swM_1, v_swM_r, v_swM_n, swM_ite, app_ite, ex_some, bI_0, bI_1, nn_iff, Int.toNat_natCast, Int.toNat_of_nonneg, Int.natCast_add, cN1, wI_id2, wL_id2, if_pos, if_neg]
      · rw [if_neg g2] at f2 m2 ⊢
        simp (disch := omega) only [F_X12_heardOf, B_X12_heardOf, h6, m1, m2, absB_f, Wd_some, Wd_bn, Wd_sqM, Wd_outV, Wd_blkM, Wd_swM, Wd_ite, Wd_map, v_kS_0, v_kS_b, v_kS_r, v_kO_r, v_kW_0, v_kW_1, v_kW_2, v_kW_r, v_kL_0, v_kL_1, v_kL_2, v_kL_r, v_kU_0, ups_11, upsN, upsA, upA_same, upA_neA, fl_at, fl_neA, v_sq_eq, v_sqM_0, v_sqM_r, v_sqM_b, v_sqM_n, sqM_ite, v_asI, v_asR, v_inc, v_pfI, v_pfZ, v_pfO, v_paI, v_paO, v_exI, v_iff, v_rtI, v_rtZ, v_rtV, v_sk, v_brk, v_cnt, v_blk_eq, v_blkM_some, blkM_ite, v_lI, v_lR, v_cI, v_gI, v_gR, v_op1, v_op2, v_arI, v_arR, v_alen, v_tern, v_cmp1, v_cmp2, v_cAnd, v_cOr, v_cNot, v_cTern, v_bn_some, bn_ite, v_bn_none, v_outV_r, v_outV_0, v_outV_n, outV_ite, List.getD_cons_zero, List.getD_cons_succ, List.set_cons_zero, List.set_cons_succ, List.take_succ_cons, List.take_zero, List.drop_succ_cons, List.drop_zero, List.nil_append, List.cons_append, Option.map_some, Option.map_none, if_true, if_false, reduceIte, reduceCtorEq, decide_eq_true_eq, Bool.not_eq_true', decide_eq_false_iff_not, decide_eq_true, decide_eq_false, decide_true, decide_false, and_self, and_true, true_and, or_self, stO, v_caV_, v_caV_i, v_caV_ii, v_caV_iii, v_caV_iiii, v_caV_iiiii, v_caV_il, v_caV_iil, v_caV_l, v_caV_ll, v_caV_r, v_caV_ri, v_caV_rii, v_caV_riii, v_caV_riiii, v_caV_ir, v_caV_iri, v_caV_iiri, v_caS_i, v_caS_ii, v_caS_iii, v_caS_iiii, v_caS_iiiiii, v_caS_il, v_caS_li, v_caS_ll, v_caS_lll, v_caS_ri, v_caS_riii, sh_239, sh_240, sh_241, sh_242, sh_243, sh_244, sh_245, sh_246, sh_247, sh_248, sh_249, sh_250, sh_251, sh_252, sh_253, rf_239_4, rf_239_5, rf_239_6, rf_239_7, rf_239_20, rf_239_21, rf_239_22, rf_239_23, rf_239_27, rf_239_28, rf_239_32, rf_239_33, rf_239_34, rf_239_35, Int.reduceLE, Int.reduceLT, Int.reduceToNat, Int.reduceAdd, Int.reduceSub, Int.reduceMul, Int.reduceNeg, Int.reduceEq, Int.reduceNe, Nat.reduceAdd, Nat.reduceMul, Nat.reduceLT, Nat.reduceEqDiff, or_true, true_or, or_false, false_or, and_false, false_and, not_true_eq_false, not_false_eq_true, ne_eq, cN4, cN5, cN6, cN7, cN13, cN30, cN60, cN64, cN100, cN136, cN240, cN384, cN900, cN2040, cN3, v_sw_eq, v_swM_0, v_swM_1, v_swM_r, v_swM_n, swM_ite, app_ite, ex_some, bI_0, bI_1, nn_iff, Int.toNat_natCast, Int.toNat_of_nonneg, Int.natCast_add, cN1, wI_id2, wL_id2, if_pos, if_neg]
    · rw [if_neg g1] at f1 m1 ⊢
      by_cases g2 : 0 < y - σ 244 (34 + b).toNat
      · rw [if_pos g2, absB_p g2] at f2 m2 ⊢
        simp (disch := omega) only [F_X12_heardOf, B_X12_heardOf, h6, m1, m2, absB_f, Wd_some, Wd_bn, Wd_sqM, Wd_outV, Wd_blkM, Wd_swM, Wd_ite, Wd_map, v_kS_0, v_kS_b, v_kS_r, v_kO_r, v_kW_0, v_kW_1, v_kW_2, v_kW_r, v_kL_0, v_kL_1, v_kL_2, v_kL_r, v_kU_0, ups_11, upsN, upsA, upA_same, upA_neA, fl_at, fl_neA, v_sq_eq, v_sqM_0, v_sqM_r, v_sqM_b, v_sqM_n, sqM_ite, v_asI, v_asR, v_inc, v_pfI, v_pfZ, v_pfO, v_paI, v_paO, v_exI, v_iff, v_rtI, v_rtZ, v_rtV, v_sk, v_brk, v_cnt, v_blk_eq, v_blkM_some, blkM_ite, v_lI, v_lR, v_cI, v_gI, v_gR, v_op1, v_op2, v_arI, v_arR, v_alen, v_tern, v_cmp1, v_cmp2, v_cAnd, v_cOr, v_cNot, v_cTern, v_bn_some, bn_ite, v_bn_none, v_outV_r, v_outV_0, v_outV_n, outV_ite, List.getD_cons_zero, List.getD_cons_succ, List.set_cons_zero, List.set_cons_succ, List.take_succ_cons, List.take_zero, List.drop_succ_cons, List.drop_zero, List.nil_append, List.cons_append, Option.map_some, Option.map_none, if_true, if_false, reduceIte, reduceCtorEq, decide_eq_true_eq, Bool.not_eq_true', decide_eq_false_iff_not, decide_eq_true, decide_eq_false, decide_true, decide_false, and_self, and_true, true_and, or_self, stO, v_caV_, v_caV_i, v_caV_ii, v_caV_iii, v_caV_iiii, v_caV_iiiii, v_caV_il, v_caV_iil, v_caV_l, v_caV_ll, v_caV_r, v_caV_ri, v_caV_rii, v_caV_riii, v_caV_riiii, v_caV_ir, v_caV_iri, v_caV_iiri, v_caS_i, v_caS_ii, v_caS_iii, v_caS_iiii, v_caS_iiiiii, v_caS_il, v_caS_li, v_caS_ll, v_caS_lll, v_caS_ri, v_caS_riii, sh_239, sh_240, sh_241, sh_242, sh_243, sh_244, sh_245, sh_246, sh_247, sh_248, sh_249, sh_250, sh_251, sh_252, sh_253, rf_239_4, rf_239_5, rf_239_6, rf_239_7, rf_239_20, rf_239_21, rf_239_22, rf_239_23, rf_239_27, rf_239_28, rf_239_32, rf_239_33, rf_239_34, rf_239_35, Int.reduceLE, Int.reduceLT, Int.reduceToNat, Int.reduceAdd, Int.reduceSub, Int.reduceMul, Int.reduceNeg, Int.reduceEq, Int.reduceNe, Nat.reduceAdd, Nat.reduceMul, Nat.reduceLT, Nat.reduceEqDiff, or_true, true_or, or_false, false_or, and_false, false_and, not_true_eq_false, not_false_eq_true, ne_eq, cN4, cN5, cN6, cN7, cN13, cN30, cN60, cN64, cN100, cN136, cN240, cN384, cN900, cN2040, cN3, v_sw_eq, v_swM_0, v_swM_1, v_swM_r, v_swM_n, swM_ite, app_ite, ex_some, bI_0, bI_1, nn_iff, Int.toNat_natCast, Int.toNat_of_nonneg, Int.natCast_add, cN1, wI_id2, wL_id2, if_pos, if_neg]
      · rw [if_neg g2] at f2 m2 ⊢
        simp (disch := omega) only [F_X12_heardOf, B_X12_heardOf, h6, m1, m2, absB_f, Wd_some, Wd_bn, Wd_sqM, Wd_outV, Wd_blkM, Wd_swM, Wd_ite, Wd_map, v_kS_0, v_kS_b, v_kS_r, v_kO_r, v_kW_0, v_kW_1, v_kW_2, v_kW_r, v_kL_0, v_kL_1, v_kL_2, v_kL_r, v_kU_0, ups_11, upsN, upsA, upA_same, upA_neA, fl_at, fl_neA, v_sq_eq, v_sqM_0, v_sqM_r, v_sqM_b, v_sqM_n, sqM_ite, v_asI, v_asR, v_inc, v_pfI, v_pfZ, v_pfO, v_paI, v_paO, v_exI, v_iff, v_rtI, v_rtZ, v_rtV, v_sk, v_brk, v_cnt, v_blk_eq, v_blkM_some, blkM_ite, v_lI, v_lR, v_cI, v_gI, v_gR, v_op1, v_op2, v_arI, v_arR, v_alen, v_tern, v_cmp1, v_cmp2, v_cAnd, v_cOr, v_cNot, v_cTern, v_bn_some, bn_ite, v_bn_none, v_outV_r, v_outV_0, v_outV_n, outV_ite, List.getD_cons_zero, List.getD_cons_succ, List.set_cons_zero, List.set_cons_succ, List.take_succ_cons, List.take_zero, List.drop_succ_cons, List.drop_zero, List.nil_append, List.cons_append, Option.map_some, Option.map_none, if_true, if_false, reduceIte, reduceCtorEq, decide_eq_true_eq, Bool.not_eq_true', decide_eq_false_iff_not, decide_eq_true, decide_eq_false, decide_true, decide_false, and_self, and_true, true_and, or_self, stO, v_caV_, v_caV_i, v_caV_ii, v_caV_iii, v_caV_iiii, v_caV_iiiii, v_caV_il, v_caV_iil, v_caV_l, v_caV_ll, v_caV_r, v_caV_ri, v_caV_rii, v_caV_riii, v_caV_riiii, v_caV_ir, v_caV_iri, v_caV_iiri, v_caS_i, v_caS_ii, v_caS_iii, v_caS_iiii, v_caS_iiiiii, v_caS_il, v_caS_li, v_caS_ll, v_caS_lll, v_caS_ri, v_caS_riii, sh_239, sh_240, sh_241, sh_242, sh_243, sh_244, sh_245, sh_246, sh_247, sh_248, sh_249, sh_250, sh_251, sh_252, sh_253, rf_239_4, rf_239_5, rf_239_6, rf_239_7, rf_239_20, rf_239_21, rf_239_22, rf_239_23, rf_239_27, rf_239_28, rf_239_32, rf_239_33, rf_239_34, rf_239_35, Int.reduceLE, Int.reduceLT, Int.reduceToNat, Int.reduceAdd, Int.reduceSub, Int.reduceMul, Int.reduceNeg, Int.reduceEq, Int.reduceNe, Nat.reduceAdd, Nat.reduceMul, Nat.reduceLT, Nat.reduceEqDiff, or_true, true_or, or_false, false_or, and_false, false_and, not_true_eq_false, not_false_eq_true, ne_eq, cN4, cN5, cN6, cN7, cN13, cN30, cN60, cN64, cN100, cN136, cN240, cN384, cN900, cN2040, cN3, v_sw_eq, v_swM_0, v_swM_1, v_swM_r, v_swM_n, swM_ite, app_ite, ex_some, bI_0, bI_1, nn_iff, Int.toNat_natCast, Int.toNat_of_nonneg, Int.natCast_add, cN1, wI_id2, wL_id2, if_pos, if_neg]
def plO (c p : Nat → Int) : Prop := ∀ k : Nat, (k : Int) < c 3 → enB c (p k)
theorem fl_upA (σ : SS) (a i : Nat) (f g : Nat → Int) : fl (upA σ a f) a i g = upA σ a (fun k => if k < i then g k else f k) := by
  unfold fl
  rw [upA_upA, upA_same]
theorem upA_4 {σ : SS} {f : Nat → Int} : upA σ 249 f 244 = σ 244 := upA_ne (by omega)
theorem upA_8 {σ : SS} {f : Nat → Int} : upA σ 249 f 248 = σ 248 := upA_ne (by omega)
theorem ml_laysNoise {σ : SS} (h : WH (σ 244)) (ht : WT (σ 244)) (hd : WD (σ 244)) (hp : plO (σ 244) (σ 248)) {x y : Int} (hx : 0 ≤ x ∧ x ≤ 6) (hy : 0 ≤ y ∧ y ≤ 6) : L_X12_laysNoise_0 ([0, x, y, 0], [239, 0, 0, 0], σ) = some (.inl 0, ([0, x, y, σ 244 3], [239, 0, 0, 0], fl σ 249 (bn3 (σ 244)) (noiB (σ 244) (σ 248) x y))) := by
  refine Wd_out ?_
  unfold L_X12_laysNoise_0
  have hn := bn3_c h
  refine Wd_it (fun i z => z = ([0, x, y, (i : Int)], [239, 0, 0, 0], fl σ 249 i (noiB (σ 244) (σ 248) x y))) (bn3 (σ 244)) ?_ ?_ ?_
  · rw [fl_0]; rfl
  · intro i z hi hz
    subst hz
    have e4 : fl σ 249 i (noiB (σ 244) (σ 248) x y) 244 = σ 244 := fl_neA (by omega)
    have e1 := @m_heardOf (fl σ 249 i (noiB (σ 244) (σ 248) x y)) (by rw [e4]; exact h) (by rw [e4]; exact ht) (by rw [e4]; exact hd) i (σ 248 i) x y (by omega) (by rw [e4]; omega) (by rw [e4]; exact hp i (by omega)) hx hy
    rw [e4] at e1
    simp (disch := omega) only [C_X12_laysNoise_0, D_X12_laysNoise_0, U_X12_laysNoise_0, e1, Wd_some, Wd_bn, Wd_sqM, Wd_outV, Wd_blkM, Wd_swM, Wd_ite, Wd_map, v_kS_0, v_kS_b, v_kS_r, v_kO_r, v_kW_0, v_kW_1, v_kW_2, v_kW_r, v_kL_0, v_kL_1, v_kL_2, v_kL_r, v_kU_0, ups_11, upsN, upsA, upA_same, upA_neA, fl_at, fl_neA, v_sq_eq, v_sqM_0, v_sqM_r, v_sqM_b, v_sqM_n, sqM_ite, v_asI, v_asR, v_inc, v_pfI, v_pfZ, v_pfO, v_paI, v_paO, v_exI, v_iff, v_rtI, v_rtZ, v_rtV, v_sk, v_brk, v_cnt, v_blk_eq, v_blkM_some, blkM_ite, v_lI, v_lR, v_cI, v_gI, v_gR, v_op1, v_op2, v_arI, v_arR, v_alen, v_tern, v_cmp1, v_cmp2, v_cAnd, v_cOr, v_cNot, v_cTern, v_bn_some, bn_ite, v_bn_none, v_outV_r, v_outV_0, v_outV_n, outV_ite, List.getD_cons_zero, List.getD_cons_succ, List.set_cons_zero, List.set_cons_succ, List.take_succ_cons, List.take_zero, List.drop_succ_cons, List.drop_zero, List.nil_append, List.cons_append, Option.map_some, Option.map_none, if_true, if_false, reduceIte, reduceCtorEq, decide_eq_true_eq, Bool.not_eq_true', decide_eq_false_iff_not, decide_eq_true, decide_eq_false, decide_true, decide_false, and_self, and_true, true_and, or_self, stO, v_caV_, v_caV_i, v_caV_ii, v_caV_iii, v_caV_iiii, v_caV_iiiii, v_caV_il, v_caV_iil, v_caV_l, v_caV_ll, v_caV_r, v_caV_ri, v_caV_rii, v_caV_riii, v_caV_riiii, v_caV_ir, v_caV_iri, v_caV_iiri, v_caS_i, v_caS_ii, v_caS_iii, v_caS_iiii, v_caS_iiiiii, v_caS_il, v_caS_li, v_caS_ll, v_caS_lll, v_caS_ri, v_caS_riii, sh_239, sh_240, sh_241, sh_242, sh_243, sh_244, sh_245, sh_246, sh_247, sh_248, sh_249, sh_250, sh_251, sh_252, sh_253, rf_239_4, rf_239_5, rf_239_6, rf_239_7, rf_239_20, rf_239_21, rf_239_22, rf_239_23, rf_239_27, rf_239_28, rf_239_32, rf_239_33, rf_239_34, rf_239_35, Int.reduceLE, Int.reduceLT, Int.reduceToNat, Int.reduceAdd, Int.reduceSub, Int.reduceMul, Int.reduceNeg, Int.reduceEq, Int.reduceNe, Nat.reduceAdd, Nat.reduceMul, Nat.reduceLT, Nat.reduceEqDiff, or_true, true_or, or_false, false_or, and_false, false_and, not_true_eq_false, not_false_eq_true, ne_eq, cN4, cN5, cN6, cN7, cN13, cN30, cN60, cN64, cN100, cN136, cN240, cN384, cN900, cN2040, cN3, v_sw_eq, v_swM_0, v_swM_1, v_swM_r, v_swM_n, swM_ite, app_ite, ex_some, bI_0, bI_1, nn_iff, Int.toNat_natCast, Int.toNat_of_nonneg, Int.natCast_add, cN1, wI_id2, wL_id2, if_pos, if_neg]
    rw [fl_step (show hearB (σ 244) i (σ 248 i) x y = noiB (σ 244) (σ 248) x y i from rfl)]
  · intro z hz
    subst hz
    simp (disch := omega) only [C_X12_laysNoise_0, D_X12_laysNoise_0, U_X12_laysNoise_0, hn, Wd_some, Wd_bn, Wd_sqM, Wd_outV, Wd_blkM, Wd_swM, Wd_ite, Wd_map, v_kS_0, v_kS_b, v_kS_r, v_kO_r, v_kW_0, v_kW_1, v_kW_2, v_kW_r, v_kL_0, v_kL_1, v_kL_2, v_kL_r, v_kU_0, ups_11, upsN, upsA, upA_same, upA_neA, fl_at, fl_neA, v_sq_eq, v_sqM_0, v_sqM_r, v_sqM_b, v_sqM_n, sqM_ite, v_asI, v_asR, v_inc, v_pfI, v_pfZ, v_pfO, v_paI, v_paO, v_exI, v_iff, v_rtI, v_rtZ, v_rtV, v_sk, v_brk, v_cnt, v_blk_eq, v_blkM_some, blkM_ite, v_lI, v_lR, v_cI, v_gI, v_gR, v_op1, v_op2, v_arI, v_arR, v_alen, v_tern, v_cmp1, v_cmp2, v_cAnd, v_cOr, v_cNot, v_cTern, v_bn_some, bn_ite, v_bn_none, v_outV_r, v_outV_0, v_outV_n, outV_ite, List.getD_cons_zero, List.getD_cons_succ, List.set_cons_zero, List.set_cons_succ, List.take_succ_cons, List.take_zero, List.drop_succ_cons, List.drop_zero, List.nil_append, List.cons_append, Option.map_some, Option.map_none, if_true, if_false, reduceIte, reduceCtorEq, decide_eq_true_eq, Bool.not_eq_true', decide_eq_false_iff_not, decide_eq_true, decide_eq_false, decide_true, decide_false, and_self, and_true, true_and, or_self, stO, v_caV_, v_caV_i, v_caV_ii, v_caV_iii, v_caV_iiii, v_caV_iiiii, v_caV_il, v_caV_iil, v_caV_l, v_caV_ll, v_caV_r, v_caV_ri, v_caV_rii, v_caV_riii, v_caV_riiii, v_caV_ir, v_caV_iri, v_caV_iiri, v_caS_i, v_caS_ii, v_caS_iii, v_caS_iiii, v_caS_iiiiii, v_caS_il, v_caS_li, v_caS_ll, v_caS_lll, v_caS_ri, v_caS_riii, sh_239, sh_240, sh_241, sh_242, sh_243, sh_244, sh_245, sh_246, sh_247, sh_248, sh_249, sh_250, sh_251, sh_252, sh_253, rf_239_4, rf_239_5, rf_239_6, rf_239_7, rf_239_20, rf_239_21, rf_239_22, rf_239_23, rf_239_27, rf_239_28, rf_239_32, rf_239_33, rf_239_34, rf_239_35, Int.reduceLE, Int.reduceLT, Int.reduceToNat, Int.reduceAdd, Int.reduceSub, Int.reduceMul, Int.reduceNeg, Int.reduceEq, Int.reduceNe, Nat.reduceAdd, Nat.reduceMul, Nat.reduceLT, Nat.reduceEqDiff, or_true, true_or, or_false, false_or, and_false, false_and, not_true_eq_false, not_false_eq_true, ne_eq, cN4, cN5, cN6, cN7, cN13, cN30, cN60, cN64, cN100, cN136, cN240, cN384, cN900, cN2040, cN3, v_sw_eq, v_swM_0, v_swM_1, v_swM_r, v_swM_n, swM_ite, app_ite, ex_some, bI_0, bI_1, nn_iff, Int.toNat_natCast, Int.toNat_of_nonneg, Int.natCast_add, cN1, wI_id2, wL_id2, if_pos, if_neg]
theorem m_laysNoise {σ : SS} (h : WH (σ 244)) (ht : WT (σ 244)) (hd : WD (σ 244)) (hp : plO (σ 244) (σ 248)) {x y : Int} (hx : 0 ≤ x ∧ x ≤ 6) (hy : 0 ≤ y ∧ y ≤ 6) : F_X12_laysNoise 239 x y σ = some (0, fl σ 249 (bn3 (σ 244)) (noiB (σ 244) (σ 248) x y)) := by
  simp (disch := omega) only [F_X12_laysNoise, E_X12_laysNoise, ml_laysNoise h ht hd hp hx hy, Wd_some, Wd_bn, Wd_sqM, Wd_outV, Wd_blkM, Wd_swM, Wd_ite, Wd_map, v_kS_0, v_kS_b, v_kS_r, v_kO_r, v_kW_0, v_kW_1, v_kW_2, v_kW_r, v_kL_0, v_kL_1, v_kL_2, v_kL_r, v_kU_0, ups_11, upsN, upsA, upA_same, upA_neA, fl_at, fl_neA, v_sq_eq, v_sqM_0, v_sqM_r, v_sqM_b, v_sqM_n, sqM_ite, v_asI, v_asR, v_inc, v_pfI, v_pfZ, v_pfO, v_paI, v_paO, v_exI, v_iff, v_rtI, v_rtZ, v_rtV, v_sk, v_brk, v_cnt, v_blk_eq, v_blkM_some, blkM_ite, v_lI, v_lR, v_cI, v_gI, v_gR, v_op1, v_op2, v_arI, v_arR, v_alen, v_tern, v_cmp1, v_cmp2, v_cAnd, v_cOr, v_cNot, v_cTern, v_bn_some, bn_ite, v_bn_none, v_outV_r, v_outV_0, v_outV_n, outV_ite, List.getD_cons_zero, List.getD_cons_succ, List.set_cons_zero, List.set_cons_succ, List.take_succ_cons, List.take_zero, List.drop_succ_cons, List.drop_zero, List.nil_append, List.cons_append, Option.map_some, Option.map_none, if_true, if_false, reduceIte, reduceCtorEq, decide_eq_true_eq, Bool.not_eq_true', decide_eq_false_iff_not, decide_eq_true, decide_eq_false, decide_true, decide_false, and_self, and_true, true_and, or_self, stO, v_caV_, v_caV_i, v_caV_ii, v_caV_iii, v_caV_iiii, v_caV_iiiii, v_caV_il, v_caV_iil, v_caV_l, v_caV_ll, v_caV_r, v_caV_ri, v_caV_rii, v_caV_riii, v_caV_riiii, v_caV_ir, v_caV_iri, v_caV_iiri, v_caS_i, v_caS_ii, v_caS_iii, v_caS_iiii, v_caS_iiiiii, v_caS_il, v_caS_li, v_caS_ll, v_caS_lll, v_caS_ri, v_caS_riii, sh_239, sh_240, sh_241, sh_242, sh_243, sh_244, sh_245, sh_246, sh_247, sh_248, sh_249, sh_250, sh_251, sh_252, sh_253, rf_239_4, rf_239_5, rf_239_6, rf_239_7, rf_239_20, rf_239_21, rf_239_22, rf_239_23, rf_239_27, rf_239_28, rf_239_32, rf_239_33, rf_239_34, rf_239_35, Int.reduceLE, Int.reduceLT, Int.reduceToNat, Int.reduceAdd, Int.reduceSub, Int.reduceMul, Int.reduceNeg, Int.reduceEq, Int.reduceNe, Nat.reduceAdd, Nat.reduceMul, Nat.reduceLT, Nat.reduceEqDiff, or_true, true_or, or_false, false_or, and_false, false_and, not_true_eq_false, not_false_eq_true, ne_eq, cN4, cN5, cN6, cN7, cN13, cN30, cN60, cN64, cN100, cN136, cN240, cN384, cN900, cN2040, cN3, v_sw_eq, v_swM_0, v_swM_1, v_swM_r, v_swM_n, swM_ite, app_ite, ex_some, bI_0, bI_1, nn_iff, Int.toNat_natCast, Int.toNat_of_nonneg, Int.natCast_add, cN1, wI_id2, wL_id2, if_pos, if_neg]
/-- what the reference's loop knows behind i bands -/
def HI (σ : SS) (v : Nat → Int) (x y : Int) (i : Nat) (z : ZZ) : Prop := ∃ best alike : Int, z = ([0, x, y, best, alike, (i : Int)], [239, 0, 0, 0, 0, 0], σ) ∧ ((whoN v i = -1 ∧ best = -1 ∧ alike = 0 ∧ mostN v i = 0) ∨ (whoN v i = best ∧ (0 ≤ best ∧ best < i) ∧ alike = 0 ∧ mostN v i = v best.toNat ∧ 0 < mostN v i) ∨ (whoN v i = -2 ∧ (0 ≤ best ∧ best < i) ∧ alike = 1 ∧ mostN v i = v best.toNat ∧ 0 < mostN v i))
theorem ml_holds {σ : SS} {n : Nat} (hn : σ 244 3 = n) (h6 : n ≤ 6) (x y : Int) {v : Nat → Int} (hv : ∀ k : Nat, k < n → σ 249 k = v k) (h0 : ∀ k : Nat, k < n → 0 ≤ v k) : Wd (L_X12_holds_0 ([0, x, y, -1, 0, 0], [239, 0, 0, 0, 0, 0], σ)) (fun o z => o = .inl 0 ∧ HI σ v x y n z) := by
  unfold L_X12_holds_0
  refine Wd_it (HI σ v x y) n ⟨-1, 0, rfl, Or.inl ⟨rfl, rfl, rfl, rfl⟩⟩ ?_ ?_
  · intro i z hi hz
    obtain ⟨best, alike, hz, hc⟩ := hz
    subst hz
    have v0 := h0 i hi
    have hvi := hv i hi
    rcases hc with ⟨c1, c2, c3, c4⟩ | ⟨c1, c2, c3, c4, c5⟩ | ⟨c1, c2, c3, c4, c5⟩
    · subst c2; subst c3
      by_cases hz : v i = 0
      · simp (disch := omega) only [C_X12_holds_0, D_X12_holds_0, U_X12_holds_0, hn, hvi, hz, Wd_some, Wd_bn, Wd_sqM, Wd_outV, Wd_blkM, Wd_swM, Wd_ite, Wd_map, v_kS_0, v_kS_b, v_kS_r, v_kO_r, v_kW_0, v_kW_1, v_kW_2, v_kW_r, v_kL_0, v_kL_1, v_kL_2, v_kL_r, v_kU_0, ups_11, upsN, upsA, upA_same, upA_neA, fl_at, fl_neA, v_sq_eq, v_sqM_0, v_sqM_r, v_sqM_b, v_sqM_n, sqM_ite, v_asI, v_asR, v_inc, v_pfI, v_pfZ, v_pfO, v_paI, v_paO, v_exI, v_iff, v_rtI, v_rtZ, v_rtV, v_sk, v_brk, v_cnt, v_blk_eq, v_blkM_some, blkM_ite, v_lI, v_lR, v_cI, v_gI, v_gR, v_op1, v_op2, v_arI, v_arR, v_alen, v_tern, v_cmp1, v_cmp2, v_cAnd, v_cOr, v_cNot, v_cTern, v_bn_some, bn_ite, v_bn_none, v_outV_r, v_outV_0, v_outV_n, outV_ite, List.getD_cons_zero, List.getD_cons_succ, List.set_cons_zero, List.set_cons_succ, List.take_succ_cons, List.take_zero, List.drop_succ_cons, List.drop_zero, List.nil_append, List.cons_append, Option.map_some, Option.map_none, if_true, if_false, reduceIte, reduceCtorEq, decide_eq_true_eq, Bool.not_eq_true', decide_eq_false_iff_not, decide_eq_true, decide_eq_false, decide_true, decide_false, and_self, and_true, true_and, or_self, stO, v_caV_, v_caV_i, v_caV_ii, v_caV_iii, v_caV_iiii, v_caV_iiiii, v_caV_il, v_caV_iil, v_caV_l, v_caV_ll, v_caV_r, v_caV_ri, v_caV_rii, v_caV_riii, v_caV_riiii, v_caV_ir, v_caV_iri, v_caV_iiri, v_caS_i, v_caS_ii, v_caS_iii, v_caS_iiii, v_caS_iiiiii, v_caS_il, v_caS_li, v_caS_ll, v_caS_lll, v_caS_ri, v_caS_riii, sh_239, sh_240, sh_241, sh_242, sh_243, sh_244, sh_245, sh_246, sh_247, sh_248, sh_249, sh_250, sh_251, sh_252, sh_253, rf_239_4, rf_239_5, rf_239_6, rf_239_7, rf_239_20, rf_239_21, rf_239_22, rf_239_23, rf_239_27, rf_239_28, rf_239_32, rf_239_33, rf_239_34, rf_239_35, Int.reduceLE, Int.reduceLT, Int.reduceToNat, Int.reduceAdd, Int.reduceSub, Int.reduceMul, Int.reduceNeg, Int.reduceEq, Int.reduceNe, Nat.reduceAdd, Nat.reduceMul, Nat.reduceLT, Nat.reduceEqDiff, or_true, true_or, or_false, false_or, and_false, false_and, not_true_eq_false, not_false_eq_true, ne_eq, cN4, cN5, cN6, cN7, cN13, cN30, cN60, cN64, cN100, cN136, cN240, cN384, cN900, cN2040, cN3, v_sw_eq, v_swM_0, v_swM_1, v_swM_r, v_swM_n, swM_ite, app_ite, ex_some, bI_0, bI_1, nn_iff, Int.toNat_natCast, Int.toNat_of_nonneg, Int.natCast_add, cN1, wI_id2, wL_id2, if_pos, if_neg]
        refine ⟨_, _, rfl, Or.inl ⟨?_, rfl, rfl, ?_⟩⟩
        · unfold whoN; rw [if_neg (by omega), if_neg (by omega)]; exact c1
        · unfold mostN; rw [if_neg (by omega)]; exact c4
      · simp (disch := omega) only [C_X12_holds_0, D_X12_holds_0, U_X12_holds_0, hn, hvi, hz, Wd_some, Wd_bn, Wd_sqM, Wd_outV, Wd_blkM, Wd_swM, Wd_ite, Wd_map, v_kS_0, v_kS_b, v_kS_r, v_kO_r, v_kW_0, v_kW_1, v_kW_2, v_kW_r, v_kL_0, v_kL_1, v_kL_2, v_kL_r, v_kU_0, ups_11, upsN, upsA, upA_same, upA_neA, fl_at, fl_neA, v_sq_eq, v_sqM_0, v_sqM_r, v_sqM_b, v_sqM_n, sqM_ite, v_asI, v_asR, v_inc, v_pfI, v_pfZ, v_pfO, v_paI, v_paO, v_exI, v_iff, v_rtI, v_rtZ, v_rtV, v_sk, v_brk, v_cnt, v_blk_eq, v_blkM_some, blkM_ite, v_lI, v_lR, v_cI, v_gI, v_gR, v_op1, v_op2, v_arI, v_arR, v_alen, v_tern, v_cmp1, v_cmp2, v_cAnd, v_cOr, v_cNot, v_cTern, v_bn_some, bn_ite, v_bn_none, v_outV_r, v_outV_0, v_outV_n, outV_ite, List.getD_cons_zero, List.getD_cons_succ, List.set_cons_zero, List.set_cons_succ, List.take_succ_cons, List.take_zero, List.drop_succ_cons, List.drop_zero, List.nil_append, List.cons_append, Option.map_some, Option.map_none, if_true, if_false, reduceIte, reduceCtorEq, decide_eq_true_eq, Bool.not_eq_true', decide_eq_false_iff_not, decide_eq_true, decide_eq_false, decide_true, decide_false, and_self, and_true, true_and, or_self, stO, v_caV_, v_caV_i, v_caV_ii, v_caV_iii, v_caV_iiii, v_caV_iiiii, v_caV_il, v_caV_iil, v_caV_l, v_caV_ll, v_caV_r, v_caV_ri, v_caV_rii, v_caV_riii, v_caV_riiii, v_caV_ir, v_caV_iri, v_caV_iiri, v_caS_i, v_caS_ii, v_caS_iii, v_caS_iiii, v_caS_iiiiii, v_caS_il, v_caS_li, v_caS_ll, v_caS_lll, v_caS_ri, v_caS_riii, sh_239, sh_240, sh_241, sh_242, sh_243, sh_244, sh_245, sh_246, sh_247, sh_248, sh_249, sh_250, sh_251, sh_252, sh_253, rf_239_4, rf_239_5, rf_239_6, rf_239_7, rf_239_20, rf_239_21, rf_239_22, rf_239_23, rf_239_27, rf_239_28, rf_239_32, rf_239_33, rf_239_34, rf_239_35, Int.reduceLE, Int.reduceLT, Int.reduceToNat, Int.reduceAdd, Int.reduceSub, Int.reduceMul, Int.reduceNeg, Int.reduceEq, Int.reduceNe, Nat.reduceAdd, Nat.reduceMul, Nat.reduceLT, Nat.reduceEqDiff, or_true, true_or, or_false, false_or, and_false, false_and, not_true_eq_false, not_false_eq_true, ne_eq, cN4, cN5, cN6, cN7, cN13, cN30, cN60, cN64, cN100, cN136, cN240, cN384, cN900, cN2040, cN3, v_sw_eq, v_swM_0, v_swM_1, v_swM_r, v_swM_n, swM_ite, app_ite, ex_some, bI_0, bI_1, nn_iff, Int.toNat_natCast, Int.toNat_of_nonneg, Int.natCast_add, cN1, wI_id2, wL_id2, if_pos, if_neg]
        refine ⟨_, _, rfl, Or.inr (Or.inl ⟨?_, by omega, rfl, ?_, ?_⟩)⟩
        · unfold whoN; rw [if_pos (by omega)]
        · unfold mostN; rw [if_pos (by omega)]; rfl
        · unfold mostN; rw [if_pos (by omega)]; omega
    · subst c3
      have hvb := hv best.toNat (by omega)
      rcases Int.lt_trichotomy (v i) (mostN v i) with q | q | q
      · have g : HI σ v x y (i + 1) ([0, x, y, best, 0, (i : Int) + 1], [239, 0, 0, 0, 0, 0], σ) := ⟨best, 0, rfl, Or.inr (Or.inl ⟨by rw [whoN, if_neg (by omega), if_neg (by omega)]; exact c1, by omega, rfl, by rw [mostN, if_neg (by omega)]; exact c4, by rw [mostN, if_neg (by omega)]; exact c5⟩)⟩
        simp (disch := omega) only [C_X12_holds_0, D_X12_holds_0, U_X12_holds_0, hn, hvi, hvb, Wd_some, Wd_bn, Wd_sqM, Wd_outV, Wd_blkM, Wd_swM, Wd_ite, Wd_map, v_kS_0, v_kS_b, v_kS_r, v_kO_r, v_kW_0, v_kW_1, v_kW_2, v_kW_r, v_kL_0, v_kL_1, v_kL_2, v_kL_r, v_kU_0, ups_11, upsN, upsA, upA_same, upA_neA, fl_at, fl_neA, v_sq_eq, v_sqM_0, v_sqM_r, v_sqM_b, v_sqM_n, sqM_ite, v_asI, v_asR, v_inc, v_pfI, v_pfZ, v_pfO, v_paI, v_paO, v_exI, v_iff, v_rtI, v_rtZ, v_rtV, v_sk, v_brk, v_cnt, v_blk_eq, v_blkM_some, blkM_ite, v_lI, v_lR, v_cI, v_gI, v_gR, v_op1, v_op2, v_arI, v_arR, v_alen, v_tern, v_cmp1, v_cmp2, v_cAnd, v_cOr, v_cNot, v_cTern, v_bn_some, bn_ite, v_bn_none, v_outV_r, v_outV_0, v_outV_n, outV_ite, List.getD_cons_zero, List.getD_cons_succ, List.set_cons_zero, List.set_cons_succ, List.take_succ_cons, List.take_zero, List.drop_succ_cons, List.drop_zero, List.nil_append, List.cons_append, Option.map_some, Option.map_none, if_true, if_false, reduceIte, reduceCtorEq, decide_eq_true_eq, Bool.not_eq_true', decide_eq_false_iff_not, decide_eq_true, decide_eq_false, decide_true, decide_false, and_self, and_true, true_and, or_self, stO, v_caV_, v_caV_i, v_caV_ii, v_caV_iii, v_caV_iiii, v_caV_iiiii, v_caV_il, v_caV_iil, v_caV_l, v_caV_ll, v_caV_r, v_caV_ri, v_caV_rii, v_caV_riii, v_caV_riiii, v_caV_ir, v_caV_iri, v_caV_iiri, v_caS_i, v_caS_ii, v_caS_iii, v_caS_iiii, v_caS_iiiiii, v_caS_il, v_caS_li, v_caS_ll, v_caS_lll, v_caS_ri, v_caS_riii, sh_239, sh_240, sh_241, sh_242, sh_243, sh_244, sh_245, sh_246, sh_247, sh_248, sh_249, sh_250, sh_251, sh_252, sh_253, rf_239_4, rf_239_5, rf_239_6, rf_239_7, rf_239_20, rf_239_21, rf_239_22, rf_239_23, rf_239_27, rf_239_28, rf_239_32, rf_239_33, rf_239_34, rf_239_35, Int.reduceLE, Int.reduceLT, Int.reduceToNat, Int.reduceAdd, Int.reduceSub, Int.reduceMul, Int.reduceNeg, Int.reduceEq, Int.reduceNe, Nat.reduceAdd, Nat.reduceMul, Nat.reduceLT, Nat.reduceEqDiff, or_true, true_or, or_false, false_or, and_false, false_and, not_true_eq_false, not_false_eq_true, ne_eq, cN4, cN5, cN6, cN7, cN13, cN30, cN60, cN64, cN100, cN136, cN240, cN384, cN900, cN2040, cN3, v_sw_eq, v_swM_0, v_swM_1, v_swM_r, v_swM_n, swM_ite, app_ite, ex_some, bI_0, bI_1, nn_iff, Int.toNat_natCast, Int.toNat_of_nonneg, Int.natCast_add, cN1, wI_id2, wL_id2, if_pos, if_neg]
        split <;> exact g
      · have g : HI σ v x y (i + 1) ([0, x, y, best, 1, (i : Int) + 1], [239, 0, 0, 0, 0, 0], σ) := ⟨best, 1, rfl, Or.inr (Or.inr ⟨by rw [whoN, if_neg (by omega), if_pos ⟨q, by omega⟩], by omega, rfl, by rw [mostN, if_neg (by omega)]; exact c4, by rw [mostN, if_neg (by omega)]; exact c5⟩)⟩
        simp (disch := omega) only [C_X12_holds_0, D_X12_holds_0, U_X12_holds_0, hn, hvi, hvb, Wd_some, Wd_bn, Wd_sqM, Wd_outV, Wd_blkM, Wd_swM, Wd_ite, Wd_map, v_kS_0, v_kS_b, v_kS_r, v_kO_r, v_kW_0, v_kW_1, v_kW_2, v_kW_r, v_kL_0, v_kL_1, v_kL_2, v_kL_r, v_kU_0, ups_11, upsN, upsA, upA_same, upA_neA, fl_at, fl_neA, v_sq_eq, v_sqM_0, v_sqM_r, v_sqM_b, v_sqM_n, sqM_ite, v_asI, v_asR, v_inc, v_pfI, v_pfZ, v_pfO, v_paI, v_paO, v_exI, v_iff, v_rtI, v_rtZ, v_rtV, v_sk, v_brk, v_cnt, v_blk_eq, v_blkM_some, blkM_ite, v_lI, v_lR, v_cI, v_gI, v_gR, v_op1, v_op2, v_arI, v_arR, v_alen, v_tern, v_cmp1, v_cmp2, v_cAnd, v_cOr, v_cNot, v_cTern, v_bn_some, bn_ite, v_bn_none, v_outV_r, v_outV_0, v_outV_n, outV_ite, List.getD_cons_zero, List.getD_cons_succ, List.set_cons_zero, List.set_cons_succ, List.take_succ_cons, List.take_zero, List.drop_succ_cons, List.drop_zero, List.nil_append, List.cons_append, Option.map_some, Option.map_none, if_true, if_false, reduceIte, reduceCtorEq, decide_eq_true_eq, Bool.not_eq_true', decide_eq_false_iff_not, decide_eq_true, decide_eq_false, decide_true, decide_false, and_self, and_true, true_and, or_self, stO, v_caV_, v_caV_i, v_caV_ii, v_caV_iii, v_caV_iiii, v_caV_iiiii, v_caV_il, v_caV_iil, v_caV_l, v_caV_ll, v_caV_r, v_caV_ri, v_caV_rii, v_caV_riii, v_caV_riiii, v_caV_ir, v_caV_iri, v_caV_iiri, v_caS_i, v_caS_ii, v_caS_iii, v_caS_iiii, v_caS_iiiiii, v_caS_il, v_caS_li, v_caS_ll, v_caS_lll, v_caS_ri, v_caS_riii, sh_239, sh_240, sh_241, sh_242, sh_243, sh_244, sh_245, sh_246, sh_247, sh_248, sh_249, sh_250, sh_251, sh_252, sh_253, rf_239_4, rf_239_5, rf_239_6, rf_239_7, rf_239_20, rf_239_21, rf_239_22, rf_239_23, rf_239_27, rf_239_28, rf_239_32, rf_239_33, rf_239_34, rf_239_35, Int.reduceLE, Int.reduceLT, Int.reduceToNat, Int.reduceAdd, Int.reduceSub, Int.reduceMul, Int.reduceNeg, Int.reduceEq, Int.reduceNe, Nat.reduceAdd, Nat.reduceMul, Nat.reduceLT, Nat.reduceEqDiff, or_true, true_or, or_false, false_or, and_false, false_and, not_true_eq_false, not_false_eq_true, ne_eq, cN4, cN5, cN6, cN7, cN13, cN30, cN60, cN64, cN100, cN136, cN240, cN384, cN900, cN2040, cN3, v_sw_eq, v_swM_0, v_swM_1, v_swM_r, v_swM_n, swM_ite, app_ite, ex_some, bI_0, bI_1, nn_iff, Int.toNat_natCast, Int.toNat_of_nonneg, Int.natCast_add, cN1, wI_id2, wL_id2, if_pos, if_neg]
        exact g
      · have g : HI σ v x y (i + 1) ([0, x, y, (i : Int), 0, (i : Int) + 1], [239, 0, 0, 0, 0, 0], σ) := ⟨i, 0, rfl, Or.inr (Or.inl ⟨by rw [whoN, if_pos q], by omega, rfl, by rw [mostN, if_pos q]; rfl, by rw [mostN, if_pos q]; omega⟩)⟩
        simp (disch := omega) only [C_X12_holds_0, D_X12_holds_0, U_X12_holds_0, hn, hvi, hvb, Wd_some, Wd_bn, Wd_sqM, Wd_outV, Wd_blkM, Wd_swM, Wd_ite, Wd_map, v_kS_0, v_kS_b, v_kS_r, v_kO_r, v_kW_0, v_kW_1, v_kW_2, v_kW_r, v_kL_0, v_kL_1, v_kL_2, v_kL_r, v_kU_0, ups_11, upsN, upsA, upA_same, upA_neA, fl_at, fl_neA, v_sq_eq, v_sqM_0, v_sqM_r, v_sqM_b, v_sqM_n, sqM_ite, v_asI, v_asR, v_inc, v_pfI, v_pfZ, v_pfO, v_paI, v_paO, v_exI, v_iff, v_rtI, v_rtZ, v_rtV, v_sk, v_brk, v_cnt, v_blk_eq, v_blkM_some, blkM_ite, v_lI, v_lR, v_cI, v_gI, v_gR, v_op1, v_op2, v_arI, v_arR, v_alen, v_tern, v_cmp1, v_cmp2, v_cAnd, v_cOr, v_cNot, v_cTern, v_bn_some, bn_ite, v_bn_none, v_outV_r, v_outV_0, v_outV_n, outV_ite, List.getD_cons_zero, List.getD_cons_succ, List.set_cons_zero, List.set_cons_succ, List.take_succ_cons, List.take_zero, List.drop_succ_cons, List.drop_zero, List.nil_append, List.cons_append, Option.map_some, Option.map_none, if_true, if_false, reduceIte, reduceCtorEq, decide_eq_true_eq, Bool.not_eq_true', decide_eq_false_iff_not, decide_eq_true, decide_eq_false, decide_true, decide_false, and_self, and_true, true_and, or_self, stO, v_caV_, v_caV_i, v_caV_ii, v_caV_iii, v_caV_iiii, v_caV_iiiii, v_caV_il, v_caV_iil, v_caV_l, v_caV_ll, v_caV_r, v_caV_ri, v_caV_rii, v_caV_riii, v_caV_riiii, v_caV_ir, v_caV_iri, v_caV_iiri, v_caS_i, v_caS_ii, v_caS_iii, v_caS_iiii, v_caS_iiiiii, v_caS_il, v_caS_li, v_caS_ll, v_caS_lll, v_caS_ri, v_caS_riii, sh_239, sh_240, sh_241, sh_242, sh_243, sh_244, sh_245, sh_246, sh_247, sh_248, sh_249, sh_250, sh_251, sh_252, sh_253, rf_239_4, rf_239_5, rf_239_6, rf_239_7, rf_239_20, rf_239_21, rf_239_22, rf_239_23, rf_239_27, rf_239_28, rf_239_32, rf_239_33, rf_239_34, rf_239_35, Int.reduceLE, Int.reduceLT, Int.reduceToNat, Int.reduceAdd, Int.reduceSub, Int.reduceMul, Int.reduceNeg, Int.reduceEq, Int.reduceNe, Nat.reduceAdd, Nat.reduceMul, Nat.reduceLT, Nat.reduceEqDiff, or_true, true_or, or_false, false_or, and_false, false_and, not_true_eq_false, not_false_eq_true, ne_eq, cN4, cN5, cN6, cN7, cN13, cN30, cN60, cN64, cN100, cN136, cN240, cN384, cN900, cN2040, cN3, v_sw_eq, v_swM_0, v_swM_1, v_swM_r, v_swM_n, swM_ite, app_ite, ex_some, bI_0, bI_1, nn_iff, Int.toNat_natCast, Int.toNat_of_nonneg, Int.natCast_add, cN1, wI_id2, wL_id2, if_pos, if_neg]
        exact g
    · subst c3
      have hvb := hv best.toNat (by omega)
      rcases Int.lt_trichotomy (v i) (mostN v i) with q | q | q
      · have g : HI σ v x y (i + 1) ([0, x, y, best, 1, (i : Int) + 1], [239, 0, 0, 0, 0, 0], σ) := ⟨best, 1, rfl, Or.inr (Or.inr ⟨by rw [whoN, if_neg (by omega), if_neg (by omega)]; exact c1, by omega, rfl, by rw [mostN, if_neg (by omega)]; exact c4, by rw [mostN, if_neg (by omega)]; exact c5⟩)⟩
        simp (disch := omega) only [C_X12_holds_0, D_X12_holds_0, U_X12_holds_0, hn, hvi, hvb, Wd_some, Wd_bn, Wd_sqM, Wd_outV, Wd_blkM, Wd_swM, Wd_ite, Wd_map, v_kS_0, v_kS_b, v_kS_r, v_kO_r, v_kW_0, v_kW_1, v_kW_2, v_kW_r, v_kL_0, v_kL_1, v_kL_2, v_kL_r, v_kU_0, ups_11, upsN, upsA, upA_same, upA_neA, fl_at, fl_neA, v_sq_eq, v_sqM_0, v_sqM_r, v_sqM_b, v_sqM_n, sqM_ite, v_asI, v_asR, v_inc, v_pfI, v_pfZ, v_pfO, v_paI, v_paO, v_exI, v_iff, v_rtI, v_rtZ, v_rtV, v_sk, v_brk, v_cnt, v_blk_eq, v_blkM_some, blkM_ite, v_lI, v_lR, v_cI, v_gI, v_gR, v_op1, v_op2, v_arI, v_arR, v_alen, v_tern, v_cmp1, v_cmp2, v_cAnd, v_cOr, v_cNot, v_cTern, v_bn_some, bn_ite, v_bn_none, v_outV_r, v_outV_0, v_outV_n, outV_ite, List.getD_cons_zero, List.getD_cons_succ, List.set_cons_zero, List.set_cons_succ, List.take_succ_cons, List.take_zero, List.drop_succ_cons, List.drop_zero, List.nil_append, List.cons_append, Option.map_some, Option.map_none, if_true, if_false, reduceIte, reduceCtorEq, decide_eq_true_eq, Bool.not_eq_true', decide_eq_false_iff_not, decide_eq_true, decide_eq_false, decide_true, decide_false, and_self, and_true, true_and, or_self, stO, v_caV_, v_caV_i, v_caV_ii, v_caV_iii, v_caV_iiii, v_caV_iiiii, v_caV_il, v_caV_iil, v_caV_l, v_caV_ll, v_caV_r, v_caV_ri, v_caV_rii, v_caV_riii, v_caV_riiii, v_caV_ir, v_caV_iri, v_caV_iiri, v_caS_i, v_caS_ii, v_caS_iii, v_caS_iiii, v_caS_iiiiii, v_caS_il, v_caS_li, v_caS_ll, v_caS_lll, v_caS_ri, v_caS_riii, sh_239, sh_240, sh_241, sh_242, sh_243, sh_244, sh_245, sh_246, sh_247, sh_248, sh_249, sh_250, sh_251, sh_252, sh_253, rf_239_4, rf_239_5, rf_239_6, rf_239_7, rf_239_20, rf_239_21, rf_239_22, rf_239_23, rf_239_27, rf_239_28, rf_239_32, rf_239_33, rf_239_34, rf_239_35, Int.reduceLE, Int.reduceLT, Int.reduceToNat, Int.reduceAdd, Int.reduceSub, Int.reduceMul, Int.reduceNeg, Int.reduceEq, Int.reduceNe, Nat.reduceAdd, Nat.reduceMul, Nat.reduceLT, Nat.reduceEqDiff, or_true, true_or, or_false, false_or, and_false, false_and, not_true_eq_false, not_false_eq_true, ne_eq, cN4, cN5, cN6, cN7, cN13, cN30, cN60, cN64, cN100, cN136, cN240, cN384, cN900, cN2040, cN3, v_sw_eq, v_swM_0, v_swM_1, v_swM_r, v_swM_n, swM_ite, app_ite, ex_some, bI_0, bI_1, nn_iff, Int.toNat_natCast, Int.toNat_of_nonneg, Int.natCast_add, cN1, wI_id2, wL_id2, if_pos, if_neg]
        split <;> exact g
      · have g : HI σ v x y (i + 1) ([0, x, y, best, 1, (i : Int) + 1], [239, 0, 0, 0, 0, 0], σ) := ⟨best, 1, rfl, Or.inr (Or.inr ⟨by rw [whoN, if_neg (by omega), if_pos ⟨q, by omega⟩], by omega, rfl, by rw [mostN, if_neg (by omega)]; exact c4, by rw [mostN, if_neg (by omega)]; exact c5⟩)⟩
        simp (disch := omega) only [C_X12_holds_0, D_X12_holds_0, U_X12_holds_0, hn, hvi, hvb, Wd_some, Wd_bn, Wd_sqM, Wd_outV, Wd_blkM, Wd_swM, Wd_ite, Wd_map, v_kS_0, v_kS_b, v_kS_r, v_kO_r, v_kW_0, v_kW_1, v_kW_2, v_kW_r, v_kL_0, v_kL_1, v_kL_2, v_kL_r, v_kU_0, ups_11, upsN, upsA, upA_same, upA_neA, fl_at, fl_neA, v_sq_eq, v_sqM_0, v_sqM_r, v_sqM_b, v_sqM_n, sqM_ite, v_asI, v_asR, v_inc, v_pfI, v_pfZ, v_pfO, v_paI, v_paO, v_exI, v_iff, v_rtI, v_rtZ, v_rtV, v_sk, v_brk, v_cnt, v_blk_eq, v_blkM_some, blkM_ite, v_lI, v_lR, v_cI, v_gI, v_gR, v_op1, v_op2, v_arI, v_arR, v_alen, v_tern, v_cmp1, v_cmp2, v_cAnd, v_cOr, v_cNot, v_cTern, v_bn_some, bn_ite, v_bn_none, v_outV_r, v_outV_0, v_outV_n, outV_ite, List.getD_cons_zero, List.getD_cons_succ, List.set_cons_zero, List.set_cons_succ, List.take_succ_cons, List.take_zero, List.drop_succ_cons, List.drop_zero, List.nil_append, List.cons_append, Option.map_some, Option.map_none, if_true, if_false, reduceIte, reduceCtorEq, decide_eq_true_eq, Bool.not_eq_true', decide_eq_false_iff_not, decide_eq_true, decide_eq_false, decide_true, decide_false, and_self, and_true, true_and, or_self, stO, v_caV_, v_caV_i, v_caV_ii, v_caV_iii, v_caV_iiii, v_caV_iiiii, v_caV_il, v_caV_iil, v_caV_l, v_caV_ll, v_caV_r, v_caV_ri, v_caV_rii, v_caV_riii, v_caV_riiii, v_caV_ir, v_caV_iri, v_caV_iiri, v_caS_i, v_caS_ii, v_caS_iii, v_caS_iiii, v_caS_iiiiii, v_caS_il, v_caS_li, v_caS_ll, v_caS_lll, v_caS_ri, v_caS_riii, sh_239, sh_240, sh_241, sh_242, sh_243, sh_244, sh_245, sh_246, sh_247, sh_248, sh_249, sh_250, sh_251, sh_252, sh_253, rf_239_4, rf_239_5, rf_239_6, rf_239_7, rf_239_20, rf_239_21, rf_239_22, rf_239_23, rf_239_27, rf_239_28, rf_239_32, rf_239_33, rf_239_34, rf_239_35, Int.reduceLE, Int.reduceLT, Int.reduceToNat, Int.reduceAdd, Int.reduceSub, Int.reduceMul, Int.reduceNeg, Int.reduceEq, Int.reduceNe, Nat.reduceAdd, Nat.reduceMul, Nat.reduceLT, Nat.reduceEqDiff, or_true, true_or, or_false, false_or, and_false, false_and, not_true_eq_false, not_false_eq_true, ne_eq, cN4, cN5, cN6, cN7, cN13, cN30, cN60, cN64, cN100, cN136, cN240, cN384, cN900, cN2040, cN3, v_sw_eq, v_swM_0, v_swM_1, v_swM_r, v_swM_n, swM_ite, app_ite, ex_some, bI_0, bI_1, nn_iff, Int.toNat_natCast, Int.toNat_of_nonneg, Int.natCast_add, cN1, wI_id2, wL_id2, if_pos, if_neg]
        exact g
      · have g : HI σ v x y (i + 1) ([0, x, y, (i : Int), 0, (i : Int) + 1], [239, 0, 0, 0, 0, 0], σ) := ⟨i, 0, rfl, Or.inr (Or.inl ⟨by rw [whoN, if_pos q], by omega, rfl, by rw [mostN, if_pos q]; rfl, by rw [mostN, if_pos q]; omega⟩)⟩
        simp (disch := omega) only [C_X12_holds_0, D_X12_holds_0, U_X12_holds_0, hn, hvi, hvb, Wd_some, Wd_bn, Wd_sqM, Wd_outV, Wd_blkM, Wd_swM, Wd_ite, Wd_map, v_kS_0, v_kS_b, v_kS_r, v_kO_r, v_kW_0, v_kW_1, v_kW_2, v_kW_r, v_kL_0, v_kL_1, v_kL_2, v_kL_r, v_kU_0, ups_11, upsN, upsA, upA_same, upA_neA, fl_at, fl_neA, v_sq_eq, v_sqM_0, v_sqM_r, v_sqM_b, v_sqM_n, sqM_ite, v_asI, v_asR, v_inc, v_pfI, v_pfZ, v_pfO, v_paI, v_paO, v_exI, v_iff, v_rtI, v_rtZ, v_rtV, v_sk, v_brk, v_cnt, v_blk_eq, v_blkM_some, blkM_ite, v_lI, v_lR, v_cI, v_gI, v_gR, v_op1, v_op2, v_arI, v_arR, v_alen, v_tern, v_cmp1, v_cmp2, v_cAnd, v_cOr, v_cNot, v_cTern, v_bn_some, bn_ite, v_bn_none, v_outV_r, v_outV_0, v_outV_n, outV_ite, List.getD_cons_zero, List.getD_cons_succ, List.set_cons_zero, List.set_cons_succ, List.take_succ_cons, List.take_zero, List.drop_succ_cons, List.drop_zero, List.nil_append, List.cons_append, Option.map_some, Option.map_none, if_true, if_false, reduceIte, reduceCtorEq, decide_eq_true_eq, Bool.not_eq_true', decide_eq_false_iff_not, decide_eq_true, decide_eq_false, decide_true, decide_false, and_self, and_true, true_and, or_self, stO, v_caV_, v_caV_i, v_caV_ii, v_caV_iii, v_caV_iiii, v_caV_iiiii, v_caV_il, v_caV_iil, v_caV_l, v_caV_ll, v_caV_r, v_caV_ri, v_caV_rii, v_caV_riii, v_caV_riiii, v_caV_ir, v_caV_iri, v_caV_iiri, v_caS_i, v_caS_ii, v_caS_iii, v_caS_iiii, v_caS_iiiiii, v_caS_il, v_caS_li, v_caS_ll, v_caS_lll, v_caS_ri, v_caS_riii, sh_239, sh_240, sh_241, sh_242, sh_243, sh_244, sh_245, sh_246, sh_247, sh_248, sh_249, sh_250, sh_251, sh_252, sh_253, rf_239_4, rf_239_5, rf_239_6, rf_239_7, rf_239_20, rf_239_21, rf_239_22, rf_239_23, rf_239_27, rf_239_28, rf_239_32, rf_239_33, rf_239_34, rf_239_35, Int.reduceLE, Int.reduceLT, Int.reduceToNat, Int.reduceAdd, Int.reduceSub, Int.reduceMul, Int.reduceNeg, Int.reduceEq, Int.reduceNe, Nat.reduceAdd, Nat.reduceMul, Nat.reduceLT, Nat.reduceEqDiff, or_true, true_or, or_false, false_or, and_false, false_and, not_true_eq_false, not_false_eq_true, ne_eq, cN4, cN5, cN6, cN7, cN13, cN30, cN60, cN64, cN100, cN136, cN240, cN384, cN900, cN2040, cN3, v_sw_eq, v_swM_0, v_swM_1, v_swM_r, v_swM_n, swM_ite, app_ite, ex_some, bI_0, bI_1, nn_iff, Int.toNat_natCast, Int.toNat_of_nonneg, Int.natCast_add, cN1, wI_id2, wL_id2, if_pos, if_neg]
        exact g
  · intro z hz
    obtain ⟨best, alike, hz, hc⟩ := hz
    subst hz
    simp (disch := omega) only [C_X12_holds_0, D_X12_holds_0, U_X12_holds_0, hn, Wd_some, Wd_bn, Wd_sqM, Wd_outV, Wd_blkM, Wd_swM, Wd_ite, Wd_map, v_kS_0, v_kS_b, v_kS_r, v_kO_r, v_kW_0, v_kW_1, v_kW_2, v_kW_r, v_kL_0, v_kL_1, v_kL_2, v_kL_r, v_kU_0, ups_11, upsN, upsA, upA_same, upA_neA, fl_at, fl_neA, v_sq_eq, v_sqM_0, v_sqM_r, v_sqM_b, v_sqM_n, sqM_ite, v_asI, v_asR, v_inc, v_pfI, v_pfZ, v_pfO, v_paI, v_paO, v_exI, v_iff, v_rtI, v_rtZ, v_rtV, v_sk, v_brk, v_cnt, v_blk_eq, v_blkM_some, blkM_ite, v_lI, v_lR, v_cI, v_gI, v_gR, v_op1, v_op2, v_arI, v_arR, v_alen, v_tern, v_cmp1, v_cmp2, v_cAnd, v_cOr, v_cNot, v_cTern, v_bn_some, bn_ite, v_bn_none, v_outV_r, v_outV_0, v_outV_n, outV_ite, List.getD_cons_zero, List.getD_cons_succ, List.set_cons_zero, List.set_cons_succ, List.take_succ_cons, List.take_zero, List.drop_succ_cons, List.drop_zero, List.nil_append, List.cons_append, Option.map_some, Option.map_none, if_true, if_false, reduceIte, reduceCtorEq, decide_eq_true_eq, Bool.not_eq_true', decide_eq_false_iff_not, decide_eq_true, decide_eq_false, decide_true, decide_false, and_self, and_true, true_and, or_self, stO, v_caV_, v_caV_i, v_caV_ii, v_caV_iii, v_caV_iiii, v_caV_iiiii, v_caV_il, v_caV_iil, v_caV_l, v_caV_ll, v_caV_r, v_caV_ri, v_caV_rii, v_caV_riii, v_caV_riiii, v_caV_ir, v_caV_iri, v_caV_iiri, v_caS_i, v_caS_ii, v_caS_iii, v_caS_iiii, v_caS_iiiiii, v_caS_il, v_caS_li, v_caS_ll, v_caS_lll, v_caS_ri, v_caS_riii, sh_239, sh_240, sh_241, sh_242, sh_243, sh_244, sh_245, sh_246, sh_247, sh_248, sh_249, sh_250, sh_251, sh_252, sh_253, rf_239_4, rf_239_5, rf_239_6, rf_239_7, rf_239_20, rf_239_21, rf_239_22, rf_239_23, rf_239_27, rf_239_28, rf_239_32, rf_239_33, rf_239_34, rf_239_35, Int.reduceLE, Int.reduceLT, Int.reduceToNat, Int.reduceAdd, Int.reduceSub, Int.reduceMul, Int.reduceNeg, Int.reduceEq, Int.reduceNe, Nat.reduceAdd, Nat.reduceMul, Nat.reduceLT, Nat.reduceEqDiff, or_true, true_or, or_false, false_or, and_false, false_and, not_true_eq_false, not_false_eq_true, ne_eq, cN4, cN5, cN6, cN7, cN13, cN30, cN60, cN64, cN100, cN136, cN240, cN384, cN900, cN2040, cN3, v_sw_eq, v_swM_0, v_swM_1, v_swM_r, v_swM_n, swM_ite, app_ite, ex_some, bI_0, bI_1, nn_iff, Int.toNat_natCast, Int.toNat_of_nonneg, Int.natCast_add, cN1, wI_id2, wL_id2, if_pos, if_neg]
    exact ⟨_, _, rfl, hc⟩
theorem m_holds {σ : SS} (h : WH (σ 244)) (ht : WT (σ 244)) (hd : WD (σ 244)) (hp : plO (σ 244) (σ 248)) {x y : Int} (hx : 0 ≤ x ∧ x ≤ 6) (hy : 0 ≤ y ∧ y ≤ 6) : F_X12_holds 239 x y σ = some (holdB (σ 244) (σ 248) x y, fl σ 249 (bn3 (σ 244)) (noiB (σ 244) (σ 248) x y)) := by
  refine Wd_out ?_
  have e4 : fl σ 249 (bn3 (σ 244)) (noiB (σ 244) (σ 248) x y) 244 = σ 244 := fl_neA (by omega)
  have hn := bn3_c h
  have q := @ml_holds (fl σ 249 (bn3 (σ 244)) (noiB (σ 244) (σ 248) x y)) (bn3 (σ 244)) (by rw [e4]; omega) (by omega) x y (noiB (σ 244) (σ 248) x y) (fun k hk => by rw [fl_at, if_pos hk]) (fun k hk => (hearB_bd h ht hd (by omega) (by omega) (hp k (by omega)) hx hy).1)
  simp (disch := omega) only [F_X12_holds, E_X12_holds, m_laysNoise h ht hd hp hx hy, Wd_some, Wd_bn, Wd_sqM, Wd_outV, Wd_blkM, Wd_swM, Wd_ite, Wd_map, v_kS_0, v_kS_b, v_kS_r, v_kO_r, v_kW_0, v_kW_1, v_kW_2, v_kW_r, v_kL_0, v_kL_1, v_kL_2, v_kL_r, v_kU_0, ups_11, upsN, upsA, upA_same, upA_neA, fl_at, fl_neA, v_sq_eq, v_sqM_0, v_sqM_r, v_sqM_b, v_sqM_n, sqM_ite, v_asI, v_asR, v_inc, v_pfI, v_pfZ, v_pfO, v_paI, v_paO, v_exI, v_iff, v_rtI, v_rtZ, v_rtV, v_sk, v_brk, v_cnt, v_blk_eq, v_blkM_some, blkM_ite, v_lI, v_lR, v_cI, v_gI, v_gR, v_op1, v_op2, v_arI, v_arR, v_alen, v_tern, v_cmp1, v_cmp2, v_cAnd, v_cOr, v_cNot, v_cTern, v_bn_some, bn_ite, v_bn_none, v_outV_r, v_outV_0, v_outV_n, outV_ite, List.getD_cons_zero, List.getD_cons_succ, List.set_cons_zero, List.set_cons_succ, List.take_succ_cons, List.take_zero, List.drop_succ_cons, List.drop_zero, List.nil_append, List.cons_append, Option.map_some, Option.map_none, if_true, if_false, reduceIte, reduceCtorEq, decide_eq_true_eq, Bool.not_eq_true', decide_eq_false_iff_not, decide_eq_true, decide_eq_false, decide_true, decide_false, and_self, and_true, true_and, or_self, stO, v_caV_, v_caV_i, v_caV_ii, v_caV_iii, v_caV_iiii, v_caV_iiiii, v_caV_il, v_caV_iil, v_caV_l, v_caV_ll, v_caV_r, v_caV_ri, v_caV_rii, v_caV_riii, v_caV_riiii, v_caV_ir, v_caV_iri, v_caV_iiri, v_caS_i, v_caS_ii, v_caS_iii, v_caS_iiii, v_caS_iiiiii, v_caS_il, v_caS_li, v_caS_ll, v_caS_lll, v_caS_ri, v_caS_riii, sh_239, sh_240, sh_241, sh_242, sh_243, sh_244, sh_245, sh_246, sh_247, sh_248, sh_249, sh_250, sh_251, sh_252, sh_253, rf_239_4, rf_239_5, rf_239_6, rf_239_7, rf_239_20, rf_239_21, rf_239_22, rf_239_23, rf_239_27, rf_239_28, rf_239_32, rf_239_33, rf_239_34, rf_239_35, Int.reduceLE, Int.reduceLT, Int.reduceToNat, Int.reduceAdd, Int.reduceSub, Int.reduceMul, Int.reduceNeg, Int.reduceEq, Int.reduceNe, Nat.reduceAdd, Nat.reduceMul, Nat.reduceLT, Nat.reduceEqDiff, or_true, true_or, or_false, false_or, and_false, false_and, not_true_eq_false, not_false_eq_true, ne_eq, cN4, cN5, cN6, cN7, cN13, cN30, cN60, cN64, cN100, cN136, cN240, cN384, cN900, cN2040, cN3, v_sw_eq, v_swM_0, v_swM_1, v_swM_r, v_swM_n, swM_ite, app_ite, ex_some, bI_0, bI_1, nn_iff, Int.toNat_natCast, Int.toNat_of_nonneg, Int.natCast_add, cN1, wI_id2, wL_id2, if_pos, if_neg]
  refine Wd_mono q (fun o z hz => ?_)
  obtain ⟨ho, best, alike, hz, hc⟩ := hz
  subst ho; subst hz
  unfold holdB
  rcases hc with ⟨c1, c2, c3, c4⟩ | ⟨c1, c2, c3, c4, c5⟩ | ⟨c1, c2, c3, c4, c5⟩
  · simp (disch := omega) only [c1, c2, c3, Wd_some, Wd_bn, Wd_sqM, Wd_outV, Wd_blkM, Wd_swM, Wd_ite, Wd_map, v_kS_0, v_kS_b, v_kS_r, v_kO_r, v_kW_0, v_kW_1, v_kW_2, v_kW_r, v_kL_0, v_kL_1, v_kL_2, v_kL_r, v_kU_0, ups_11, upsN, upsA, upA_same, upA_neA, fl_at, fl_neA, v_sq_eq, v_sqM_0, v_sqM_r, v_sqM_b, v_sqM_n, sqM_ite, v_asI, v_asR, v_inc, v_pfI, v_pfZ, v_pfO, v_paI, v_paO, v_exI, v_iff, v_rtI, v_rtZ, v_rtV, v_sk, v_brk, v_cnt, v_blk_eq, v_blkM_some, blkM_ite, v_lI, v_lR, v_cI, v_gI, v_gR, v_op1, v_op2, v_arI, v_arR, v_alen, v_tern, v_cmp1, v_cmp2, v_cAnd, v_cOr, v_cNot, v_cTern, v_bn_some, bn_ite, v_bn_none, v_outV_r, v_outV_0, v_outV_n, outV_ite, List.getD_cons_zero, List.getD_cons_succ, List.set_cons_zero, List.set_cons_succ, List.take_succ_cons, List.take_zero, List.drop_succ_cons, List.drop_zero, List.nil_append, List.cons_append, Option.map_some, Option.map_none, if_true, if_false, reduceIte, reduceCtorEq, decide_eq_true_eq, Bool.not_eq_true', decide_eq_false_iff_not, decide_eq_true, decide_eq_false, decide_true, decide_false, and_self, and_true, true_and, or_self, stO, v_caV_, v_caV_i, v_caV_ii, v_caV_iii, v_caV_iiii, v_caV_iiiii, v_caV_il, v_caV_iil, v_caV_l, v_caV_ll, v_caV_r, v_caV_ri, v_caV_rii, v_caV_riii, v_caV_riiii, v_caV_ir, v_caV_iri, v_caV_iiri, v_caS_i, v_caS_ii, v_caS_iii, v_caS_iiii, v_caS_iiiiii, v_caS_il, v_caS_li, v_caS_ll, v_caS_lll, v_caS_ri, v_caS_riii, sh_239, sh_240, sh_241, sh_242, sh_243, sh_244, sh_245, sh_246, sh_247, sh_248, sh_249, sh_250, sh_251, sh_252, sh_253, rf_239_4, rf_239_5, rf_239_6, rf_239_7, rf_239_20, rf_239_21, rf_239_22, rf_239_23, rf_239_27, rf_239_28, rf_239_32, rf_239_33, rf_239_34, rf_239_35, Int.reduceLE, Int.reduceLT, Int.reduceToNat, Int.reduceAdd, Int.reduceSub, Int.reduceMul, Int.reduceNeg, Int.reduceEq, Int.reduceNe, Nat.reduceAdd, Nat.reduceMul, Nat.reduceLT, Nat.reduceEqDiff, or_true, true_or, or_false, false_or, and_false, false_and, not_true_eq_false, not_false_eq_true, ne_eq, cN4, cN5, cN6, cN7, cN13, cN30, cN60, cN64, cN100, cN136, cN240, cN384, cN900, cN2040, cN3, v_sw_eq, v_swM_0, v_swM_1, v_swM_r, v_swM_n, swM_ite, app_ite, ex_some, bI_0, bI_1, nn_iff, Int.toNat_natCast, Int.toNat_of_nonneg, Int.natCast_add, cN1, wI_id2, wL_id2, if_pos, if_neg]
  · simp (disch := omega) only [c1, c3, Wd_some, Wd_bn, Wd_sqM, Wd_outV, Wd_blkM, Wd_swM, Wd_ite, Wd_map, v_kS_0, v_kS_b, v_kS_r, v_kO_r, v_kW_0, v_kW_1, v_kW_2, v_kW_r, v_kL_0, v_kL_1, v_kL_2, v_kL_r, v_kU_0, ups_11, upsN, upsA, upA_same, upA_neA, fl_at, fl_neA, v_sq_eq, v_sqM_0, v_sqM_r, v_sqM_b, v_sqM_n, sqM_ite, v_asI, v_asR, v_inc, v_pfI, v_pfZ, v_pfO, v_paI, v_paO, v_exI, v_iff, v_rtI, v_rtZ, v_rtV, v_sk, v_brk, v_cnt, v_blk_eq, v_blkM_some, blkM_ite, v_lI, v_lR, v_cI, v_gI, v_gR, v_op1, v_op2, v_arI, v_arR, v_alen, v_tern, v_cmp1, v_cmp2, v_cAnd, v_cOr, v_cNot, v_cTern, v_bn_some, bn_ite, v_bn_none, v_outV_r, v_outV_0, v_outV_n, outV_ite, List.getD_cons_zero, List.getD_cons_succ, List.set_cons_zero, List.set_cons_succ, List.take_succ_cons, List.take_zero, List.drop_succ_cons, List.drop_zero, List.nil_append, List.cons_append, Option.map_some, Option.map_none, if_true, if_false, reduceIte, reduceCtorEq, decide_eq_true_eq, Bool.not_eq_true', decide_eq_false_iff_not, decide_eq_true, decide_eq_false, decide_true, decide_false, and_self, and_true, true_and, or_self, stO, v_caV_, v_caV_i, v_caV_ii, v_caV_iii, v_caV_iiii, v_caV_iiiii, v_caV_il, v_caV_iil, v_caV_l, v_caV_ll, v_caV_r, v_caV_ri, v_caV_rii, v_caV_riii, v_caV_riiii, v_caV_ir, v_caV_iri, v_caV_iiri, v_caS_i, v_caS_ii, v_caS_iii, v_caS_iiii, v_caS_iiiiii, v_caS_il, v_caS_li, v_caS_ll, v_caS_lll, v_caS_ri, v_caS_riii, sh_239, sh_240, sh_241, sh_242, sh_243, sh_244, sh_245, sh_246, sh_247, sh_248, sh_249, sh_250, sh_251, sh_252, sh_253, rf_239_4, rf_239_5, rf_239_6, rf_239_7, rf_239_20, rf_239_21, rf_239_22, rf_239_23, rf_239_27, rf_239_28, rf_239_32, rf_239_33, rf_239_34, rf_239_35, Int.reduceLE, Int.reduceLT, Int.reduceToNat, Int.reduceAdd, Int.reduceSub, Int.reduceMul, Int.reduceNeg, Int.reduceEq, Int.reduceNe, Nat.reduceAdd, Nat.reduceMul, Nat.reduceLT, Nat.reduceEqDiff, or_true, true_or, or_false, false_or, and_false, false_and, not_true_eq_false, not_false_eq_true, ne_eq, cN4, cN5, cN6, cN7, cN13, cN30, cN60, cN64, cN100, cN136, cN240, cN384, cN900, cN2040, cN3, v_sw_eq, v_swM_0, v_swM_1, v_swM_r, v_swM_n, swM_ite, app_ite, ex_some, bI_0, bI_1, nn_iff, Int.toNat_natCast, Int.toNat_of_nonneg, Int.natCast_add, cN1, wI_id2, wL_id2, if_pos, if_neg]
  · simp (disch := omega) only [c1, c3, Wd_some, Wd_bn, Wd_sqM, Wd_outV, Wd_blkM, Wd_swM, Wd_ite, Wd_map, v_kS_0, v_kS_b, v_kS_r, v_kO_r, v_kW_0, v_kW_1, v_kW_2, v_kW_r, v_kL_0, v_kL_1, v_kL_2, v_kL_r, v_kU_0, ups_11, upsN, upsA, upA_same, upA_neA, fl_at, fl_neA, v_sq_eq, v_sqM_0, v_sqM_r, v_sqM_b, v_sqM_n, sqM_ite, v_asI, v_asR, v_inc, v_pfI, v_pfZ, v_pfO, v_paI, v_paO, v_exI, v_iff, v_rtI, v_rtZ, v_rtV, v_sk, v_brk, v_cnt, v_blk_eq, v_blkM_some, blkM_ite, v_lI, v_lR, v_cI, v_gI, v_gR, v_op1, v_op2, v_arI, v_arR, v_alen, v_tern, v_cmp1, v_cmp2, v_cAnd, v_cOr, v_cNot, v_cTern, v_bn_some, bn_ite, v_bn_none, v_outV_r, v_outV_0, v_outV_n, outV_ite, List.getD_cons_zero, List.getD_cons_succ, List.set_cons_zero, List.set_cons_succ, List.take_succ_cons, List.take_zero, List.drop_succ_cons, List.drop_zero, List.nil_append, List.cons_append, Option.map_some, Option.map_none, if_true, if_false, reduceIte, reduceCtorEq, decide_eq_true_eq, Bool.not_eq_true', decide_eq_false_iff_not, decide_eq_true, decide_eq_false, decide_true, decide_false, and_self, and_true, true_and, or_self, stO, v_caV_, v_caV_i, v_caV_ii, v_caV_iii, v_caV_iiii, v_caV_iiiii, v_caV_il, v_caV_iil, v_caV_l, v_caV_ll, v_caV_r, v_caV_ri, v_caV_rii, v_caV_riii, v_caV_riiii, v_caV_ir, v_caV_iri, v_caV_iiri, v_caS_i, v_caS_ii, v_caS_iii, v_caS_iiii, v_caS_iiiiii, v_caS_il, v_caS_li, v_caS_ll, v_caS_lll, v_caS_ri, v_caS_riii, sh_239, sh_240, sh_241, sh_242, sh_243, sh_244, sh_245, sh_246, sh_247, sh_248, sh_249, sh_250, sh_251, sh_252, sh_253, rf_239_4, rf_239_5, rf_239_6, rf_239_7, rf_239_20, rf_239_21, rf_239_22, rf_239_23, rf_239_27, rf_239_28, rf_239_32, rf_239_33, rf_239_34, rf_239_35, Int.reduceLE, Int.reduceLT, Int.reduceToNat, Int.reduceAdd, Int.reduceSub, Int.reduceMul, Int.reduceNeg, Int.reduceEq, Int.reduceNe, Nat.reduceAdd, Nat.reduceMul, Nat.reduceLT, Nat.reduceEqDiff, or_true, true_or, or_false, false_or, and_false, false_and, not_true_eq_false, not_false_eq_true, ne_eq, cN4, cN5, cN6, cN7, cN13, cN30, cN60, cN64, cN100, cN136, cN240, cN384, cN900, cN2040, cN3, v_sw_eq, v_swM_0, v_swM_1, v_swM_r, v_swM_n, swM_ite, app_ite, ex_some, bI_0, bI_1, nn_iff, Int.toNat_natCast, Int.toNat_of_nonneg, Int.natCast_add, cN1, wI_id2, wL_id2, if_pos, if_neg]
theorem ml_loudestAt {σ : SS} {n : Nat} (hn : σ 244 3 = n) (h6 : n ≤ 6) (x y : Int) {v : Nat → Int} (hv : ∀ k : Nat, k < n → σ 249 k = v k) : L_X12_loudestAt_0 ([0, x, y, 0, 0], [239, 0, 0, 0, 0], σ) = some (.inl 0, ([0, x, y, mostN v n, n], [239, 0, 0, 0, 0], σ)) := by
  refine Wd_out ?_
  unfold L_X12_loudestAt_0
  refine Wd_it (fun i z => z = ([0, x, y, mostN v i, (i : Int)], [239, 0, 0, 0, 0], σ)) n rfl ?_ ?_
  · intro i z hi hz
    subst hz
    have hvi := hv i hi
    simp (disch := omega) only [C_X12_loudestAt_0, D_X12_loudestAt_0, U_X12_loudestAt_0, hn, hvi, Wd_some, Wd_bn, Wd_sqM, Wd_outV, Wd_blkM, Wd_swM, Wd_ite, Wd_map, v_kS_0, v_kS_b, v_kS_r, v_kO_r, v_kW_0, v_kW_1, v_kW_2, v_kW_r, v_kL_0, v_kL_1, v_kL_2, v_kL_r, v_kU_0, ups_11, upsN, upsA, upA_same, upA_neA, fl_at, fl_neA, v_sq_eq, v_sqM_0, v_sqM_r, v_sqM_b, v_sqM_n, sqM_ite, v_asI, v_asR, v_inc, v_pfI, v_pfZ, v_pfO, v_paI, v_paO, v_exI, v_iff, v_rtI, v_rtZ, v_rtV, v_sk, v_brk, v_cnt, v_blk_eq, v_blkM_some, blkM_ite, v_lI, v_lR, v_cI, v_gI, v_gR, v_op1, v_op2, v_arI, v_arR, v_alen, v_tern, v_cmp1, v_cmp2, v_cAnd, v_cOr, v_cNot, v_cTern, v_bn_some, bn_ite, v_bn_none, v_outV_r, v_outV_0, v_outV_n, outV_ite, List.getD_cons_zero, List.getD_cons_succ, List.set_cons_zero, List.set_cons_succ, List.take_succ_cons, List.take_zero, List.drop_succ_cons, List.drop_zero, List.nil_append, List.cons_append, Option.map_some, Option.map_none, if_true, if_false, reduceIte, reduceCtorEq, decide_eq_true_eq, Bool.not_eq_true', decide_eq_false_iff_not, decide_eq_true, decide_eq_false, decide_true, decide_false, and_self, and_true, true_and, or_self, stO, v_caV_, v_caV_i, v_caV_ii, v_caV_iii, v_caV_iiii, v_caV_iiiii, v_caV_il, v_caV_iil, v_caV_l, v_caV_ll, v_caV_r, v_caV_ri, v_caV_rii, v_caV_riii, v_caV_riiii, v_caV_ir, v_caV_iri, v_caV_iiri, v_caS_i, v_caS_ii, v_caS_iii, v_caS_iiii, v_caS_iiiiii, v_caS_il, v_caS_li, v_caS_ll, v_caS_lll, v_caS_ri, v_caS_riii, sh_239, sh_240, sh_241, sh_242, sh_243, sh_244, sh_245, sh_246, sh_247, sh_248, sh_249, sh_250, sh_251, sh_252, sh_253, rf_239_4, rf_239_5, rf_239_6, rf_239_7, rf_239_20, rf_239_21, rf_239_22, rf_239_23, rf_239_27, rf_239_28, rf_239_32, rf_239_33, rf_239_34, rf_239_35, Int.reduceLE, Int.reduceLT, Int.reduceToNat, Int.reduceAdd, Int.reduceSub, Int.reduceMul, Int.reduceNeg, Int.reduceEq, Int.reduceNe, Nat.reduceAdd, Nat.reduceMul, Nat.reduceLT, Nat.reduceEqDiff, or_true, true_or, or_false, false_or, and_false, false_and, not_true_eq_false, not_false_eq_true, ne_eq, cN4, cN5, cN6, cN7, cN13, cN30, cN60, cN64, cN100, cN136, cN240, cN384, cN900, cN2040, cN3, v_sw_eq, v_swM_0, v_swM_1, v_swM_r, v_swM_n, swM_ite, app_ite, ex_some, bI_0, bI_1, nn_iff, Int.toNat_natCast, Int.toNat_of_nonneg, Int.natCast_add, cN1, wI_id2, wL_id2, if_pos, if_neg]
    rfl
  · intro z hz
    subst hz
    simp (disch := omega) only [C_X12_loudestAt_0, D_X12_loudestAt_0, U_X12_loudestAt_0, hn, Wd_some, Wd_bn, Wd_sqM, Wd_outV, Wd_blkM, Wd_swM, Wd_ite, Wd_map, v_kS_0, v_kS_b, v_kS_r, v_kO_r, v_kW_0, v_kW_1, v_kW_2, v_kW_r, v_kL_0, v_kL_1, v_kL_2, v_kL_r, v_kU_0, ups_11, upsN, upsA, upA_same, upA_neA, fl_at, fl_neA, v_sq_eq, v_sqM_0, v_sqM_r, v_sqM_b, v_sqM_n, sqM_ite, v_asI, v_asR, v_inc, v_pfI, v_pfZ, v_pfO, v_paI, v_paO, v_exI, v_iff, v_rtI, v_rtZ, v_rtV, v_sk, v_brk, v_cnt, v_blk_eq, v_blkM_some, blkM_ite, v_lI, v_lR, v_cI, v_gI, v_gR, v_op1, v_op2, v_arI, v_arR, v_alen, v_tern, v_cmp1, v_cmp2, v_cAnd, v_cOr, v_cNot, v_cTern, v_bn_some, bn_ite, v_bn_none, v_outV_r, v_outV_0, v_outV_n, outV_ite, List.getD_cons_zero, List.getD_cons_succ, List.set_cons_zero, List.set_cons_succ, List.take_succ_cons, List.take_zero, List.drop_succ_cons, List.drop_zero, List.nil_append, List.cons_append, Option.map_some, Option.map_none, if_true, if_false, reduceIte, reduceCtorEq, decide_eq_true_eq, Bool.not_eq_true', decide_eq_false_iff_not, decide_eq_true, decide_eq_false, decide_true, decide_false, and_self, and_true, true_and, or_self, stO, v_caV_, v_caV_i, v_caV_ii, v_caV_iii, v_caV_iiii, v_caV_iiiii, v_caV_il, v_caV_iil, v_caV_l, v_caV_ll, v_caV_r, v_caV_ri, v_caV_rii, v_caV_riii, v_caV_riiii, v_caV_ir, v_caV_iri, v_caV_iiri, v_caS_i, v_caS_ii, v_caS_iii, v_caS_iiii, v_caS_iiiiii, v_caS_il, v_caS_li, v_caS_ll, v_caS_lll, v_caS_ri, v_caS_riii, sh_239, sh_240, sh_241, sh_242, sh_243, sh_244, sh_245, sh_246, sh_247, sh_248, sh_249, sh_250, sh_251, sh_252, sh_253, rf_239_4, rf_239_5, rf_239_6, rf_239_7, rf_239_20, rf_239_21, rf_239_22, rf_239_23, rf_239_27, rf_239_28, rf_239_32, rf_239_33, rf_239_34, rf_239_35, Int.reduceLE, Int.reduceLT, Int.reduceToNat, Int.reduceAdd, Int.reduceSub, Int.reduceMul, Int.reduceNeg, Int.reduceEq, Int.reduceNe, Nat.reduceAdd, Nat.reduceMul, Nat.reduceLT, Nat.reduceEqDiff, or_true, true_or, or_false, false_or, and_false, false_and, not_true_eq_false, not_false_eq_true, ne_eq, cN4, cN5, cN6, cN7, cN13, cN30, cN60, cN64, cN100, cN136, cN240, cN384, cN900, cN2040, cN3, v_sw_eq, v_swM_0, v_swM_1, v_swM_r, v_swM_n, swM_ite, app_ite, ex_some, bI_0, bI_1, nn_iff, Int.toNat_natCast, Int.toNat_of_nonneg, Int.natCast_add, cN1, wI_id2, wL_id2, if_pos, if_neg]
theorem m_loudestAt {σ : SS} (h : WH (σ 244)) (ht : WT (σ 244)) (hd : WD (σ 244)) (hp : plO (σ 244) (σ 248)) {x y : Int} (hx : 0 ≤ x ∧ x ≤ 6) (hy : 0 ≤ y ∧ y ≤ 6) : F_X12_loudestAt 239 x y σ = some (loudB (σ 244) (σ 248) x y, fl σ 249 (bn3 (σ 244)) (noiB (σ 244) (σ 248) x y)) := by
  have e4 : fl σ 249 (bn3 (σ 244)) (noiB (σ 244) (σ 248) x y) 244 = σ 244 := fl_neA (by omega)
  have hn := bn3_c h
  have q := @ml_loudestAt (fl σ 249 (bn3 (σ 244)) (noiB (σ 244) (σ 248) x y)) (bn3 (σ 244)) (by rw [e4]; omega) (by omega) x y (noiB (σ 244) (σ 248) x y) (fun k hk => by rw [fl_at, if_pos hk])
  simp (disch := omega) only [F_X12_loudestAt, E_X12_loudestAt, m_laysNoise h ht hd hp hx hy, q, Wd_some, Wd_bn, Wd_sqM, Wd_outV, Wd_blkM, Wd_swM, Wd_ite, Wd_map, v_kS_0, v_kS_b, v_kS_r, v_kO_r, v_kW_0, v_kW_1, v_kW_2, v_kW_r, v_kL_0, v_kL_1, v_kL_2, v_kL_r, v_kU_0, ups_11, upsN, upsA, upA_same, upA_neA, fl_at, fl_neA, v_sq_eq, v_sqM_0, v_sqM_r, v_sqM_b, v_sqM_n, sqM_ite, v_asI, v_asR, v_inc, v_pfI, v_pfZ, v_pfO, v_paI, v_paO, v_exI, v_iff, v_rtI, v_rtZ, v_rtV, v_sk, v_brk, v_cnt, v_blk_eq, v_blkM_some, blkM_ite, v_lI, v_lR, v_cI, v_gI, v_gR, v_op1, v_op2, v_arI, v_arR, v_alen, v_tern, v_cmp1, v_cmp2, v_cAnd, v_cOr, v_cNot, v_cTern, v_bn_some, bn_ite, v_bn_none, v_outV_r, v_outV_0, v_outV_n, outV_ite, List.getD_cons_zero, List.getD_cons_succ, List.set_cons_zero, List.set_cons_succ, List.take_succ_cons, List.take_zero, List.drop_succ_cons, List.drop_zero, List.nil_append, List.cons_append, Option.map_some, Option.map_none, if_true, if_false, reduceIte, reduceCtorEq, decide_eq_true_eq, Bool.not_eq_true', decide_eq_false_iff_not, decide_eq_true, decide_eq_false, decide_true, decide_false, and_self, and_true, true_and, or_self, stO, v_caV_, v_caV_i, v_caV_ii, v_caV_iii, v_caV_iiii, v_caV_iiiii, v_caV_il, v_caV_iil, v_caV_l, v_caV_ll, v_caV_r, v_caV_ri, v_caV_rii, v_caV_riii, v_caV_riiii, v_caV_ir, v_caV_iri, v_caV_iiri, v_caS_i, v_caS_ii, v_caS_iii, v_caS_iiii, v_caS_iiiiii, v_caS_il, v_caS_li, v_caS_ll, v_caS_lll, v_caS_ri, v_caS_riii, sh_239, sh_240, sh_241, sh_242, sh_243, sh_244, sh_245, sh_246, sh_247, sh_248, sh_249, sh_250, sh_251, sh_252, sh_253, rf_239_4, rf_239_5, rf_239_6, rf_239_7, rf_239_20, rf_239_21, rf_239_22, rf_239_23, rf_239_27, rf_239_28, rf_239_32, rf_239_33, rf_239_34, rf_239_35, Int.reduceLE, Int.reduceLT, Int.reduceToNat, Int.reduceAdd, Int.reduceSub, Int.reduceMul, Int.reduceNeg, Int.reduceEq, Int.reduceNe, Nat.reduceAdd, Nat.reduceMul, Nat.reduceLT, Nat.reduceEqDiff, or_true, true_or, or_false, false_or, and_false, false_and, not_true_eq_false, not_false_eq_true, ne_eq, cN4, cN5, cN6, cN7, cN13, cN30, cN60, cN64, cN100, cN136, cN240, cN384, cN900, cN2040, cN3, v_sw_eq, v_swM_0, v_swM_1, v_swM_r, v_swM_n, swM_ite, app_ite, ex_some, bI_0, bI_1, nn_iff, Int.toNat_natCast, Int.toNat_of_nonneg, Int.natCast_add, cN1, wI_id2, wL_id2, if_pos, if_neg]
  rfl
/-- behind k cells, at column x of row y: what was counted, the row of noise being anything -/
def CIc (σ : SS) (L : Int → Int → List Int) (R : List Nat) (y : Nat) (x : Nat) (z : ZZ) : Prop := ∃ f, z = (L y x, R, upA σ 249 f)
theorem sumC_s {c : Nat → Int} {f : Int → Int → Int} {x y : Nat} (hx : (x : Int) < c 0) : sumC c f (y * (c 0).toNat + (x + 1)) = sumC c f (y * (c 0).toNat + x) + f x y := by
  have e : ((y * (c 0).toNat + x : Nat) : Int) = (y : Int) * c 0 + x := by
    rw [Int.natCast_add, Int.natCast_mul, Int.toNat_of_nonneg (by omega)]
  have ⟨q1, q2⟩ := cell_xy (W := c 0) (x := (x : Int)) (y := (y : Int)) (by omega) hx
  show sumN _ (y * (c 0).toNat + x) + f (((y * (c 0).toNat + x : Nat) : Int) % c 0) (((y * (c 0).toNat + x : Nat) : Int) / c 0) = _
  rw [e, q1, q2]
  rfl
theorem sumC_r {c : Nat → Int} {f : Int → Int → Int} (y : Nat) : sumC c f (y * (c 0).toNat + (c 0).toNat) = sumC c f ((y + 1) * (c 0).toNat + 0) := by
  rw [Nat.succ_mul, Nat.add_zero]
theorem ml_cells1 {σ : SS} (h : WH (σ 244)) (ht : WT (σ 244)) (hd : WD (σ 244)) (hp : plO (σ 244) (σ 248)) (who : Int) {y : Nat} (hy : (y : Int) < σ 244 1) (f : Nat → Int) : Wd (L_X12_cellsOf_1 ([0, who, sumC (σ 244) (fun x y => if holdB (σ 244) (σ 248) x y = who then 1 else 0) (y * (σ 244 0).toNat + 0), y, 0], [239, 0, 0, 0, 0], upA σ 249 f)) (fun o z => o = .inl 0 ∧ CIc σ (fun y x => [0, who, sumC (σ 244) (fun x y => if holdB (σ 244) (σ 248) x y = who then 1 else 0) (y.toNat * (σ 244 0).toNat + x.toNat), y, x]) [239, 0, 0, 0, 0] y (σ 244 0).toNat z) := by
  unfold L_X12_cellsOf_1
  refine Wd_it (CIc σ (fun y x => [0, who, sumC (σ 244) (fun x y => if holdB (σ 244) (σ 248) x y = who then 1 else 0) (y.toNat * (σ 244 0).toNat + x.toNat), y, x]) [239, 0, 0, 0, 0] y) (σ 244 0).toNat ⟨f, rfl⟩ ?_ ?_
  · intro i z hi hz
    obtain ⟨f1, hz⟩ := hz
    subst hz
    have q := @m_holds (upA σ 249 f1) (by rw [upA_4]; exact h) (by rw [upA_4]; exact ht) (by rw [upA_4]; exact hd) (by rw [upA_4, upA_8]; exact hp) i y (by omega) (by omega)
    rw [upA_4, upA_8, fl_upA] at q
    simp (disch := omega) only [C_X12_cellsOf_1, D_X12_cellsOf_1, U_X12_cellsOf_1, q, Wd_some, Wd_bn, Wd_sqM, Wd_outV, Wd_blkM, Wd_swM, Wd_ite, Wd_map, v_kS_0, v_kS_b, v_kS_r, v_kO_r, v_kW_0, v_kW_1, v_kW_2, v_kW_r, v_kL_0, v_kL_1, v_kL_2, v_kL_r, v_kU_0, ups_11, upsN, upsA, upA_same, upA_neA, fl_at, fl_neA, v_sq_eq, v_sqM_0, v_sqM_r, v_sqM_b, v_sqM_n, sqM_ite, v_asI, v_asR, v_inc, v_pfI, v_pfZ, v_pfO, v_paI, v_paO, v_exI, v_iff, v_rtI, v_rtZ, v_rtV, v_sk, v_brk, v_cnt, v_blk_eq, v_blkM_some, blkM_ite, v_lI, v_lR, v_cI, v_gI, v_gR, v_op1, v_op2, v_arI, v_arR, v_alen, v_tern, v_cmp1, v_cmp2, v_cAnd, v_cOr, v_cNot, v_cTern, v_bn_some, bn_ite, v_bn_none, v_outV_r, v_outV_0, v_outV_n, outV_ite, List.getD_cons_zero, List.getD_cons_succ, List.set_cons_zero, List.set_cons_succ, List.take_succ_cons, List.take_zero, List.drop_succ_cons, List.drop_zero, List.nil_append, List.cons_append, Option.map_some, Option.map_none, if_true, if_false, reduceIte, reduceCtorEq, decide_eq_true_eq, Bool.not_eq_true', decide_eq_false_iff_not, decide_eq_true, decide_eq_false, decide_true, decide_false, and_self, and_true, true_and, or_self, stO, v_caV_, v_caV_i, v_caV_ii, v_caV_iii, v_caV_iiii, v_caV_iiiii, v_caV_il, v_caV_iil, v_caV_l, v_caV_ll, v_caV_r, v_caV_ri, v_caV_rii, v_caV_riii, v_caV_riiii, v_caV_ir, v_caV_iri, v_caV_iiri, v_caS_i, v_caS_ii, v_caS_iii, v_caS_iiii, v_caS_iiiiii, v_caS_il, v_caS_li, v_caS_ll, v_caS_lll, v_caS_ri, v_caS_riii, sh_239, sh_240, sh_241, sh_242, sh_243, sh_244, sh_245, sh_246, sh_247, sh_248, sh_249, sh_250, sh_251, sh_252, sh_253, rf_239_4, rf_239_5, rf_239_6, rf_239_7, rf_239_20, rf_239_21, rf_239_22, rf_239_23, rf_239_27, rf_239_28, rf_239_32, rf_239_33, rf_239_34, rf_239_35, Int.reduceLE, Int.reduceLT, Int.reduceToNat, Int.reduceAdd, Int.reduceSub, Int.reduceMul, Int.reduceNeg, Int.reduceEq, Int.reduceNe, Nat.reduceAdd, Nat.reduceMul, Nat.reduceLT, Nat.reduceEqDiff, or_true, true_or, or_false, false_or, and_false, false_and, not_true_eq_false, not_false_eq_true, ne_eq, cN4, cN5, cN6, cN7, cN13, cN30, cN60, cN64, cN100, cN136, cN240, cN384, cN900, cN2040, cN3, v_sw_eq, v_swM_0, v_swM_1, v_swM_r, v_swM_n, swM_ite, app_ite, ex_some, bI_0, bI_1, nn_iff, Int.toNat_natCast, Int.toNat_of_nonneg, Int.natCast_add, cN1, wI_id2, wL_id2, if_pos, if_neg]
    trace_state
    sorry
  · intro z hz
    obtain ⟨f1, hz⟩ := hz
    subst hz
    simp (disch := omega) only [C_X12_cellsOf_1, D_X12_cellsOf_1, U_X12_cellsOf_1, Wd_some, Wd_bn, Wd_sqM, Wd_outV, Wd_blkM, Wd_swM, Wd_ite, Wd_map, v_kS_0, v_kS_b, v_kS_r, v_kO_r, v_kW_0, v_kW_1, v_kW_2, v_kW_r, v_kL_0, v_kL_1, v_kL_2, v_kL_r, v_kU_0, ups_11, upsN, upsA, upA_same, upA_neA, fl_at, fl_neA, v_sq_eq, v_sqM_0, v_sqM_r, v_sqM_b, v_sqM_n, sqM_ite, v_asI, v_asR, v_inc, v_pfI, v_pfZ, v_pfO, v_paI, v_paO, v_exI, v_iff, v_rtI, v_rtZ, v_rtV, v_sk, v_brk, v_cnt, v_blk_eq, v_blkM_some, blkM_ite, v_lI, v_lR, v_cI, v_gI, v_gR, v_op1, v_op2, v_arI, v_arR, v_alen, v_tern, v_cmp1, v_cmp2, v_cAnd, v_cOr, v_cNot, v_cTern, v_bn_some, bn_ite, v_bn_none, v_outV_r, v_outV_0, v_outV_n, outV_ite, List.getD_cons_zero, List.getD_cons_succ, List.set_cons_zero, List.set_cons_succ, List.take_succ_cons, List.take_zero, List.drop_succ_cons, List.drop_zero, List.nil_append, List.cons_append, Option.map_some, Option.map_none, if_true, if_false, reduceIte, reduceCtorEq, decide_eq_true_eq, Bool.not_eq_true', decide_eq_false_iff_not, decide_eq_true, decide_eq_false, decide_true, decide_false, and_self, and_true, true_and, or_self, stO, v_caV_, v_caV_i, v_caV_ii, v_caV_iii, v_caV_iiii, v_caV_iiiii, v_caV_il, v_caV_iil, v_caV_l, v_caV_ll, v_caV_r, v_caV_ri, v_caV_rii, v_caV_riii, v_caV_riiii, v_caV_ir, v_caV_iri, v_caV_iiri, v_caS_i, v_caS_ii, v_caS_iii, v_caS_iiii, v_caS_iiiiii, v_caS_il, v_caS_li, v_caS_ll, v_caS_lll, v_caS_ri, v_caS_riii, sh_239, sh_240, sh_241, sh_242, sh_243, sh_244, sh_245, sh_246, sh_247, sh_248, sh_249, sh_250, sh_251, sh_252, sh_253, rf_239_4, rf_239_5, rf_239_6, rf_239_7, rf_239_20, rf_239_21, rf_239_22, rf_239_23, rf_239_27, rf_239_28, rf_239_32, rf_239_33, rf_239_34, rf_239_35, Int.reduceLE, Int.reduceLT, Int.reduceToNat, Int.reduceAdd, Int.reduceSub, Int.reduceMul, Int.reduceNeg, Int.reduceEq, Int.reduceNe, Nat.reduceAdd, Nat.reduceMul, Nat.reduceLT, Nat.reduceEqDiff, or_true, true_or, or_false, false_or, and_false, false_and, not_true_eq_false, not_false_eq_true, ne_eq, cN4, cN5, cN6, cN7, cN13, cN30, cN60, cN64, cN100, cN136, cN240, cN384, cN900, cN2040, cN3, v_sw_eq, v_swM_0, v_swM_1, v_swM_r, v_swM_n, swM_ite, app_ite, ex_some, bI_0, bI_1, nn_iff, Int.toNat_natCast, Int.toNat_of_nonneg, Int.natCast_add, cN1, wI_id2, wL_id2, if_pos, if_neg]
    trace_state
    sorry
/-! a Park of the class at a tells the block c, with the names w -/
abbrev kH (σ : SS) (a : Nat) (c : Nat → Int) : Prop := σ a 0 = c 0 ∧ σ a 1 = c 1 ∧ σ a 2 = c 4 ∧ σ a 3 = c 5 ∧ σ a 4 = c 6 ∧ σ a 5 = c 7 ∧ σ a 6 = c 8 ∧ σ a 7 = c 9 ∧ σ a 9 = c 2 ∧ σ a 11 = c 3
def kT (σ : SS) (a : Nat) (c w : Nat → Int) : Prop := ∀ t : Nat, (t : Int) < c 2 → σ (a + 11 + t) 0 = w t ∧ σ (a + 11 + t) 1 = c (10 + (t : Int)).toNat ∧ σ (a + 11 + t) 2 = c (16 + (t : Int)).toNat ∧ σ (a + 11 + t) 3 = c (22 + (t : Int)).toNat
def kB (σ : SS) (a : Nat) (c w : Nat → Int) : Prop := ∀ b : Nat, (b : Int) < c 3 → (σ (a + 17 + 2 * b) 0 = w (6 + b) ∧ σ (a + 17 + 2 * b) 1 = c (28 + (b : Int)).toNat ∧ σ (a + 17 + 2 * b) 2 = c (34 + (b : Int)).toNat ∧ σ (a + 17 + 2 * b) 3 = c (40 + (b : Int)).toNat ∧ σ (a + 17 + 2 * b) 4 = c (46 + (b : Int)).toNat ∧ σ (a + 17 + 2 * b) 5 = c (52 + (b : Int)).toNat ∧ σ (a + 17 + 2 * b) 6 = c (58 + (b : Int)).toNat ∧ σ (a + 17 + 2 * b) 7 = c (64 + (b : Int)).toNat) ∧ ∀ k : Nat, (k : Int) < c (64 + (b : Int)).toNat → σ (a + 18 + 2 * b) k = c (70 + 6 * (b : Int) + (k : Int)).toNat
def kP (σ : SS) (a : Nat) (c : Nat → Int) : Prop := ∀ k : Nat, (k : Int) < c 0 * c 1 → σ (a + 1) k = pondB c ((k : Int) % c 0) ((k : Int) / c 0)
section KR
variable {σ : SS} {a : Nat} {c w : Nat → Int}
theorem kT_0 (h : kT σ a c w) : ∀ t : Nat, (t : Int) < c 2 → σ (a + 11 + t) 0 = w t := fun t h1 => (h t h1).1
theorem kT_1 (h : kT σ a c w) : ∀ t : Nat, (t : Int) < c 2 → σ (a + 11 + t) 1 = c (10 + (t : Int)).toNat := fun t h1 => (h t h1).2.1
theorem kT_2 (h : kT σ a c w) : ∀ t : Nat, (t : Int) < c 2 → σ (a + 11 + t) 2 = c (16 + (t : Int)).toNat := fun t h1 => (h t h1).2.2.1
theorem kT_3 (h : kT σ a c w) : ∀ t : Nat, (t : Int) < c 2 → σ (a + 11 + t) 3 = c (22 + (t : Int)).toNat := fun t h1 => (h t h1).2.2.2
theorem kB_0 (h : kB σ a c w) : ∀ b : Nat, (b : Int) < c 3 → σ (a + 17 + 2 * b) 0 = w (6 + b) := fun b h1 => (h b h1).1.1
theorem kB_1 (h : kB σ a c w) : ∀ b : Nat, (b : Int) < c 3 → σ (a + 17 + 2 * b) 1 = c (28 + (b : Int)).toNat := fun b h1 => (h b h1).1.2.1
theorem kB_2 (h : kB σ a c w) : ∀ b : Nat, (b : Int) < c 3 → σ (a + 17 + 2 * b) 2 = c (34 + (b : Int)).toNat := fun b h1 => (h b h1).1.2.2.1
theorem kB_3 (h : kB σ a c w) : ∀ b : Nat, (b : Int) < c 3 → σ (a + 17 + 2 * b) 3 = c (40 + (b : Int)).toNat := fun b h1 => (h b h1).1.2.2.2.1
theorem kB_4 (h : kB σ a c w) : ∀ b : Nat, (b : Int) < c 3 → σ (a + 17 + 2 * b) 4 = c (46 + (b : Int)).toNat := fun b h1 => (h b h1).1.2.2.2.2.1
theorem kB_5 (h : kB σ a c w) : ∀ b : Nat, (b : Int) < c 3 → σ (a + 17 + 2 * b) 5 = c (52 + (b : Int)).toNat := fun b h1 => (h b h1).1.2.2.2.2.2.1
theorem kB_6 (h : kB σ a c w) : ∀ b : Nat, (b : Int) < c 3 → σ (a + 17 + 2 * b) 6 = c (58 + (b : Int)).toNat := fun b h1 => (h b h1).1.2.2.2.2.2.2.1
theorem kB_7 (h : kB σ a c w) : ∀ b : Nat, (b : Int) < c 3 → σ (a + 17 + 2 * b) 7 = c (64 + (b : Int)).toNat := fun b h1 => (h b h1).1.2.2.2.2.2.2.2
theorem kB_e (h : kB σ a c w) : ∀ b k : Nat, (b : Int) < c 3 → (k : Int) < c (64 + (b : Int)).toNat → σ (a + 18 + 2 * b) k = c (70 + 6 * (b : Int) + (k : Int)).toNat := fun b k h1 h2 => (h b h1).2 k h2
theorem k_hasTune (hp : isP a) (H : kH σ a c) (hw : WH c) (i : Int) : F_X3_hasTune a i σ = some (bI (0 ≤ i ∧ i < c 2), σ) := by
  simp (disch := omega) only [F_X3_hasTune, B_X3_hasTune, P_a hp, P_1 hp, P_2 hp, P_3 hp, P_4 hp, P_5 hp, P_6 hp, P_7 hp, P_8 hp, P_9 hp, P_10 hp, P_t hp, P_b hp, P_g hp, P_r8 hp, P_r10 hp, P_r12 hp, P_r13 hp, P_e2 hp, P_e3 hp, P_e4 hp, P_e5 hp, P_e6 hp, P_e7 hp, P_rt hp, P_rb hp, P_rg hp, H.1, H.2.1, H.2.2.1, H.2.2.2.1, H.2.2.2.2.1, H.2.2.2.2.2.1, H.2.2.2.2.2.2.1, H.2.2.2.2.2.2.2.1, H.2.2.2.2.2.2.2.2.1, H.2.2.2.2.2.2.2.2.2, Wd_some, Wd_bn, Wd_sqM, Wd_outV, Wd_blkM, Wd_swM, Wd_ite, Wd_map, v_kS_0, v_kS_b, v_kS_r, v_kO_r, v_kW_0, v_kW_1, v_kW_2, v_kW_r, v_kL_0, v_kL_1, v_kL_2, v_kL_r, v_kU_0, ups_11, upsN, upsA, upA_same, upA_neA, fl_at, fl_neA, v_sq_eq, v_sqM_0, v_sqM_r, v_sqM_b, v_sqM_n, sqM_ite, v_asI, v_asR, v_inc, v_pfI, v_pfZ, v_pfO, v_paI, v_paO, v_exI, v_iff, v_rtI, v_rtZ, v_rtV, v_sk, v_brk, v_cnt, v_blk_eq, v_blkM_some, blkM_ite, v_lI, v_lR, v_cI, v_gI, v_gR, v_op1, v_op2, v_arI, v_arR, v_alen, v_tern, v_cmp1, v_cmp2, v_cAnd, v_cOr, v_cNot, v_cTern, v_bn_some, bn_ite, v_bn_none, v_outV_r, v_outV_0, v_outV_n, outV_ite, List.getD_cons_zero, List.getD_cons_succ, List.set_cons_zero, List.set_cons_succ, List.take_succ_cons, List.take_zero, List.drop_succ_cons, List.drop_zero, List.nil_append, List.cons_append, Option.map_some, Option.map_none, if_true, if_false, reduceIte, reduceCtorEq, decide_eq_true_eq, Bool.not_eq_true', decide_eq_false_iff_not, decide_eq_true, decide_eq_false, decide_true, decide_false, and_self, and_true, true_and, or_self, stO, v_caV_, v_caV_i, v_caV_ii, v_caV_iii, v_caV_iiii, v_caV_iiiii, v_caV_il, v_caV_iil, v_caV_l, v_caV_ll, v_caV_r, v_caV_ri, v_caV_rii, v_caV_riii, v_caV_riiii, v_caV_ir, v_caV_iri, v_caV_iiri, v_caS_i, v_caS_ii, v_caS_iii, v_caS_iiii, v_caS_iiiiii, v_caS_il, v_caS_li, v_caS_ll, v_caS_lll, v_caS_ri, v_caS_riii, sh_239, sh_240, sh_241, sh_242, sh_243, sh_244, sh_245, sh_246, sh_247, sh_248, sh_249, sh_250, sh_251, sh_252, sh_253, rf_239_4, rf_239_5, rf_239_6, rf_239_7, rf_239_20, rf_239_21, rf_239_22, rf_239_23, rf_239_27, rf_239_28, rf_239_32, rf_239_33, rf_239_34, rf_239_35, Int.reduceLE, Int.reduceLT, Int.reduceToNat, Int.reduceAdd, Int.reduceSub, Int.reduceMul, Int.reduceNeg, Int.reduceEq, Int.reduceNe, Nat.reduceAdd, Nat.reduceMul, Nat.reduceLT, Nat.reduceEqDiff, or_true, true_or, or_false, false_or, and_false, false_and, not_true_eq_false, not_false_eq_true, ne_eq, cN4, cN5, cN6, cN7, cN13, cN30, cN60, cN64, cN100, cN136, cN240, cN384, cN900, cN2040, cN3, v_sw_eq, v_swM_0, v_swM_1, v_swM_r, v_swM_n, swM_ite, app_ite, ex_some, bI_0, bI_1, nn_iff, Int.toNat_natCast, Int.toNat_of_nonneg, Int.natCast_add, cN1, wI_id2, wL_id2, if_pos, if_neg]
  try unfold bI
  repeat' split
  all_goals first | rfl | omega | (exfalso; omega)
theorem k_hasBand (hp : isP a) (H : kH σ a c) (hw : WH c) (i : Int) : F_X3_hasBand a i σ = some (bI (0 ≤ i ∧ i < c 3), σ) := by
  simp (disch := omega) only [F_X3_hasBand, B_X3_hasBand, P_a hp, P_1 hp, P_2 hp, P_3 hp, P_4 hp, P_5 hp, P_6 hp, P_7 hp, P_8 hp, P_9 hp, P_10 hp, P_t hp, P_b hp, P_g hp, P_r8 hp, P_r10 hp, P_r12 hp, P_r13 hp, P_e2 hp, P_e3 hp, P_e4 hp, P_e5 hp, P_e6 hp, P_e7 hp, P_rt hp, P_rb hp, P_rg hp, H.1, H.2.1, H.2.2.1, H.2.2.2.1, H.2.2.2.2.1, H.2.2.2.2.2.1, H.2.2.2.2.2.2.1, H.2.2.2.2.2.2.2.1, H.2.2.2.2.2.2.2.2.1, H.2.2.2.2.2.2.2.2.2, Wd_some, Wd_bn, Wd_sqM, Wd_outV, Wd_blkM, Wd_swM, Wd_ite, Wd_map, v_kS_0, v_kS_b, v_kS_r, v_kO_r, v_kW_0, v_kW_1, v_kW_2, v_kW_r, v_kL_0, v_kL_1, v_kL_2, v_kL_r, v_kU_0, ups_11, upsN, upsA, upA_same, upA_neA, fl_at, fl_neA, v_sq_eq, v_sqM_0, v_sqM_r, v_sqM_b, v_sqM_n, sqM_ite, v_asI, v_asR, v_inc, v_pfI, v_pfZ, v_pfO, v_paI, v_paO, v_exI, v_iff, v_rtI, v_rtZ, v_rtV, v_sk, v_brk, v_cnt, v_blk_eq, v_blkM_some, blkM_ite, v_lI, v_lR, v_cI, v_gI, v_gR, v_op1, v_op2, v_arI, v_arR, v_alen, v_tern, v_cmp1, v_cmp2, v_cAnd, v_cOr, v_cNot, v_cTern, v_bn_some, bn_ite, v_bn_none, v_outV_r, v_outV_0, v_outV_n, outV_ite, List.getD_cons_zero, List.getD_cons_succ, List.set_cons_zero, List.set_cons_succ, List.take_succ_cons, List.take_zero, List.drop_succ_cons, List.drop_zero, List.nil_append, List.cons_append, Option.map_some, Option.map_none, if_true, if_false, reduceIte, reduceCtorEq, decide_eq_true_eq, Bool.not_eq_true', decide_eq_false_iff_not, decide_eq_true, decide_eq_false, decide_true, decide_false, and_self, and_true, true_and, or_self, stO, v_caV_, v_caV_i, v_caV_ii, v_caV_iii, v_caV_iiii, v_caV_iiiii, v_caV_il, v_caV_iil, v_caV_l, v_caV_ll, v_caV_r, v_caV_ri, v_caV_rii, v_caV_riii, v_caV_riiii, v_caV_ir, v_caV_iri, v_caV_iiri, v_caS_i, v_caS_ii, v_caS_iii, v_caS_iiii, v_caS_iiiiii, v_caS_il, v_caS_li, v_caS_ll, v_caS_lll, v_caS_ri, v_caS_riii, sh_239, sh_240, sh_241, sh_242, sh_243, sh_244, sh_245, sh_246, sh_247, sh_248, sh_249, sh_250, sh_251, sh_252, sh_253, rf_239_4, rf_239_5, rf_239_6, rf_239_7, rf_239_20, rf_239_21, rf_239_22, rf_239_23, rf_239_27, rf_239_28, rf_239_32, rf_239_33, rf_239_34, rf_239_35, Int.reduceLE, Int.reduceLT, Int.reduceToNat, Int.reduceAdd, Int.reduceSub, Int.reduceMul, Int.reduceNeg, Int.reduceEq, Int.reduceNe, Nat.reduceAdd, Nat.reduceMul, Nat.reduceLT, Nat.reduceEqDiff, or_true, true_or, or_false, false_or, and_false, false_and, not_true_eq_false, not_false_eq_true, ne_eq, cN4, cN5, cN6, cN7, cN13, cN30, cN60, cN64, cN100, cN136, cN240, cN384, cN900, cN2040, cN3, v_sw_eq, v_swM_0, v_swM_1, v_swM_r, v_swM_n, swM_ite, app_ite, ex_some, bI_0, bI_1, nn_iff, Int.toNat_natCast, Int.toNat_of_nonneg, Int.natCast_add, cN1, wI_id2, wL_id2, if_pos, if_neg]
  try unfold bI
  repeat' split
  all_goals first | rfl | omega | (exfalso; omega)
theorem k_hasEntry (hp : isP a) (H : kH σ a c) (hw : WH c) (i : Int) : F_X3_hasEntry a i σ = some (bI (enB c i), σ) := by
  simp (disch := omega) only [F_X3_hasEntry, B_X3_hasEntry, P_a hp, P_1 hp, P_2 hp, P_3 hp, P_4 hp, P_5 hp, P_6 hp, P_7 hp, P_8 hp, P_9 hp, P_10 hp, P_t hp, P_b hp, P_g hp, P_r8 hp, P_r10 hp, P_r12 hp, P_r13 hp, P_e2 hp, P_e3 hp, P_e4 hp, P_e5 hp, P_e6 hp, P_e7 hp, P_rt hp, P_rb hp, P_rg hp, H.1, H.2.1, H.2.2.1, H.2.2.2.1, H.2.2.2.2.1, H.2.2.2.2.2.1, H.2.2.2.2.2.2.1, H.2.2.2.2.2.2.2.1, H.2.2.2.2.2.2.2.2.1, H.2.2.2.2.2.2.2.2.2, k_hasTune hp H hw, Wd_some, Wd_bn, Wd_sqM, Wd_outV, Wd_blkM, Wd_swM, Wd_ite, Wd_map, v_kS_0, v_kS_b, v_kS_r, v_kO_r, v_kW_0, v_kW_1, v_kW_2, v_kW_r, v_kL_0, v_kL_1, v_kL_2, v_kL_r, v_kU_0, ups_11, upsN, upsA, upA_same, upA_neA, fl_at, fl_neA, v_sq_eq, v_sqM_0, v_sqM_r, v_sqM_b, v_sqM_n, sqM_ite, v_asI, v_asR, v_inc, v_pfI, v_pfZ, v_pfO, v_paI, v_paO, v_exI, v_iff, v_rtI, v_rtZ, v_rtV, v_sk, v_brk, v_cnt, v_blk_eq, v_blkM_some, blkM_ite, v_lI, v_lR, v_cI, v_gI, v_gR, v_op1, v_op2, v_arI, v_arR, v_alen, v_tern, v_cmp1, v_cmp2, v_cAnd, v_cOr, v_cNot, v_cTern, v_bn_some, bn_ite, v_bn_none, v_outV_r, v_outV_0, v_outV_n, outV_ite, List.getD_cons_zero, List.getD_cons_succ, List.set_cons_zero, List.set_cons_succ, List.take_succ_cons, List.take_zero, List.drop_succ_cons, List.drop_zero, List.nil_append, List.cons_append, Option.map_some, Option.map_none, if_true, if_false, reduceIte, reduceCtorEq, decide_eq_true_eq, Bool.not_eq_true', decide_eq_false_iff_not, decide_eq_true, decide_eq_false, decide_true, decide_false, and_self, and_true, true_and, or_self, stO, v_caV_, v_caV_i, v_caV_ii, v_caV_iii, v_caV_iiii, v_caV_iiiii, v_caV_il, v_caV_iil, v_caV_l, v_caV_ll, v_caV_r, v_caV_ri, v_caV_rii, v_caV_riii, v_caV_riiii, v_caV_ir, v_caV_iri, v_caV_iiri, v_caS_i, v_caS_ii, v_caS_iii, v_caS_iiii, v_caS_iiiiii, v_caS_il, v_caS_li, v_caS_ll, v_caS_lll, v_caS_ri, v_caS_riii, sh_239, sh_240, sh_241, sh_242, sh_243, sh_244, sh_245, sh_246, sh_247, sh_248, sh_249, sh_250, sh_251, sh_252, sh_253, rf_239_4, rf_239_5, rf_239_6, rf_239_7, rf_239_20, rf_239_21, rf_239_22, rf_239_23, rf_239_27, rf_239_28, rf_239_32, rf_239_33, rf_239_34, rf_239_35, Int.reduceLE, Int.reduceLT, Int.reduceToNat, Int.reduceAdd, Int.reduceSub, Int.reduceMul, Int.reduceNeg, Int.reduceEq, Int.reduceNe, Nat.reduceAdd, Nat.reduceMul, Nat.reduceLT, Nat.reduceEqDiff, or_true, true_or, or_false, false_or, and_false, false_and, not_true_eq_false, not_false_eq_true, ne_eq, cN4, cN5, cN6, cN7, cN13, cN30, cN60, cN64, cN100, cN136, cN240, cN384, cN900, cN2040, cN3, v_sw_eq, v_swM_0, v_swM_1, v_swM_r, v_swM_n, swM_ite, app_ite, ex_some, bI_0, bI_1, nn_iff, Int.toNat_natCast, Int.toNat_of_nonneg, Int.natCast_add, cN1, wI_id2, wL_id2, if_pos, if_neg]
  try unfold bI
  repeat' split
  all_goals first | rfl | omega | (exfalso; omega)
theorem k_countCells (hp : isP a) (H : kH σ a c) (hw : WH c) : F_X3_countCells a σ = some (c 0 * c 1, σ) := by
  have m := mul_bd (show 0 ≤ c 0 by omega) (show c 0 ≤ 6 by omega) (show 0 ≤ c 1 by omega) (show c 1 ≤ 5 by omega)
  simp (disch := omega) only [F_X3_countCells, B_X3_countCells, P_a hp, P_1 hp, P_2 hp, P_3 hp, P_4 hp, P_5 hp, P_6 hp, P_7 hp, P_8 hp, P_9 hp, P_10 hp, P_t hp, P_b hp, P_g hp, P_r8 hp, P_r10 hp, P_r12 hp, P_r13 hp, P_e2 hp, P_e3 hp, P_e4 hp, P_e5 hp, P_e6 hp, P_e7 hp, P_rt hp, P_rb hp, P_rg hp, H.1, H.2.1, H.2.2.1, H.2.2.2.1, H.2.2.2.2.1, H.2.2.2.2.2.1, H.2.2.2.2.2.2.1, H.2.2.2.2.2.2.2.1, H.2.2.2.2.2.2.2.2.1, H.2.2.2.2.2.2.2.2.2, Wd_some, Wd_bn, Wd_sqM, Wd_outV, Wd_blkM, Wd_swM, Wd_ite, Wd_map, v_kS_0, v_kS_b, v_kS_r, v_kO_r, v_kW_0, v_kW_1, v_kW_2, v_kW_r, v_kL_0, v_kL_1, v_kL_2, v_kL_r, v_kU_0, ups_11, upsN, upsA, upA_same, upA_neA, fl_at, fl_neA, v_sq_eq, v_sqM_0, v_sqM_r, v_sqM_b, v_sqM_n, sqM_ite, v_asI, v_asR, v_inc, v_pfI, v_pfZ, v_pfO, v_paI, v_paO, v_exI, v_iff, v_rtI, v_rtZ, v_rtV, v_sk, v_brk, v_cnt, v_blk_eq, v_blkM_some, blkM_ite, v_lI, v_lR, v_cI, v_gI, v_gR, v_op1, v_op2, v_arI, v_arR, v_alen, v_tern, v_cmp1, v_cmp2, v_cAnd, v_cOr, v_cNot, v_cTern, v_bn_some, bn_ite, v_bn_none, v_outV_r, v_outV_0, v_outV_n, outV_ite, List.getD_cons_zero, List.getD_cons_succ, List.set_cons_zero, List.set_cons_succ, List.take_succ_cons, List.take_zero, List.drop_succ_cons, List.drop_zero, List.nil_append, List.cons_append, Option.map_some, Option.map_none, if_true, if_false, reduceIte, reduceCtorEq, decide_eq_true_eq, Bool.not_eq_true', decide_eq_false_iff_not, decide_eq_true, decide_eq_false, decide_true, decide_false, and_self, and_true, true_and, or_self, stO, v_caV_, v_caV_i, v_caV_ii, v_caV_iii, v_caV_iiii, v_caV_iiiii, v_caV_il, v_caV_iil, v_caV_l, v_caV_ll, v_caV_r, v_caV_ri, v_caV_rii, v_caV_riii, v_caV_riiii, v_caV_ir, v_caV_iri, v_caV_iiri, v_caS_i, v_caS_ii, v_caS_iii, v_caS_iiii, v_caS_iiiiii, v_caS_il, v_caS_li, v_caS_ll, v_caS_lll, v_caS_ri, v_caS_riii, sh_239, sh_240, sh_241, sh_242, sh_243, sh_244, sh_245, sh_246, sh_247, sh_248, sh_249, sh_250, sh_251, sh_252, sh_253, rf_239_4, rf_239_5, rf_239_6, rf_239_7, rf_239_20, rf_239_21, rf_239_22, rf_239_23, rf_239_27, rf_239_28, rf_239_32, rf_239_33, rf_239_34, rf_239_35, Int.reduceLE, Int.reduceLT, Int.reduceToNat, Int.reduceAdd, Int.reduceSub, Int.reduceMul, Int.reduceNeg, Int.reduceEq, Int.reduceNe, Nat.reduceAdd, Nat.reduceMul, Nat.reduceLT, Nat.reduceEqDiff, or_true, true_or, or_false, false_or, and_false, false_and, not_true_eq_false, not_false_eq_true, ne_eq, cN4, cN5, cN6, cN7, cN13, cN30, cN60, cN64, cN100, cN136, cN240, cN384, cN900, cN2040, cN3, v_sw_eq, v_swM_0, v_swM_1, v_swM_r, v_swM_n, swM_ite, app_ite, ex_some, bI_0, bI_1, nn_iff, Int.toNat_natCast, Int.toNat_of_nonneg, Int.natCast_add, cN1, wI_id2, wL_id2, if_pos, if_neg]
  split
  · rfl
  · rw [show c 0 * c 1 = 30 by omega]
theorem k_cellAt (hp : isP a) (H : kH σ a c) (hw : WH c) (x y : Int) : F_X3_cellAt a x y σ = some (if (0 ≤ x ∧ x < c 0) ∧ (0 ≤ y ∧ y < c 1) then y * c 0 + x else -1, σ) := by
  by_cases hf : (0 ≤ x ∧ x < c 0) ∧ (0 ≤ y ∧ y < c 1)
  · have m := mul_bd hf.2.1 (show y ≤ 5 by omega) (show 0 ≤ c 0 by omega) (show c 0 ≤ 6 by omega)
    simp (disch := omega) only [F_X3_cellAt, B_X3_cellAt, P_a hp, P_1 hp, P_2 hp, P_3 hp, P_4 hp, P_5 hp, P_6 hp, P_7 hp, P_8 hp, P_9 hp, P_10 hp, P_t hp, P_b hp, P_g hp, P_r8 hp, P_r10 hp, P_r12 hp, P_r13 hp, P_e2 hp, P_e3 hp, P_e4 hp, P_e5 hp, P_e6 hp, P_e7 hp, P_rt hp, P_rb hp, P_rg hp, H.1, H.2.1, H.2.2.1, H.2.2.2.1, H.2.2.2.2.1, H.2.2.2.2.2.1, H.2.2.2.2.2.2.1, H.2.2.2.2.2.2.2.1, H.2.2.2.2.2.2.2.2.1, H.2.2.2.2.2.2.2.2.2, Wd_some, Wd_bn, Wd_sqM, Wd_outV, Wd_blkM, Wd_swM, Wd_ite, Wd_map, v_kS_0, v_kS_b, v_kS_r, v_kO_r, v_kW_0, v_kW_1, v_kW_2, v_kW_r, v_kL_0, v_kL_1, v_kL_2, v_kL_r, v_kU_0, ups_11, upsN, upsA, upA_same, upA_neA, fl_at, fl_neA, v_sq_eq, v_sqM_0, v_sqM_r, v_sqM_b, v_sqM_n, sqM_ite, v_asI, v_asR, v_inc, v_pfI, v_pfZ, v_pfO, v_paI, v_paO, v_exI, v_iff, v_rtI, v_rtZ, v_rtV, v_sk, v_brk, v_cnt, v_blk_eq, v_blkM_some, blkM_ite, v_lI, v_lR, v_cI, v_gI, v_gR, v_op1, v_op2, v_arI, v_arR, v_alen, v_tern, v_cmp1, v_cmp2, v_cAnd, v_cOr, v_cNot, v_cTern, v_bn_some, bn_ite, v_bn_none, v_outV_r, v_outV_0, v_outV_n, outV_ite, List.getD_cons_zero, List.getD_cons_succ, List.set_cons_zero, List.set_cons_succ, List.take_succ_cons, List.take_zero, List.drop_succ_cons, List.drop_zero, List.nil_append, List.cons_append, Option.map_some, Option.map_none, if_true, if_false, reduceIte, reduceCtorEq, decide_eq_true_eq, Bool.not_eq_true', decide_eq_false_iff_not, decide_eq_true, decide_eq_false, decide_true, decide_false, and_self, and_true, true_and, or_self, stO, v_caV_, v_caV_i, v_caV_ii, v_caV_iii, v_caV_iiii, v_caV_iiiii, v_caV_il, v_caV_iil, v_caV_l, v_caV_ll, v_caV_r, v_caV_ri, v_caV_rii, v_caV_riii, v_caV_riiii, v_caV_ir, v_caV_iri, v_caV_iiri, v_caS_i, v_caS_ii, v_caS_iii, v_caS_iiii, v_caS_iiiiii, v_caS_il, v_caS_li, v_caS_ll, v_caS_lll, v_caS_ri, v_caS_riii, sh_239, sh_240, sh_241, sh_242, sh_243, sh_244, sh_245, sh_246, sh_247, sh_248, sh_249, sh_250, sh_251, sh_252, sh_253, rf_239_4, rf_239_5, rf_239_6, rf_239_7, rf_239_20, rf_239_21, rf_239_22, rf_239_23, rf_239_27, rf_239_28, rf_239_32, rf_239_33, rf_239_34, rf_239_35, Int.reduceLE, Int.reduceLT, Int.reduceToNat, Int.reduceAdd, Int.reduceSub, Int.reduceMul, Int.reduceNeg, Int.reduceEq, Int.reduceNe, Nat.reduceAdd, Nat.reduceMul, Nat.reduceLT, Nat.reduceEqDiff, or_true, true_or, or_false, false_or, and_false, false_and, not_true_eq_false, not_false_eq_true, ne_eq, cN4, cN5, cN6, cN7, cN13, cN30, cN60, cN64, cN100, cN136, cN240, cN384, cN900, cN2040, cN3, v_sw_eq, v_swM_0, v_swM_1, v_swM_r, v_swM_n, swM_ite, app_ite, ex_some, bI_0, bI_1, nn_iff, Int.toNat_natCast, Int.toNat_of_nonneg, Int.natCast_add, cN1, wI_id2, wL_id2, if_pos, if_neg]
  · simp (disch := omega) only [F_X3_cellAt, B_X3_cellAt, P_a hp, P_1 hp, P_2 hp, P_3 hp, P_4 hp, P_5 hp, P_6 hp, P_7 hp, P_8 hp, P_9 hp, P_10 hp, P_t hp, P_b hp, P_g hp, P_r8 hp, P_r10 hp, P_r12 hp, P_r13 hp, P_e2 hp, P_e3 hp, P_e4 hp, P_e5 hp, P_e6 hp, P_e7 hp, P_rt hp, P_rb hp, P_rg hp, H.1, H.2.1, H.2.2.1, H.2.2.2.1, H.2.2.2.2.1, H.2.2.2.2.2.1, H.2.2.2.2.2.2.1, H.2.2.2.2.2.2.2.1, H.2.2.2.2.2.2.2.2.1, H.2.2.2.2.2.2.2.2.2, Wd_some, Wd_bn, Wd_sqM, Wd_outV, Wd_blkM, Wd_swM, Wd_ite, Wd_map, v_kS_0, v_kS_b, v_kS_r, v_kO_r, v_kW_0, v_kW_1, v_kW_2, v_kW_r, v_kL_0, v_kL_1, v_kL_2, v_kL_r, v_kU_0, ups_11, upsN, upsA, upA_same, upA_neA, fl_at, fl_neA, v_sq_eq, v_sqM_0, v_sqM_r, v_sqM_b, v_sqM_n, sqM_ite, v_asI, v_asR, v_inc, v_pfI, v_pfZ, v_pfO, v_paI, v_paO, v_exI, v_iff, v_rtI, v_rtZ, v_rtV, v_sk, v_brk, v_cnt, v_blk_eq, v_blkM_some, blkM_ite, v_lI, v_lR, v_cI, v_gI, v_gR, v_op1, v_op2, v_arI, v_arR, v_alen, v_tern, v_cmp1, v_cmp2, v_cAnd, v_cOr, v_cNot, v_cTern, v_bn_some, bn_ite, v_bn_none, v_outV_r, v_outV_0, v_outV_n, outV_ite, List.getD_cons_zero, List.getD_cons_succ, List.set_cons_zero, List.set_cons_succ, List.take_succ_cons, List.take_zero, List.drop_succ_cons, List.drop_zero, List.nil_append, List.cons_append, Option.map_some, Option.map_none, if_true, if_false, reduceIte, reduceCtorEq, decide_eq_true_eq, Bool.not_eq_true', decide_eq_false_iff_not, decide_eq_true, decide_eq_false, decide_true, decide_false, and_self, and_true, true_and, or_self, stO, v_caV_, v_caV_i, v_caV_ii, v_caV_iii, v_caV_iiii, v_caV_iiiii, v_caV_il, v_caV_iil, v_caV_l, v_caV_ll, v_caV_r, v_caV_ri, v_caV_rii, v_caV_riii, v_caV_riiii, v_caV_ir, v_caV_iri, v_caV_iiri, v_caS_i, v_caS_ii, v_caS_iii, v_caS_iiii, v_caS_iiiiii, v_caS_il, v_caS_li, v_caS_ll, v_caS_lll, v_caS_ri, v_caS_riii, sh_239, sh_240, sh_241, sh_242, sh_243, sh_244, sh_245, sh_246, sh_247, sh_248, sh_249, sh_250, sh_251, sh_252, sh_253, rf_239_4, rf_239_5, rf_239_6, rf_239_7, rf_239_20, rf_239_21, rf_239_22, rf_239_23, rf_239_27, rf_239_28, rf_239_32, rf_239_33, rf_239_34, rf_239_35, Int.reduceLE, Int.reduceLT, Int.reduceToNat, Int.reduceAdd, Int.reduceSub, Int.reduceMul, Int.reduceNeg, Int.reduceEq, Int.reduceNe, Nat.reduceAdd, Nat.reduceMul, Nat.reduceLT, Nat.reduceEqDiff, or_true, true_or, or_false, false_or, and_false, false_and, not_true_eq_false, not_false_eq_true, ne_eq, cN4, cN5, cN6, cN7, cN13, cN30, cN60, cN64, cN100, cN136, cN240, cN384, cN900, cN2040, cN3, v_sw_eq, v_swM_0, v_swM_1, v_swM_r, v_swM_n, swM_ite, app_ite, ex_some, bI_0, bI_1, nn_iff, Int.toNat_natCast, Int.toNat_of_nonneg, Int.natCast_add, cN1, wI_id2, wL_id2, if_pos, if_neg]
    try unfold bI
    repeat' split
    all_goals first | rfl | omega | (exfalso; omega)
theorem k_tollOf (hp : isP a) (H : kH σ a c) (ht : kT σ a c w) (hw : WH c) {e : Int} (he : enB c e) : F_X3_tollOf a e σ = some (if e < 6 then c (16 + e).toNat else 0, σ) := by
  by_cases h6 : e = 6
  · simp (disch := omega) only [F_X3_tollOf, B_X3_tollOf, P_a hp, P_1 hp, P_2 hp, P_3 hp, P_4 hp, P_5 hp, P_6 hp, P_7 hp, P_8 hp, P_9 hp, P_10 hp, P_t hp, P_b hp, P_g hp, P_r8 hp, P_r10 hp, P_r12 hp, P_r13 hp, P_e2 hp, P_e3 hp, P_e4 hp, P_e5 hp, P_e6 hp, P_e7 hp, P_rt hp, P_rb hp, P_rg hp, H.1, H.2.1, H.2.2.1, H.2.2.2.1, H.2.2.2.2.1, H.2.2.2.2.2.1, H.2.2.2.2.2.2.1, H.2.2.2.2.2.2.2.1, H.2.2.2.2.2.2.2.2.1, H.2.2.2.2.2.2.2.2.2, k_hasTune hp H hw, h6, Wd_some, Wd_bn, Wd_sqM, Wd_outV, Wd_blkM, Wd_swM, Wd_ite, Wd_map, v_kS_0, v_kS_b, v_kS_r, v_kO_r, v_kW_0, v_kW_1, v_kW_2, v_kW_r, v_kL_0, v_kL_1, v_kL_2, v_kL_r, v_kU_0, ups_11, upsN, upsA, upA_same, upA_neA, fl_at, fl_neA, v_sq_eq, v_sqM_0, v_sqM_r, v_sqM_b, v_sqM_n, sqM_ite, v_asI, v_asR, v_inc, v_pfI, v_pfZ, v_pfO, v_paI, v_paO, v_exI, v_iff, v_rtI, v_rtZ, v_rtV, v_sk, v_brk, v_cnt, v_blk_eq, v_blkM_some, blkM_ite, v_lI, v_lR, v_cI, v_gI, v_gR, v_op1, v_op2, v_arI, v_arR, v_alen, v_tern, v_cmp1, v_cmp2, v_cAnd, v_cOr, v_cNot, v_cTern, v_bn_some, bn_ite, v_bn_none, v_outV_r, v_outV_0, v_outV_n, outV_ite, List.getD_cons_zero, List.getD_cons_succ, List.set_cons_zero, List.set_cons_succ, List.take_succ_cons, List.take_zero, List.drop_succ_cons, List.drop_zero, List.nil_append, List.cons_append, Option.map_some, Option.map_none, if_true, if_false, reduceIte, reduceCtorEq, decide_eq_true_eq, Bool.not_eq_true', decide_eq_false_iff_not, decide_eq_true, decide_eq_false, decide_true, decide_false, and_self, and_true, true_and, or_self, stO, v_caV_, v_caV_i, v_caV_ii, v_caV_iii, v_caV_iiii, v_caV_iiiii, v_caV_il, v_caV_iil, v_caV_l, v_caV_ll, v_caV_r, v_caV_ri, v_caV_rii, v_caV_riii, v_caV_riiii, v_caV_ir, v_caV_iri, v_caV_iiri, v_caS_i, v_caS_ii, v_caS_iii, v_caS_iiii, v_caS_iiiiii, v_caS_il, v_caS_li, v_caS_ll, v_caS_lll, v_caS_ri, v_caS_riii, sh_239, sh_240, sh_241, sh_242, sh_243, sh_244, sh_245, sh_246, sh_247, sh_248, sh_249, sh_250, sh_251, sh_252, sh_253, rf_239_4, rf_239_5, rf_239_6, rf_239_7, rf_239_20, rf_239_21, rf_239_22, rf_239_23, rf_239_27, rf_239_28, rf_239_32, rf_239_33, rf_239_34, rf_239_35, Int.reduceLE, Int.reduceLT, Int.reduceToNat, Int.reduceAdd, Int.reduceSub, Int.reduceMul, Int.reduceNeg, Int.reduceEq, Int.reduceNe, Nat.reduceAdd, Nat.reduceMul, Nat.reduceLT, Nat.reduceEqDiff, or_true, true_or, or_false, false_or, and_false, false_and, not_true_eq_false, not_false_eq_true, ne_eq, cN4, cN5, cN6, cN7, cN13, cN30, cN60, cN64, cN100, cN136, cN240, cN384, cN900, cN2040, cN3, v_sw_eq, v_swM_0, v_swM_1, v_swM_r, v_swM_n, swM_ite, app_ite, ex_some, bI_0, bI_1, nn_iff, Int.toNat_natCast, Int.toNat_of_nonneg, Int.natCast_add, cN1, wI_id2, wL_id2, if_pos, if_neg]
  · simp (disch := omega) only [F_X3_tollOf, B_X3_tollOf, P_a hp, P_1 hp, P_2 hp, P_3 hp, P_4 hp, P_5 hp, P_6 hp, P_7 hp, P_8 hp, P_9 hp, P_10 hp, P_t hp, P_b hp, P_g hp, P_r8 hp, P_r10 hp, P_r12 hp, P_r13 hp, P_e2 hp, P_e3 hp, P_e4 hp, P_e5 hp, P_e6 hp, P_e7 hp, P_rt hp, P_rb hp, P_rg hp, H.1, H.2.1, H.2.2.1, H.2.2.2.1, H.2.2.2.2.1, H.2.2.2.2.2.1, H.2.2.2.2.2.2.1, H.2.2.2.2.2.2.2.1, H.2.2.2.2.2.2.2.2.1, H.2.2.2.2.2.2.2.2.2, k_hasTune hp H hw, kT_2 ht, Wd_some, Wd_bn, Wd_sqM, Wd_outV, Wd_blkM, Wd_swM, Wd_ite, Wd_map, v_kS_0, v_kS_b, v_kS_r, v_kO_r, v_kW_0, v_kW_1, v_kW_2, v_kW_r, v_kL_0, v_kL_1, v_kL_2, v_kL_r, v_kU_0, ups_11, upsN, upsA, upA_same, upA_neA, fl_at, fl_neA, v_sq_eq, v_sqM_0, v_sqM_r, v_sqM_b, v_sqM_n, sqM_ite, v_asI, v_asR, v_inc, v_pfI, v_pfZ, v_pfO, v_paI, v_paO, v_exI, v_iff, v_rtI, v_rtZ, v_rtV, v_sk, v_brk, v_cnt, v_blk_eq, v_blkM_some, blkM_ite, v_lI, v_lR, v_cI, v_gI, v_gR, v_op1, v_op2, v_arI, v_arR, v_alen, v_tern, v_cmp1, v_cmp2, v_cAnd, v_cOr, v_cNot, v_cTern, v_bn_some, bn_ite, v_bn_none, v_outV_r, v_outV_0, v_outV_n, outV_ite, List.getD_cons_zero, List.getD_cons_succ, List.set_cons_zero, List.set_cons_succ, List.take_succ_cons, List.take_zero, List.drop_succ_cons, List.drop_zero, List.nil_append, List.cons_append, Option.map_some, Option.map_none, if_true, if_false, reduceIte, reduceCtorEq, decide_eq_true_eq, Bool.not_eq_true', decide_eq_false_iff_not, decide_eq_true, decide_eq_false, decide_true, decide_false, and_self, and_true, true_and, or_self, stO, v_caV_, v_caV_i, v_caV_ii, v_caV_iii, v_caV_iiii, v_caV_iiiii, v_caV_il, v_caV_iil, v_caV_l, v_caV_ll, v_caV_r, v_caV_ri, v_caV_rii, v_caV_riii, v_caV_riiii, v_caV_ir, v_caV_iri, v_caV_iiri, v_caS_i, v_caS_ii, v_caS_iii, v_caS_iiii, v_caS_iiiiii, v_caS_il, v_caS_li, v_caS_ll, v_caS_lll, v_caS_ri, v_caS_riii, sh_239, sh_240, sh_241, sh_242, sh_243, sh_244, sh_245, sh_246, sh_247, sh_248, sh_249, sh_250, sh_251, sh_252, sh_253, rf_239_4, rf_239_5, rf_239_6, rf_239_7, rf_239_20, rf_239_21, rf_239_22, rf_239_23, rf_239_27, rf_239_28, rf_239_32, rf_239_33, rf_239_34, rf_239_35, Int.reduceLE, Int.reduceLT, Int.reduceToNat, Int.reduceAdd, Int.reduceSub, Int.reduceMul, Int.reduceNeg, Int.reduceEq, Int.reduceNe, Nat.reduceAdd, Nat.reduceMul, Nat.reduceLT, Nat.reduceEqDiff, or_true, true_or, or_false, false_or, and_false, false_and, not_true_eq_false, not_false_eq_true, ne_eq, cN4, cN5, cN6, cN7, cN13, cN30, cN60, cN64, cN100, cN136, cN240, cN384, cN900, cN2040, cN3, v_sw_eq, v_swM_0, v_swM_1, v_swM_r, v_swM_n, swM_ite, app_ite, ex_some, bI_0, bI_1, nn_iff, Int.toNat_natCast, Int.toNat_of_nonneg, Int.natCast_add, cN1, wI_id2, wL_id2, if_pos, if_neg]
theorem k_wantedIn (hp : isP a) (H : kH σ a c) (hb : kB σ a c w) (hw : WH c) (hd : WD c) {b : Nat} (b1 : (b : Int) < c 3) {h : Int} (hh : 0 ≤ h) : F_X0_wantedIn (a + 17 + 2 * b) h σ = some (wantB c b h, σ) := by
  have d1 := (hd b (by omega) b1).1
  unfold wantB
  by_cases h0 : c (64 + (b : Int)).toNat = 0
  · simp (disch := omega) only [F_X0_wantedIn, B_X0_wantedIn, P_a hp, P_1 hp, P_2 hp, P_3 hp, P_4 hp, P_5 hp, P_6 hp, P_7 hp, P_8 hp, P_9 hp, P_10 hp, P_t hp, P_b hp, P_g hp, P_r8 hp, P_r10 hp, P_r12 hp, P_r13 hp, P_e2 hp, P_e3 hp, P_e4 hp, P_e5 hp, P_e6 hp, P_e7 hp, P_rt hp, P_rb hp, P_rg hp, kB_7 hb, h0, Wd_some, Wd_bn, Wd_sqM, Wd_outV, Wd_blkM, Wd_swM, Wd_ite, Wd_map, v_kS_0, v_kS_b, v_kS_r, v_kO_r, v_kW_0, v_kW_1, v_kW_2, v_kW_r, v_kL_0, v_kL_1, v_kL_2, v_kL_r, v_kU_0, ups_11, upsN, upsA, upA_same, upA_neA, fl_at, fl_neA, v_sq_eq, v_sqM_0, v_sqM_r, v_sqM_b, v_sqM_n, sqM_ite, v_asI, v_asR, v_inc, v_pfI, v_pfZ, v_pfO, v_paI, v_paO, v_exI, v_iff, v_rtI, v_rtZ, v_rtV, v_sk, v_brk, v_cnt, v_blk_eq, v_blkM_some, blkM_ite, v_lI, v_lR, v_cI, v_gI, v_gR, v_op1, v_op2, v_arI, v_arR, v_alen, v_tern, v_cmp1, v_cmp2, v_cAnd, v_cOr, v_cNot, v_cTern, v_bn_some, bn_ite, v_bn_none, v_outV_r, v_outV_0, v_outV_n, outV_ite, List.getD_cons_zero, List.getD_cons_succ, List.set_cons_zero, List.set_cons_succ, List.take_succ_cons, List.take_zero, List.drop_succ_cons, List.drop_zero, List.nil_append, List.cons_append, Option.map_some, Option.map_none, if_true, if_false, reduceIte, reduceCtorEq, decide_eq_true_eq, Bool.not_eq_true', decide_eq_false_iff_not, decide_eq_true, decide_eq_false, decide_true, decide_false, and_self, and_true, true_and, or_self, stO, v_caV_, v_caV_i, v_caV_ii, v_caV_iii, v_caV_iiii, v_caV_iiiii, v_caV_il, v_caV_iil, v_caV_l, v_caV_ll, v_caV_r, v_caV_ri, v_caV_rii, v_caV_riii, v_caV_riiii, v_caV_ir, v_caV_iri, v_caV_iiri, v_caS_i, v_caS_ii, v_caS_iii, v_caS_iiii, v_caS_iiiiii, v_caS_il, v_caS_li, v_caS_ll, v_caS_lll, v_caS_ri, v_caS_riii, sh_239, sh_240, sh_241, sh_242, sh_243, sh_244, sh_245, sh_246, sh_247, sh_248, sh_249, sh_250, sh_251, sh_252, sh_253, rf_239_4, rf_239_5, rf_239_6, rf_239_7, rf_239_20, rf_239_21, rf_239_22, rf_239_23, rf_239_27, rf_239_28, rf_239_32, rf_239_33, rf_239_34, rf_239_35, Int.reduceLE, Int.reduceLT, Int.reduceToNat, Int.reduceAdd, Int.reduceSub, Int.reduceMul, Int.reduceNeg, Int.reduceEq, Int.reduceNe, Nat.reduceAdd, Nat.reduceMul, Nat.reduceLT, Nat.reduceEqDiff, or_true, true_or, or_false, false_or, and_false, false_and, not_true_eq_false, not_false_eq_true, ne_eq, cN4, cN5, cN6, cN7, cN13, cN30, cN60, cN64, cN100, cN136, cN240, cN384, cN900, cN2040, cN3, v_sw_eq, v_swM_0, v_swM_1, v_swM_r, v_swM_n, swM_ite, app_ite, ex_some, bI_0, bI_1, nn_iff, Int.toNat_natCast, Int.toNat_of_nonneg, Int.natCast_add, cN1, wI_id2, wL_id2, if_pos, if_neg]
  · obtain ⟨t1, t2, t3⟩ := tm_range hh (show 0 < c (64 + (b : Int)).toNat by omega)
    simp (disch := omega) only [F_X0_wantedIn, B_X0_wantedIn, P_a hp, P_1 hp, P_2 hp, P_3 hp, P_4 hp, P_5 hp, P_6 hp, P_7 hp, P_8 hp, P_9 hp, P_10 hp, P_t hp, P_b hp, P_g hp, P_r8 hp, P_r10 hp, P_r12 hp, P_r13 hp, P_e2 hp, P_e3 hp, P_e4 hp, P_e5 hp, P_e6 hp, P_e7 hp, P_rt hp, P_rb hp, P_rg hp, kB_7 hb, h0, t1, kB_e hb, Wd_some, Wd_bn, Wd_sqM, Wd_outV, Wd_blkM, Wd_swM, Wd_ite, Wd_map, v_kS_0, v_kS_b, v_kS_r, v_kO_r, v_kW_0, v_kW_1, v_kW_2, v_kW_r, v_kL_0, v_kL_1, v_kL_2, v_kL_r, v_kU_0, ups_11, upsN, upsA, upA_same, upA_neA, fl_at, fl_neA, v_sq_eq, v_sqM_0, v_sqM_r, v_sqM_b, v_sqM_n, sqM_ite, v_asI, v_asR, v_inc, v_pfI, v_pfZ, v_pfO, v_paI, v_paO, v_exI, v_iff, v_rtI, v_rtZ, v_rtV, v_sk, v_brk, v_cnt, v_blk_eq, v_blkM_some, blkM_ite, v_lI, v_lR, v_cI, v_gI, v_gR, v_op1, v_op2, v_arI, v_arR, v_alen, v_tern, v_cmp1, v_cmp2, v_cAnd, v_cOr, v_cNot, v_cTern, v_bn_some, bn_ite, v_bn_none, v_outV_r, v_outV_0, v_outV_n, outV_ite, List.getD_cons_zero, List.getD_cons_succ, List.set_cons_zero, List.set_cons_succ, List.take_succ_cons, List.take_zero, List.drop_succ_cons, List.drop_zero, List.nil_append, List.cons_append, Option.map_some, Option.map_none, if_true, if_false, reduceIte, reduceCtorEq, decide_eq_true_eq, Bool.not_eq_true', decide_eq_false_iff_not, decide_eq_true, decide_eq_false, decide_true, decide_false, and_self, and_true, true_and, or_self, stO, v_caV_, v_caV_i, v_caV_ii, v_caV_iii, v_caV_iiii, v_caV_iiiii, v_caV_il, v_caV_iil, v_caV_l, v_caV_ll, v_caV_r, v_caV_ri, v_caV_rii, v_caV_riii, v_caV_riiii, v_caV_ir, v_caV_iri, v_caV_iiri, v_caS_i, v_caS_ii, v_caS_iii, v_caS_iiii, v_caS_iiiiii, v_caS_il, v_caS_li, v_caS_ll, v_caS_lll, v_caS_ri, v_caS_riii, sh_239, sh_240, sh_241, sh_242, sh_243, sh_244, sh_245, sh_246, sh_247, sh_248, sh_249, sh_250, sh_251, sh_252, sh_253, rf_239_4, rf_239_5, rf_239_6, rf_239_7, rf_239_20, rf_239_21, rf_239_22, rf_239_23, rf_239_27, rf_239_28, rf_239_32, rf_239_33, rf_239_34, rf_239_35, Int.reduceLE, Int.reduceLT, Int.reduceToNat, Int.reduceAdd, Int.reduceSub, Int.reduceMul, Int.reduceNeg, Int.reduceEq, Int.reduceNe, Nat.reduceAdd, Nat.reduceMul, Nat.reduceLT, Nat.reduceEqDiff, or_true, true_or, or_false, false_or, and_false, false_and, not_true_eq_false, not_false_eq_true, ne_eq, cN4, cN5, cN6, cN7, cN13, cN30, cN60, cN64, cN100, cN136, cN240, cN384, cN900, cN2040, cN3, v_sw_eq, v_swM_0, v_swM_1, v_swM_r, v_swM_n, swM_ite, app_ite, ex_some, bI_0, bI_1, nn_iff, Int.toNat_natCast, Int.toNat_of_nonneg, Int.natCast_add, cN1, wI_id2, wL_id2, if_pos, if_neg]
theorem k_lipsAfter (hp : isP a) (hb : kB σ a c w) {b : Nat} (b1 : (b : Int) < c 3) (hd : WD c) (be : Int) (hp2 : Int) (toll rest : Int) (h1 : 0 ≤ be ∧ be ≤ 200) (h2 : 0 ≤ toll ∧ toll ≤ 9) (h3 : 0 ≤ rest ∧ rest ≤ 9) : F_X0_lipsAfter (a + 17 + 2 * b) be hp2 toll rest σ = some (if ¬ hp2 = 0 then be - toll else if be + rest < c (52 + (b : Int)).toNat then be + rest else c (52 + (b : Int)).toNat, σ) := by
  have d1 := (hd b (by omega) b1).1
  simp (disch := omega) only [F_X0_lipsAfter, B_X0_lipsAfter, P_a hp, P_1 hp, P_2 hp, P_3 hp, P_4 hp, P_5 hp, P_6 hp, P_7 hp, P_8 hp, P_9 hp, P_10 hp, P_t hp, P_b hp, P_g hp, P_r8 hp, P_r10 hp, P_r12 hp, P_r13 hp, P_e2 hp, P_e3 hp, P_e4 hp, P_e5 hp, P_e6 hp, P_e7 hp, P_rt hp, P_rb hp, P_rg hp, kB_5 hb, Wd_some, Wd_bn, Wd_sqM, Wd_outV, Wd_blkM, Wd_swM, Wd_ite, Wd_map, v_kS_0, v_kS_b, v_kS_r, v_kO_r, v_kW_0, v_kW_1, v_kW_2, v_kW_r, v_kL_0, v_kL_1, v_kL_2, v_kL_r, v_kU_0, ups_11, upsN, upsA, upA_same, upA_neA, fl_at, fl_neA, v_sq_eq, v_sqM_0, v_sqM_r, v_sqM_b, v_sqM_n, sqM_ite, v_asI, v_asR, v_inc, v_pfI, v_pfZ, v_pfO, v_paI, v_paO, v_exI, v_iff, v_rtI, v_rtZ, v_rtV, v_sk, v_brk, v_cnt, v_blk_eq, v_blkM_some, blkM_ite, v_lI, v_lR, v_cI, v_gI, v_gR, v_op1, v_op2, v_arI, v_arR, v_alen, v_tern, v_cmp1, v_cmp2, v_cAnd, v_cOr, v_cNot, v_cTern, v_bn_some, bn_ite, v_bn_none, v_outV_r, v_outV_0, v_outV_n, outV_ite, List.getD_cons_zero, List.getD_cons_succ, List.set_cons_zero, List.set_cons_succ, List.take_succ_cons, List.take_zero, List.drop_succ_cons, List.drop_zero, List.nil_append, List.cons_append, Option.map_some, Option.map_none, if_true, if_false, reduceIte, reduceCtorEq, decide_eq_true_eq, Bool.not_eq_true', decide_eq_false_iff_not, decide_eq_true, decide_eq_false, decide_true, decide_false, and_self, and_true, true_and, or_self, stO, v_caV_, v_caV_i, v_caV_ii, v_caV_iii, v_caV_iiii, v_caV_iiiii, v_caV_il, v_caV_iil, v_caV_l, v_caV_ll, v_caV_r, v_caV_ri, v_caV_rii, v_caV_riii, v_caV_riiii, v_caV_ir, v_caV_iri, v_caV_iiri, v_caS_i, v_caS_ii, v_caS_iii, v_caS_iiii, v_caS_iiiiii, v_caS_il, v_caS_li, v_caS_ll, v_caS_lll, v_caS_ri, v_caS_riii, sh_239, sh_240, sh_241, sh_242, sh_243, sh_244, sh_245, sh_246, sh_247, sh_248, sh_249, sh_250, sh_251, sh_252, sh_253, rf_239_4, rf_239_5, rf_239_6, rf_239_7, rf_239_20, rf_239_21, rf_239_22, rf_239_23, rf_239_27, rf_239_28, rf_239_32, rf_239_33, rf_239_34, rf_239_35, Int.reduceLE, Int.reduceLT, Int.reduceToNat, Int.reduceAdd, Int.reduceSub, Int.reduceMul, Int.reduceNeg, Int.reduceEq, Int.reduceNe, Nat.reduceAdd, Nat.reduceMul, Nat.reduceLT, Nat.reduceEqDiff, or_true, true_or, or_false, false_or, and_false, false_and, not_true_eq_false, not_false_eq_true, ne_eq, cN4, cN5, cN6, cN7, cN13, cN30, cN60, cN64, cN100, cN136, cN240, cN384, cN900, cN2040, cN3, v_sw_eq, v_swM_0, v_swM_1, v_swM_r, v_swM_n, swM_ite, app_ite, ex_some, bI_0, bI_1, nn_iff, Int.toNat_natCast, Int.toNat_of_nonneg, Int.natCast_add, cN1, wI_id2, wL_id2, if_pos, if_neg]
  trace_state
  try unfold bI
  repeat' split
  all_goals first | rfl | omega | (exfalso; omega)
end KR
/-! the class: who is heard where -/
theorem kH_c {σ σ' : SS} {a : Nat} {c : Nat → Int} (h : σ' a = σ a) (H : kH σ a c) : kH σ' a c := by unfold kH; rw [h]; exact H
theorem kB_c {σ σ' : SS} {a : Nat} {c w : Nat → Int} (h : ∀ x, a < x → x < a + 29 → σ' x = σ x) (hw : WH c) (H : kB σ a c w) : kB σ' a c w := by
  intro b hb
  rw [h (a + 17 + 2 * b) (by omega) (by omega), h (a + 18 + 2 * b) (by omega) (by omega)]
  exact H b hb
theorem kT_c {σ σ' : SS} {a : Nat} {c w : Nat → Int} (h : ∀ x, a < x → x < a + 29 → σ' x = σ x) (hw : WH c) (H : kT σ a c w) : kT σ' a c w := by
  intro b hb
  rw [h (a + 11 + b) (by omega) (by omega)]
  exact H b hb
theorem kP_c {σ σ' : SS} {a : Nat} {c : Nat → Int} (h : ∀ x, a < x → x < a + 29 → σ' x = σ x) (H : kP σ a c) : kP σ' a c := by
  intro b hb
  rw [h (a + 1) (by omega) (by omega)]
  exact H b hb
theorem cell_rng {c : Nat → Int} (hw : WH c) {k : Nat} (hk : (k : Int) < c 0 * c 1) : 0 < c 0 ∧ (0 ≤ (k : Int) % c 0 ∧ (k : Int) % c 0 < c 0) ∧ (0 ≤ (k : Int) / c 0 ∧ (k : Int) / c 0 < c 1) ∧ k < 30 := by
  have m := mul_bd (show 0 ≤ c 0 by omega) (show c 0 ≤ 6 by omega) (show 0 ≤ c 1 by omega) (show c 1 ≤ 5 by omega)
  have h0 : c 0 ≠ 0 := by
    intro h
    rw [h, Int.zero_mul] at hk
    omega
  refine ⟨by omega, ⟨Int.emod_nonneg _ h0, Int.emod_lt_of_pos _ (by omega)⟩, ⟨Int.ediv_nonneg (by omega) (by omega), ?_⟩, by omega⟩
  exact Int.ediv_lt_of_lt_mul (by omega) (by rw [Int.mul_comm]; exact hk)
section KS
variable {σ : SS} {s : Nat} {c w : Nat → Int}
theorem k_lossAlong (hs : isS s) (H : kH σ (s + 1) c) (hw : WH c) {d up dn : Int} (hd : -6 ≤ d ∧ d ≤ 6) (hu : (up = 0 ∧ dn = 2) ∨ (up = 1 ∧ dn = 3)) : F_X6_lossAlong (s + 30) d up dn σ = some (fadeB c (absB d) (if 0 < d then up else dn), σ) := by
  by_cases h0 : 0 < d
  · have p1 := mul_bd (show 0 ≤ d by omega) (show d ≤ 6 by omega) (show 0 ≤ c 4 by omega) (show c 4 ≤ 9 by omega)
    have p2 := mul_bd (show 0 ≤ d by omega) (show d ≤ 6 by omega) (show 0 ≤ c 4 + 1 by omega) (show c 4 + 1 ≤ 10 by omega)
    have p3 : -6 ≤ d * (c 4 - 1) ∧ d * (c 4 - 1) ≤ 60 := by rw [Int.mul_sub, Int.mul_one]; omega
    have a1 : absB d = d := if_pos (by omega)
    rw [if_pos h0, a1]
    unfold fadeB
    rcases hu with ⟨hu, hn⟩ | ⟨hu, hn⟩ <;> subst hu <;> subst hn
    all_goals simp (disch := omega) only [F_X6_lossAlong, B_X6_lossAlong, S_s hs, S_r0 hs, S_r1 hs, S_r2 hs, S_q hs, S_q0 hs, S_q1 hs, S_q2 hs, S_q3 hs, S_q4 hs, S_l hs, S_k hs, S_w hs, S_n hs, S_y hs, S_rl hs, S_sl hs, P_a (S_P hs), P_1 (S_P hs), P_2 (S_P hs), P_3 (S_P hs), P_4 (S_P hs), P_5 (S_P hs), P_6 (S_P hs), P_7 (S_P hs), P_8 (S_P hs), P_9 (S_P hs), P_10 (S_P hs), P_t (S_P hs), P_b (S_P hs), P_g (S_P hs), P_r8 (S_P hs), P_r10 (S_P hs), P_r12 (S_P hs), P_r13 (S_P hs), P_e2 (S_P hs), P_e3 (S_P hs), P_e4 (S_P hs), P_e5 (S_P hs), P_e6 (S_P hs), P_e7 (S_P hs), P_rt (S_P hs), P_rb (S_P hs), P_rg (S_P hs), H.1, H.2.1, H.2.2.1, H.2.2.2.1, H.2.2.2.2.1, H.2.2.2.2.2.1, H.2.2.2.2.2.2.1, H.2.2.2.2.2.2.2.1, H.2.2.2.2.2.2.2.2.1, H.2.2.2.2.2.2.2.2.2, Int.reduceMod, Wd_some, Wd_bn, Wd_sqM, Wd_outV, Wd_blkM, Wd_swM, Wd_ite, Wd_map, v_kS_0, v_kS_b, v_kS_r, v_kO_r, v_kW_0, v_kW_1, v_kW_2, v_kW_r, v_kL_0, v_kL_1, v_kL_2, v_kL_r, v_kU_0, ups_11, upsN, upsA, upA_same, upA_neA, fl_at, fl_neA, v_sq_eq, v_sqM_0, v_sqM_r, v_sqM_b, v_sqM_n, sqM_ite, v_asI, v_asR, v_inc, v_pfI, v_pfZ, v_pfO, v_paI, v_paO, v_exI, v_iff, v_rtI, v_rtZ, v_rtV, v_sk, v_brk, v_cnt, v_blk_eq, v_blkM_some, blkM_ite, v_lI, v_lR, v_cI, v_gI, v_gR, v_op1, v_op2, v_arI, v_arR, v_alen, v_tern, v_cmp1, v_cmp2, v_cAnd, v_cOr, v_cNot, v_cTern, v_bn_some, bn_ite, v_bn_none, v_outV_r, v_outV_0, v_outV_n, outV_ite, List.getD_cons_zero, List.getD_cons_succ, List.set_cons_zero, List.set_cons_succ, List.take_succ_cons, List.take_zero, List.drop_succ_cons, List.drop_zero, List.nil_append, List.cons_append, Option.map_some, Option.map_none, if_true, if_false, reduceIte, reduceCtorEq, decide_eq_true_eq, Bool.not_eq_true', decide_eq_false_iff_not, decide_eq_true, decide_eq_false, decide_true, decide_false, and_self, and_true, true_and, or_self, stO, v_caV_, v_caV_i, v_caV_ii, v_caV_iii, v_caV_iiii, v_caV_iiiii, v_caV_il, v_caV_iil, v_caV_l, v_caV_ll, v_caV_r, v_caV_ri, v_caV_rii, v_caV_riii, v_caV_riiii, v_caV_ir, v_caV_iri, v_caV_iiri, v_caS_i, v_caS_ii, v_caS_iii, v_caS_iiii, v_caS_iiiiii, v_caS_il, v_caS_li, v_caS_ll, v_caS_lll, v_caS_ri, v_caS_riii, sh_239, sh_240, sh_241, sh_242, sh_243, sh_244, sh_245, sh_246, sh_247, sh_248, sh_249, sh_250, sh_251, sh_252, sh_253, rf_239_4, rf_239_5, rf_239_6, rf_239_7, rf_239_20, rf_239_21, rf_239_22, rf_239_23, rf_239_27, rf_239_28, rf_239_32, rf_239_33, rf_239_34, rf_239_35, Int.reduceLE, Int.reduceLT, Int.reduceToNat, Int.reduceAdd, Int.reduceSub, Int.reduceMul, Int.reduceNeg, Int.reduceEq, Int.reduceNe, Nat.reduceAdd, Nat.reduceMul, Nat.reduceLT, Nat.reduceEqDiff, or_true, true_or, or_false, false_or, and_false, false_and, not_true_eq_false, not_false_eq_true, ne_eq, cN4, cN5, cN6, cN7, cN13, cN30, cN60, cN64, cN100, cN136, cN240, cN384, cN900, cN2040, cN3, v_sw_eq, v_swM_0, v_swM_1, v_swM_r, v_swM_n, swM_ite, app_ite, ex_some, bI_0, bI_1, nn_iff, Int.toNat_natCast, Int.toNat_of_nonneg, Int.natCast_add, cN1, wI_id2, wL_id2, if_pos, if_neg]
    all_goals repeat' split
    all_goals first | rfl | (exfalso; omega) | (rw [show c 4 = 1 by omega]; done) | (rw [show c 4 = 1 by omega]; rfl) | (rw [show c 4 = 0 by omega]; done) | (rw [show c 4 = 0 by omega]; rfl)
  · have p1 := mul_bd (show 0 ≤ -d by omega) (show -d ≤ 6 by omega) (show 0 ≤ c 4 by omega) (show c 4 ≤ 9 by omega)
    have p2 := mul_bd (show 0 ≤ -d by omega) (show -d ≤ 6 by omega) (show 0 ≤ c 4 + 1 by omega) (show c 4 + 1 ≤ 10 by omega)
    have p3 : -6 ≤ -d * (c 4 - 1) ∧ -d * (c 4 - 1) ≤ 60 := by rw [Int.mul_sub, Int.mul_one]; omega
    have a1 : absB d = -d := by unfold absB; split <;> omega
    rw [if_neg h0, a1]
    unfold fadeB
    rcases hu with ⟨hu, hn⟩ | ⟨hu, hn⟩ <;> subst hu <;> subst hn
    all_goals simp (disch := omega) only [F_X6_lossAlong, B_X6_lossAlong, S_s hs, S_r0 hs, S_r1 hs, S_r2 hs, S_q hs, S_q0 hs, S_q1 hs, S_q2 hs, S_q3 hs, S_q4 hs, S_l hs, S_k hs, S_w hs, S_n hs, S_y hs, S_rl hs, S_sl hs, P_a (S_P hs), P_1 (S_P hs), P_2 (S_P hs), P_3 (S_P hs), P_4 (S_P hs), P_5 (S_P hs), P_6 (S_P hs), P_7 (S_P hs), P_8 (S_P hs), P_9 (S_P hs), P_10 (S_P hs), P_t (S_P hs), P_b (S_P hs), P_g (S_P hs), P_r8 (S_P hs), P_r10 (S_P hs), P_r12 (S_P hs), P_r13 (S_P hs), P_e2 (S_P hs), P_e3 (S_P hs), P_e4 (S_P hs), P_e5 (S_P hs), P_e6 (S_P hs), P_e7 (S_P hs), P_rt (S_P hs), P_rb (S_P hs), P_rg (S_P hs), H.1, H.2.1, H.2.2.1, H.2.2.2.1, H.2.2.2.2.1, H.2.2.2.2.2.1, H.2.2.2.2.2.2.1, H.2.2.2.2.2.2.2.1, H.2.2.2.2.2.2.2.2.1, H.2.2.2.2.2.2.2.2.2, Int.reduceMod, Wd_some, Wd_bn, Wd_sqM, Wd_outV, Wd_blkM, Wd_swM, Wd_ite, Wd_map, v_kS_0, v_kS_b, v_kS_r, v_kO_r, v_kW_0, v_kW_1, v_kW_2, v_kW_r, v_kL_0, v_kL_1, v_kL_2, v_kL_r, v_kU_0, ups_11, upsN, upsA, upA_same, upA_neA, fl_at, fl_neA, v_sq_eq, v_sqM_0, v_sqM_r, v_sqM_b, v_sqM_n, sqM_ite, v_asI, v_asR, v_inc, v_pfI, v_pfZ, v_pfO, v_paI, v_paO, v_exI, v_iff, v_rtI, v_rtZ, v_rtV, v_sk, v_brk, v_cnt, v_blk_eq, v_blkM_some, blkM_ite, v_lI, v_lR, v_cI, v_gI, v_gR, v_op1, v_op2, v_arI, v_arR, v_alen, v_tern, v_cmp1, v_cmp2, v_cAnd, v_cOr, v_cNot, v_cTern, v_bn_some, bn_ite, v_bn_none, v_outV_r, v_outV_0, v_outV_n, outV_ite, List.getD_cons_zero, List.getD_cons_succ, List.set_cons_zero, List.set_cons_succ, List.take_succ_cons, List.take_zero, List.drop_succ_cons, List.drop_zero, List.nil_append, List.cons_append, Option.map_some, Option.map_none, if_true, if_false, reduceIte, reduceCtorEq, decide_eq_true_eq, Bool.not_eq_true', decide_eq_false_iff_not, decide_eq_true, decide_eq_false, decide_true, decide_false, and_self, and_true, true_and, or_self, stO, v_caV_, v_caV_i, v_caV_ii, v_caV_iii, v_caV_iiii, v_caV_iiiii, v_caV_il, v_caV_iil, v_caV_l, v_caV_ll, v_caV_r, v_caV_ri, v_caV_rii, v_caV_riii, v_caV_riiii, v_caV_ir, v_caV_iri, v_caV_iiri, v_caS_i, v_caS_ii, v_caS_iii, v_caS_iiii, v_caS_iiiiii, v_caS_il, v_caS_li, v_caS_ll, v_caS_lll, v_caS_ri, v_caS_riii, sh_239, sh_240, sh_241, sh_242, sh_243, sh_244, sh_245, sh_246, sh_247, sh_248, sh_249, sh_250, sh_251, sh_252, sh_253, rf_239_4, rf_239_5, rf_239_6, rf_239_7, rf_239_20, rf_239_21, rf_239_22, rf_239_23, rf_239_27, rf_239_28, rf_239_32, rf_239_33, rf_239_34, rf_239_35, Int.reduceLE, Int.reduceLT, Int.reduceToNat, Int.reduceAdd, Int.reduceSub, Int.reduceMul, Int.reduceNeg, Int.reduceEq, Int.reduceNe, Nat.reduceAdd, Nat.reduceMul, Nat.reduceLT, Nat.reduceEqDiff, or_true, true_or, or_false, false_or, and_false, false_and, not_true_eq_false, not_false_eq_true, ne_eq, cN4, cN5, cN6, cN7, cN13, cN30, cN60, cN64, cN100, cN136, cN240, cN384, cN900, cN2040, cN3, v_sw_eq, v_swM_0, v_swM_1, v_swM_r, v_swM_n, swM_ite, app_ite, ex_some, bI_0, bI_1, nn_iff, Int.toNat_natCast, Int.toNat_of_nonneg, Int.natCast_add, cN1, wI_id2, wL_id2, if_pos, if_neg]
    all_goals repeat' split
    all_goals first | rfl | (exfalso; omega) | (rw [show c 4 = 1 by omega]; done) | (rw [show c 4 = 1 by omega]; rfl) | (rw [show c 4 = 0 by omega]; done) | (rw [show c 4 = 0 by omega]; rfl)
/-- the table of what is lost on the way, for the first n bands -/
def LossT (s : Nat) (c : Nat → Int) (n : Int) (σ : SS) : Prop := ∀ b k : Nat, (b : Int) < n → (k : Int) < c 0 * c 1 → σ (s + 32 + b) k = lossB c b ((k : Int) % c 0) ((k : Int) / c 0)
theorem kl_refresh0 (hs : isS s) (x2 x3 x4 x5 : Int) : L_X6_refresh_0 ([0, 0, x2, x3, x4, x5], [s + 30, 0, 0, 0, 0, 0], σ) = some (.inl 0, ([0, 64, x2, x3, x4, x5], [s + 30, 0, 0, 0, 0, 0], fl σ (s + 38) 64 (fun _ => -1))) := by
  refine Wd_out ?_
  unfold L_X6_refresh_0
  refine Wd_it (fun i z => z = ([0, (i : Int), x2, x3, x4, x5], [s + 30, 0, 0, 0, 0, 0], fl σ (s + 38) i (fun _ => -1))) 64 ?_ ?_ ?_
  · rw [fl_0]; rfl
  · intro i z hi hz
    subst hz
    simp (disch := omega) only [C_X6_refresh_0, D_X6_refresh_0, U_X6_refresh_0, S_s hs, S_r0 hs, S_r1 hs, S_r2 hs, S_q hs, S_q0 hs, S_q1 hs, S_q2 hs, S_q3 hs, S_q4 hs, S_l hs, S_k hs, S_w hs, S_n hs, S_y hs, S_rl hs, S_sl hs, P_a (S_P hs), P_1 (S_P hs), P_2 (S_P hs), P_3 (S_P hs), P_4 (S_P hs), P_5 (S_P hs), P_6 (S_P hs), P_7 (S_P hs), P_8 (S_P hs), P_9 (S_P hs), P_10 (S_P hs), P_t (S_P hs), P_b (S_P hs), P_g (S_P hs), P_r8 (S_P hs), P_r10 (S_P hs), P_r12 (S_P hs), P_r13 (S_P hs), P_e2 (S_P hs), P_e3 (S_P hs), P_e4 (S_P hs), P_e5 (S_P hs), P_e6 (S_P hs), P_e7 (S_P hs), P_rt (S_P hs), P_rb (S_P hs), P_rg (S_P hs), Wd_some, Wd_bn, Wd_sqM, Wd_outV, Wd_blkM, Wd_swM, Wd_ite, Wd_map, v_kS_0, v_kS_b, v_kS_r, v_kO_r, v_kW_0, v_kW_1, v_kW_2, v_kW_r, v_kL_0, v_kL_1, v_kL_2, v_kL_r, v_kU_0, ups_11, upsN, upsA, upA_same, upA_neA, fl_at, fl_neA, v_sq_eq, v_sqM_0, v_sqM_r, v_sqM_b, v_sqM_n, sqM_ite, v_asI, v_asR, v_inc, v_pfI, v_pfZ, v_pfO, v_paI, v_paO, v_exI, v_iff, v_rtI, v_rtZ, v_rtV, v_sk, v_brk, v_cnt, v_blk_eq, v_blkM_some, blkM_ite, v_lI, v_lR, v_cI, v_gI, v_gR, v_op1, v_op2, v_arI, v_arR, v_alen, v_tern, v_cmp1, v_cmp2, v_cAnd, v_cOr, v_cNot, v_cTern, v_bn_some, bn_ite, v_bn_none, v_outV_r, v_outV_0, v_outV_n, outV_ite, List.getD_cons_zero, List.getD_cons_succ, List.set_cons_zero, List.set_cons_succ, List.take_succ_cons, List.take_zero, List.drop_succ_cons, List.drop_zero, List.nil_append, List.cons_append, Option.map_some, Option.map_none, if_true, if_false, reduceIte, reduceCtorEq, decide_eq_true_eq, Bool.not_eq_true', decide_eq_false_iff_not, decide_eq_true, decide_eq_false, decide_true, decide_false, and_self, and_true, true_and, or_self, stO, v_caV_, v_caV_i, v_caV_ii, v_caV_iii, v_caV_iiii, v_caV_iiiii, v_caV_il, v_caV_iil, v_caV_l, v_caV_ll, v_caV_r, v_caV_ri, v_caV_rii, v_caV_riii, v_caV_riiii, v_caV_ir, v_caV_iri, v_caV_iiri, v_caS_i, v_caS_ii, v_caS_iii, v_caS_iiii, v_caS_iiiiii, v_caS_il, v_caS_li, v_caS_ll, v_caS_lll, v_caS_ri, v_caS_riii, sh_239, sh_240, sh_241, sh_242, sh_243, sh_244, sh_245, sh_246, sh_247, sh_248, sh_249, sh_250, sh_251, sh_252, sh_253, rf_239_4, rf_239_5, rf_239_6, rf_239_7, rf_239_20, rf_239_21, rf_239_22, rf_239_23, rf_239_27, rf_239_28, rf_239_32, rf_239_33, rf_239_34, rf_239_35, Int.reduceLE, Int.reduceLT, Int.reduceToNat, Int.reduceAdd, Int.reduceSub, Int.reduceMul, Int.reduceNeg, Int.reduceEq, Int.reduceNe, Nat.reduceAdd, Nat.reduceMul, Nat.reduceLT, Nat.reduceEqDiff, or_true, true_or, or_false, false_or, and_false, false_and, not_true_eq_false, not_false_eq_true, ne_eq, cN4, cN5, cN6, cN7, cN13, cN30, cN60, cN64, cN100, cN136, cN240, cN384, cN900, cN2040, cN3, v_sw_eq, v_swM_0, v_swM_1, v_swM_r, v_swM_n, swM_ite, app_ite, ex_some, bI_0, bI_1, nn_iff, Int.toNat_natCast, Int.toNat_of_nonneg, Int.natCast_add, cN1, wI_id2, wL_id2, if_pos, if_neg]
    rw [fl_step rfl]
  · intro z hz
    subst hz
    simp (disch := omega) only [C_X6_refresh_0, D_X6_refresh_0, U_X6_refresh_0, S_s hs, S_r0 hs, S_r1 hs, S_r2 hs, S_q hs, S_q0 hs, S_q1 hs, S_q2 hs, S_q3 hs, S_q4 hs, S_l hs, S_k hs, S_w hs, S_n hs, S_y hs, S_rl hs, S_sl hs, P_a (S_P hs), P_1 (S_P hs), P_2 (S_P hs), P_3 (S_P hs), P_4 (S_P hs), P_5 (S_P hs), P_6 (S_P hs), P_7 (S_P hs), P_8 (S_P hs), P_9 (S_P hs), P_10 (S_P hs), P_t (S_P hs), P_b (S_P hs), P_g (S_P hs), P_r8 (S_P hs), P_r10 (S_P hs), P_r12 (S_P hs), P_r13 (S_P hs), P_e2 (S_P hs), P_e3 (S_P hs), P_e4 (S_P hs), P_e5 (S_P hs), P_e6 (S_P hs), P_e7 (S_P hs), P_rt (S_P hs), P_rb (S_P hs), P_rg (S_P hs), cN64, Wd_some, Wd_bn, Wd_sqM, Wd_outV, Wd_blkM, Wd_swM, Wd_ite, Wd_map, v_kS_0, v_kS_b, v_kS_r, v_kO_r, v_kW_0, v_kW_1, v_kW_2, v_kW_r, v_kL_0, v_kL_1, v_kL_2, v_kL_r, v_kU_0, ups_11, upsN, upsA, upA_same, upA_neA, fl_at, fl_neA, v_sq_eq, v_sqM_0, v_sqM_r, v_sqM_b, v_sqM_n, sqM_ite, v_asI, v_asR, v_inc, v_pfI, v_pfZ, v_pfO, v_paI, v_paO, v_exI, v_iff, v_rtI, v_rtZ, v_rtV, v_sk, v_brk, v_cnt, v_blk_eq, v_blkM_some, blkM_ite, v_lI, v_lR, v_cI, v_gI, v_gR, v_op1, v_op2, v_arI, v_arR, v_alen, v_tern, v_cmp1, v_cmp2, v_cAnd, v_cOr, v_cNot, v_cTern, v_bn_some, bn_ite, v_bn_none, v_outV_r, v_outV_0, v_outV_n, outV_ite, List.getD_cons_zero, List.getD_cons_succ, List.set_cons_zero, List.set_cons_succ, List.take_succ_cons, List.take_zero, List.drop_succ_cons, List.drop_zero, List.nil_append, List.cons_append, Option.map_some, Option.map_none, if_true, if_false, reduceIte, reduceCtorEq, decide_eq_true_eq, Bool.not_eq_true', decide_eq_false_iff_not, decide_eq_true, decide_eq_false, decide_true, decide_false, and_self, and_true, true_and, or_self, stO, v_caV_, v_caV_i, v_caV_ii, v_caV_iii, v_caV_iiii, v_caV_iiiii, v_caV_il, v_caV_iil, v_caV_l, v_caV_ll, v_caV_r, v_caV_ri, v_caV_rii, v_caV_riii, v_caV_riiii, v_caV_ir, v_caV_iri, v_caV_iiri, v_caS_i, v_caS_ii, v_caS_iii, v_caS_iiii, v_caS_iiiiii, v_caS_il, v_caS_li, v_caS_ll, v_caS_lll, v_caS_ri, v_caS_riii, sh_239, sh_240, sh_241, sh_242, sh_243, sh_244, sh_245, sh_246, sh_247, sh_248, sh_249, sh_250, sh_251, sh_252, sh_253, rf_239_4, rf_239_5, rf_239_6, rf_239_7, rf_239_20, rf_239_21, rf_239_22, rf_239_23, rf_239_27, rf_239_28, rf_239_32, rf_239_33, rf_239_34, rf_239_35, Int.reduceLE, Int.reduceLT, Int.reduceToNat, Int.reduceAdd, Int.reduceSub, Int.reduceMul, Int.reduceNeg, Int.reduceEq, Int.reduceNe, Nat.reduceAdd, Nat.reduceMul, Nat.reduceLT, Nat.reduceEqDiff, or_true, true_or, or_false, false_or, and_false, false_and, not_true_eq_false, not_false_eq_true, ne_eq, cN4, cN5, cN6, cN7, cN13, cN30, cN60, cN64, cN100, cN136, cN240, cN384, cN900, cN2040, cN3, v_sw_eq, v_swM_0, v_swM_1, v_swM_r, v_swM_n, swM_ite, app_ite, ex_some, bI_0, bI_1, nn_iff, Int.toNat_natCast, Int.toNat_of_nonneg, Int.natCast_add, cN1, wI_id2, wL_id2, if_pos, if_neg]
theorem kl_refresh2 (hs : isS s) (H : kH σ (s + 1) c) (hb : kB σ (s + 1) c w) (hw : WH c) (hd : WD c) {b : Nat} (b1 : (b : Int) < c 3) (rain : Int) (hr : rain = 2 * c 9) : L_X6_refresh_2 ([0, rain, b, 0, 0, 0], [s + 30, 0, 0, 0, 0, 0], σ) = some (.inl 0, ([0, rain, b, c 0 * c 1, 0, 0], [s + 30, 0, 0, 0, 0, 0], fl σ (s + 32 + b) (nC c) (fun k => lossB c b ((k : Int) % c 0) ((k : Int) / c 0)))) := by
  refine Wd_out ?_
  unfold L_X6_refresh_2
  have m := mul_bd (show 0 ≤ c 0 by omega) (show c 0 ≤ 6 by omega) (show 0 ≤ c 1 by omega) (show c 1 ≤ 5 by omega)
  have hn : ((nC c : Nat) : Int) = c 0 * c 1 := by unfold nC; omega
  refine Wd_it (fun i z => z = ([0, rain, (b : Int), (i : Int), 0, 0], [s + 30, 0, 0, 0, 0, 0], fl σ (s + 32 + b) i (fun k => lossB c b ((k : Int) % c 0) ((k : Int) / c 0)))) (nC c) ?_ ?_ ?_
  · rw [fl_0]; rfl
  · intro i z hi hz
    subst hz
    obtain ⟨w1, w2, w3, w4⟩ := cell_rng hw (k := i) (by omega)
    have d1 := (hd b (by omega) b1).1
    have H' : kH (fl σ (s + 32 + b) i (fun k => lossB c b ((k : Int) % c 0) ((k : Int) / c 0))) (s + 1) c := kH_c (fl_neA (by omega)) H
    have hb' : kB (fl σ (s + 32 + b) i (fun k => lossB c b ((k : Int) % c 0) ((k : Int) / c 0))) (s + 1) c w := kB_c (fun x h1 h2 => fl_neA (by omega)) hw hb
    have t1 := (tm_range (h := (i : Int)) (l := c 0) (by omega) (by omega)).1
    have t2 := (td_range (h := (i : Int)) (l := c 0) (by omega) (by omega)).1
    have q1 := k_lossAlong hs H' hw (d := (i : Int) % c 0 - c (28 + (b : Int)).toNat) (by omega) (Or.inl ⟨rfl, rfl⟩)
    have q2 := k_lossAlong hs H' hw (d := (i : Int) / c 0 - c (34 + (b : Int)).toNat) (by omega) (Or.inr ⟨rfl, rfl⟩)
    have f1 := fadeB_bd hw (s := absB ((i : Int) % c 0 - c (28 + (b : Int)).toNat)) (way := if 0 < (i : Int) % c 0 - c (28 + (b : Int)).toNat then 0 else 2) (absB_0 _) (by unfold absB; split <;> omega)
    have f2 := fadeB_bd hw (s := absB ((i : Int) / c 0 - c (34 + (b : Int)).toNat)) (way := if 0 < (i : Int) / c 0 - c (34 + (b : Int)).toNat then 1 else 3) (absB_0 _) (by unfold absB; split <;> omega)
    simp (disch := omega) only [C_X6_refresh_2, D_X6_refresh_2, U_X6_refresh_2, S_s hs, S_r0 hs, S_r1 hs, S_r2 hs, S_q hs, S_q0 hs, S_q1 hs, S_q2 hs, S_q3 hs, S_q4 hs, S_l hs, S_k hs, S_w hs, S_n hs, S_y hs, S_rl hs, S_sl hs, P_a (S_P hs), P_1 (S_P hs), P_2 (S_P hs), P_3 (S_P hs), P_4 (S_P hs), P_5 (S_P hs), P_6 (S_P hs), P_7 (S_P hs), P_8 (S_P hs), P_9 (S_P hs), P_10 (S_P hs), P_t (S_P hs), P_b (S_P hs), P_g (S_P hs), P_r8 (S_P hs), P_r10 (S_P hs), P_r12 (S_P hs), P_r13 (S_P hs), P_e2 (S_P hs), P_e3 (S_P hs), P_e4 (S_P hs), P_e5 (S_P hs), P_e6 (S_P hs), P_e7 (S_P hs), P_rt (S_P hs), P_rb (S_P hs), P_rg (S_P hs), H'.1, H'.2.1, H'.2.2.1, H'.2.2.2.1, H'.2.2.2.2.1, H'.2.2.2.2.2.1, H'.2.2.2.2.2.2.1, H'.2.2.2.2.2.2.2.1, H'.2.2.2.2.2.2.2.2.1, H'.2.2.2.2.2.2.2.2.2, kB_1 hb', kB_2 hb', k_countCells (S_P hs) H' hw, t1, t2, q1, q2, Wd_some, Wd_bn, Wd_sqM, Wd_outV, Wd_blkM, Wd_swM, Wd_ite, Wd_map, v_kS_0, v_kS_b, v_kS_r, v_kO_r, v_kW_0, v_kW_1, v_kW_2, v_kW_r, v_kL_0, v_kL_1, v_kL_2, v_kL_r, v_kU_0, ups_11, upsN, upsA, upA_same, upA_neA, fl_at, fl_neA, v_sq_eq, v_sqM_0, v_sqM_r, v_sqM_b, v_sqM_n, sqM_ite, v_asI, v_asR, v_inc, v_pfI, v_pfZ, v_pfO, v_paI, v_paO, v_exI, v_iff, v_rtI, v_rtZ, v_rtV, v_sk, v_brk, v_cnt, v_blk_eq, v_blkM_some, blkM_ite, v_lI, v_lR, v_cI, v_gI, v_gR, v_op1, v_op2, v_arI, v_arR, v_alen, v_tern, v_cmp1, v_cmp2, v_cAnd, v_cOr, v_cNot, v_cTern, v_bn_some, bn_ite, v_bn_none, v_outV_r, v_outV_0, v_outV_n, outV_ite, List.getD_cons_zero, List.getD_cons_succ, List.set_cons_zero, List.set_cons_succ, List.take_succ_cons, List.take_zero, List.drop_succ_cons, List.drop_zero, List.nil_append, List.cons_append, Option.map_some, Option.map_none, if_true, if_false, reduceIte, reduceCtorEq, decide_eq_true_eq, Bool.not_eq_true', decide_eq_false_iff_not, decide_eq_true, decide_eq_false, decide_true, decide_false, and_self, and_true, true_and, or_self, stO, v_caV_, v_caV_i, v_caV_ii, v_caV_iii, v_caV_iiii, v_caV_iiiii, v_caV_il, v_caV_iil, v_caV_l, v_caV_ll, v_caV_r, v_caV_ri, v_caV_rii, v_caV_riii, v_caV_riiii, v_caV_ir, v_caV_iri, v_caV_iiri, v_caS_i, v_caS_ii, v_caS_iii, v_caS_iiii, v_caS_iiiiii, v_caS_il, v_caS_li, v_caS_ll, v_caS_lll, v_caS_ri, v_caS_riii, sh_239, sh_240, sh_241, sh_242, sh_243, sh_244, sh_245, sh_246, sh_247, sh_248, sh_249, sh_250, sh_251, sh_252, sh_253, rf_239_4, rf_239_5, rf_239_6, rf_239_7, rf_239_20, rf_239_21, rf_239_22, rf_239_23, rf_239_27, rf_239_28, rf_239_32, rf_239_33, rf_239_34, rf_239_35, Int.reduceLE, Int.reduceLT, Int.reduceToNat, Int.reduceAdd, Int.reduceSub, Int.reduceMul, Int.reduceNeg, Int.reduceEq, Int.reduceNe, Nat.reduceAdd, Nat.reduceMul, Nat.reduceLT, Nat.reduceEqDiff, or_true, true_or, or_false, false_or, and_false, false_and, not_true_eq_false, not_false_eq_true, ne_eq, cN4, cN5, cN6, cN7, cN13, cN30, cN60, cN64, cN100, cN136, cN240, cN384, cN900, cN2040, cN3, v_sw_eq, v_swM_0, v_swM_1, v_swM_r, v_swM_n, swM_ite, app_ite, ex_some, bI_0, bI_1, nn_iff, Int.toNat_natCast, Int.toNat_of_nonneg, Int.natCast_add, cN1, wI_id2, wL_id2, if_pos, if_neg]
    rw [fl_step (show _ = lossB c b ((i : Int) % c 0) ((i : Int) / c 0) by unfold lossB; omega)]
  · intro z hz
    subst hz
    have H' : kH (fl σ (s + 32 + b) (nC c) (fun k => lossB c b ((k : Int) % c 0) ((k : Int) / c 0))) (s + 1) c := kH_c (fl_neA (by omega)) H
    simp (disch := omega) only [C_X6_refresh_2, D_X6_refresh_2, U_X6_refresh_2, S_s hs, S_r0 hs, S_r1 hs, S_r2 hs, S_q hs, S_q0 hs, S_q1 hs, S_q2 hs, S_q3 hs, S_q4 hs, S_l hs, S_k hs, S_w hs, S_n hs, S_y hs, S_rl hs, S_sl hs, P_a (S_P hs), P_1 (S_P hs), P_2 (S_P hs), P_3 (S_P hs), P_4 (S_P hs), P_5 (S_P hs), P_6 (S_P hs), P_7 (S_P hs), P_8 (S_P hs), P_9 (S_P hs), P_10 (S_P hs), P_t (S_P hs), P_b (S_P hs), P_g (S_P hs), P_r8 (S_P hs), P_r10 (S_P hs), P_r12 (S_P hs), P_r13 (S_P hs), P_e2 (S_P hs), P_e3 (S_P hs), P_e4 (S_P hs), P_e5 (S_P hs), P_e6 (S_P hs), P_e7 (S_P hs), P_rt (S_P hs), P_rb (S_P hs), P_rg (S_P hs), H'.1, H'.2.1, H'.2.2.1, H'.2.2.2.1, H'.2.2.2.2.1, H'.2.2.2.2.2.1, H'.2.2.2.2.2.2.1, H'.2.2.2.2.2.2.2.1, H'.2.2.2.2.2.2.2.2.1, H'.2.2.2.2.2.2.2.2.2, k_countCells (S_P hs) H' hw, hn, Wd_some, Wd_bn, Wd_sqM, Wd_outV, Wd_blkM, Wd_swM, Wd_ite, Wd_map, v_kS_0, v_kS_b, v_kS_r, v_kO_r, v_kW_0, v_kW_1, v_kW_2, v_kW_r, v_kL_0, v_kL_1, v_kL_2, v_kL_r, v_kU_0, ups_11, upsN, upsA, upA_same, upA_neA, fl_at, fl_neA, v_sq_eq, v_sqM_0, v_sqM_r, v_sqM_b, v_sqM_n, sqM_ite, v_asI, v_asR, v_inc, v_pfI, v_pfZ, v_pfO, v_paI, v_paO, v_exI, v_iff, v_rtI, v_rtZ, v_rtV, v_sk, v_brk, v_cnt, v_blk_eq, v_blkM_some, blkM_ite, v_lI, v_lR, v_cI, v_gI, v_gR, v_op1, v_op2, v_arI, v_arR, v_alen, v_tern, v_cmp1, v_cmp2, v_cAnd, v_cOr, v_cNot, v_cTern, v_bn_some, bn_ite, v_bn_none, v_outV_r, v_outV_0, v_outV_n, outV_ite, List.getD_cons_zero, List.getD_cons_succ, List.set_cons_zero, List.set_cons_succ, List.take_succ_cons, List.take_zero, List.drop_succ_cons, List.drop_zero, List.nil_append, List.cons_append, Option.map_some, Option.map_none, if_true, if_false, reduceIte, reduceCtorEq, decide_eq_true_eq, Bool.not_eq_true', decide_eq_false_iff_not, decide_eq_true, decide_eq_false, decide_true, decide_false, and_self, and_true, true_and, or_self, stO, v_caV_, v_caV_i, v_caV_ii, v_caV_iii, v_caV_iiii, v_caV_iiiii, v_caV_il, v_caV_iil, v_caV_l, v_caV_ll, v_caV_r, v_caV_ri, v_caV_rii, v_caV_riii, v_caV_riiii, v_caV_ir, v_caV_iri, v_caV_iiri, v_caS_i, v_caS_ii, v_caS_iii, v_caS_iiii, v_caS_iiiiii, v_caS_il, v_caS_li, v_caS_ll, v_caS_lll, v_caS_ri, v_caS_riii, sh_239, sh_240, sh_241, sh_242, sh_243, sh_244, sh_245, sh_246, sh_247, sh_248, sh_249, sh_250, sh_251, sh_252, sh_253, rf_239_4, rf_239_5, rf_239_6, rf_239_7, rf_239_20, rf_239_21, rf_239_22, rf_239_23, rf_239_27, rf_239_28, rf_239_32, rf_239_33, rf_239_34, rf_239_35, Int.reduceLE, Int.reduceLT, Int.reduceToNat, Int.reduceAdd, Int.reduceSub, Int.reduceMul, Int.reduceNeg, Int.reduceEq, Int.reduceNe, Nat.reduceAdd, Nat.reduceMul, Nat.reduceLT, Nat.reduceEqDiff, or_true, true_or, or_false, false_or, and_false, false_and, not_true_eq_false, not_false_eq_true, ne_eq, cN4, cN5, cN6, cN7, cN13, cN30, cN60, cN64, cN100, cN136, cN240, cN384, cN900, cN2040, cN3, v_sw_eq, v_swM_0, v_swM_1, v_swM_r, v_swM_n, swM_ite, app_ite, ex_some, bI_0, bI_1, nn_iff, Int.toNat_natCast, Int.toNat_of_nonneg, Int.natCast_add, cN1, wI_id2, wL_id2, if_pos, if_neg]
    trace_state
    sorry
def LossI (s : Nat) (c : Nat → Int) (σ : SS) (rain : Int) (i : Nat) (z : ZZ) : Prop := ∃ σ' : SS, z = ([0, rain, (i : Int), 0, 0, 0], [s + 30, 0, 0, 0, 0, 0], σ') ∧ (∀ a, ¬ (s + 32 ≤ a ∧ a < s + 38) → σ' a = σ a) ∧ LossT s c i σ'
theorem kl_refresh1 (hs : isS s) (H : kH σ (s + 1) c) (hb : kB σ (s + 1) c w) (hw : WH c) (hd : WD c) (rain : Int) (hr : rain = 2 * c 9) : Wd (L_X6_refresh_1 ([0, rain, 0, 0, 0, 0], [s + 30, 0, 0, 0, 0, 0], σ)) (fun o z => o = .inl 0 ∧ LossI s c σ rain (bn3 c) z) := by
  unfold L_X6_refresh_1
  have hn := bn3_c hw
  have m := mul_bd (show 0 ≤ c 0 by omega) (show c 0 ≤ 6 by omega) (show 0 ≤ c 1 by omega) (show c 1 ≤ 5 by omega)
  have hN : ((nC c : Nat) : Int) = c 0 * c 1 := by unfold nC; omega
  refine Wd_it (LossI s c σ rain) (bn3 c) ⟨σ, rfl, fun _ _ => rfl, fun b k h1 _ => absurd h1 (by omega)⟩ ?_ ?_
  · intro i z hi hz
    obtain ⟨σ1, hz, hf, hl⟩ := hz
    subst hz
    have H' : kH σ1 (s + 1) c := kH_c (hf _ (by omega)) H
    have hb' : kB σ1 (s + 1) c w := kB_c (fun x h1 h2 => hf _ (by omega)) hw hb
    simp (disch := omega) only [C_X6_refresh_1, D_X6_refresh_1, U_X6_refresh_1, S_s hs, S_r0 hs, S_r1 hs, S_r2 hs, S_q hs, S_q0 hs, S_q1 hs, S_q2 hs, S_q3 hs, S_q4 hs, S_l hs, S_k hs, S_w hs, S_n hs, S_y hs, S_rl hs, S_sl hs, P_a (S_P hs), P_1 (S_P hs), P_2 (S_P hs), P_3 (S_P hs), P_4 (S_P hs), P_5 (S_P hs), P_6 (S_P hs), P_7 (S_P hs), P_8 (S_P hs), P_9 (S_P hs), P_10 (S_P hs), P_t (S_P hs), P_b (S_P hs), P_g (S_P hs), P_r8 (S_P hs), P_r10 (S_P hs), P_r12 (S_P hs), P_r13 (S_P hs), P_e2 (S_P hs), P_e3 (S_P hs), P_e4 (S_P hs), P_e5 (S_P hs), P_e6 (S_P hs), P_e7 (S_P hs), P_rt (S_P hs), P_rb (S_P hs), P_rg (S_P hs), H'.1, H'.2.1, H'.2.2.1, H'.2.2.2.1, H'.2.2.2.2.1, H'.2.2.2.2.2.1, H'.2.2.2.2.2.2.1, H'.2.2.2.2.2.2.2.1, H'.2.2.2.2.2.2.2.2.1, H'.2.2.2.2.2.2.2.2.2, kl_refresh2 hs H' hb' hw hd (show (i : Int) < c 3 by omega) rain hr, Wd_some, Wd_bn, Wd_sqM, Wd_outV, Wd_blkM, Wd_swM, Wd_ite, Wd_map, v_kS_0, v_kS_b, v_kS_r, v_kO_r, v_kW_0, v_kW_1, v_kW_2, v_kW_r, v_kL_0, v_kL_1, v_kL_2, v_kL_r, v_kU_0, ups_11, upsN, upsA, upA_same, upA_neA, fl_at, fl_neA, v_sq_eq, v_sqM_0, v_sqM_r, v_sqM_b, v_sqM_n, sqM_ite, v_asI, v_asR, v_inc, v_pfI, v_pfZ, v_pfO, v_paI, v_paO, v_exI, v_iff, v_rtI, v_rtZ, v_rtV, v_sk, v_brk, v_cnt, v_blk_eq, v_blkM_some, blkM_ite, v_lI, v_lR, v_cI, v_gI, v_gR, v_op1, v_op2, v_arI, v_arR, v_alen, v_tern, v_cmp1, v_cmp2, v_cAnd, v_cOr, v_cNot, v_cTern, v_bn_some, bn_ite, v_bn_none, v_outV_r, v_outV_0, v_outV_n, outV_ite, List.getD_cons_zero, List.getD_cons_succ, List.set_cons_zero, List.set_cons_succ, List.take_succ_cons, List.take_zero, List.drop_succ_cons, List.drop_zero, List.nil_append, List.cons_append, Option.map_some, Option.map_none, if_true, if_false, reduceIte, reduceCtorEq, decide_eq_true_eq, Bool.not_eq_true', decide_eq_false_iff_not, decide_eq_true, decide_eq_false, decide_true, decide_false, and_self, and_true, true_and, or_self, stO, v_caV_, v_caV_i, v_caV_ii, v_caV_iii, v_caV_iiii, v_caV_iiiii, v_caV_il, v_caV_iil, v_caV_l, v_caV_ll, v_caV_r, v_caV_ri, v_caV_rii, v_caV_riii, v_caV_riiii, v_caV_ir, v_caV_iri, v_caV_iiri, v_caS_i, v_caS_ii, v_caS_iii, v_caS_iiii, v_caS_iiiiii, v_caS_il, v_caS_li, v_caS_ll, v_caS_lll, v_caS_ri, v_caS_riii, sh_239, sh_240, sh_241, sh_242, sh_243, sh_244, sh_245, sh_246, sh_247, sh_248, sh_249, sh_250, sh_251, sh_252, sh_253, rf_239_4, rf_239_5, rf_239_6, rf_239_7, rf_239_20, rf_239_21, rf_239_22, rf_239_23, rf_239_27, rf_239_28, rf_239_32, rf_239_33, rf_239_34, rf_239_35, Int.reduceLE, Int.reduceLT, Int.reduceToNat, Int.reduceAdd, Int.reduceSub, Int.reduceMul, Int.reduceNeg, Int.reduceEq, Int.reduceNe, Nat.reduceAdd, Nat.reduceMul, Nat.reduceLT, Nat.reduceEqDiff, or_true, true_or, or_false, false_or, and_false, false_and, not_true_eq_false, not_false_eq_true, ne_eq, cN4, cN5, cN6, cN7, cN13, cN30, cN60, cN64, cN100, cN136, cN240, cN384, cN900, cN2040, cN3, v_sw_eq, v_swM_0, v_swM_1, v_swM_r, v_swM_n, swM_ite, app_ite, ex_some, bI_0, bI_1, nn_iff, Int.toNat_natCast, Int.toNat_of_nonneg, Int.natCast_add, cN1, wI_id2, wL_id2, if_pos, if_neg]
    refine ⟨_, rfl, fun a ha => ?_, fun b k h1 h2 => ?_⟩
    · rw [fl_neA (by omega)]; exact hf a ha
    · by_cases hbi : b = i
      · subst hbi
        rw [fl_at, if_pos (by omega)]
      · rw [fl_neA (by omega)]; exact hl b k (by omega) h2
  · intro z hz
    obtain ⟨σ1, hz, hf, hl⟩ := hz
    subst hz
    have H' : kH σ1 (s + 1) c := kH_c (hf _ (by omega)) H
    simp (disch := omega) only [C_X6_refresh_1, D_X6_refresh_1, U_X6_refresh_1, S_s hs, S_r0 hs, S_r1 hs, S_r2 hs, S_q hs, S_q0 hs, S_q1 hs, S_q2 hs, S_q3 hs, S_q4 hs, S_l hs, S_k hs, S_w hs, S_n hs, S_y hs, S_rl hs, S_sl hs, P_a (S_P hs), P_1 (S_P hs), P_2 (S_P hs), P_3 (S_P hs), P_4 (S_P hs), P_5 (S_P hs), P_6 (S_P hs), P_7 (S_P hs), P_8 (S_P hs), P_9 (S_P hs), P_10 (S_P hs), P_t (S_P hs), P_b (S_P hs), P_g (S_P hs), P_r8 (S_P hs), P_r10 (S_P hs), P_r12 (S_P hs), P_r13 (S_P hs), P_e2 (S_P hs), P_e3 (S_P hs), P_e4 (S_P hs), P_e5 (S_P hs), P_e6 (S_P hs), P_e7 (S_P hs), P_rt (S_P hs), P_rb (S_P hs), P_rg (S_P hs), H'.1, H'.2.1, H'.2.2.1, H'.2.2.2.1, H'.2.2.2.2.1, H'.2.2.2.2.2.1, H'.2.2.2.2.2.2.1, H'.2.2.2.2.2.2.2.1, H'.2.2.2.2.2.2.2.2.1, H'.2.2.2.2.2.2.2.2.2, hn, Wd_some, Wd_bn, Wd_sqM, Wd_outV, Wd_blkM, Wd_swM, Wd_ite, Wd_map, v_kS_0, v_kS_b, v_kS_r, v_kO_r, v_kW_0, v_kW_1, v_kW_2, v_kW_r, v_kL_0, v_kL_1, v_kL_2, v_kL_r, v_kU_0, ups_11, upsN, upsA, upA_same, upA_neA, fl_at, fl_neA, v_sq_eq, v_sqM_0, v_sqM_r, v_sqM_b, v_sqM_n, sqM_ite, v_asI, v_asR, v_inc, v_pfI, v_pfZ, v_pfO, v_paI, v_paO, v_exI, v_iff, v_rtI, v_rtZ, v_rtV, v_sk, v_brk, v_cnt, v_blk_eq, v_blkM_some, blkM_ite, v_lI, v_lR, v_cI, v_gI, v_gR, v_op1, v_op2, v_arI, v_arR, v_alen, v_tern, v_cmp1, v_cmp2, v_cAnd, v_cOr, v_cNot, v_cTern, v_bn_some, bn_ite, v_bn_none, v_outV_r, v_outV_0, v_outV_n, outV_ite, List.getD_cons_zero, List.getD_cons_succ, List.set_cons_zero, List.set_cons_succ, List.take_succ_cons, List.take_zero, List.drop_succ_cons, List.drop_zero, List.nil_append, List.cons_append, Option.map_some, Option.map_none, if_true, if_false, reduceIte, reduceCtorEq, decide_eq_true_eq, Bool.not_eq_true', decide_eq_false_iff_not, decide_eq_true, decide_eq_false, decide_true, decide_false, and_self, and_true, true_and, or_self, stO, v_caV_, v_caV_i, v_caV_ii, v_caV_iii, v_caV_iiii, v_caV_iiiii, v_caV_il, v_caV_iil, v_caV_l, v_caV_ll, v_caV_r, v_caV_ri, v_caV_rii, v_caV_riii, v_caV_riiii, v_caV_ir, v_caV_iri, v_caV_iiri, v_caS_i, v_caS_ii, v_caS_iii, v_caS_iiii, v_caS_iiiiii, v_caS_il, v_caS_li, v_caS_ll, v_caS_lll, v_caS_ri, v_caS_riii, sh_239, sh_240, sh_241, sh_242, sh_243, sh_244, sh_245, sh_246, sh_247, sh_248, sh_249, sh_250, sh_251, sh_252, sh_253, rf_239_4, rf_239_5, rf_239_6, rf_239_7, rf_239_20, rf_239_21, rf_239_22, rf_239_23, rf_239_27, rf_239_28, rf_239_32, rf_239_33, rf_239_34, rf_239_35, Int.reduceLE, Int.reduceLT, Int.reduceToNat, Int.reduceAdd, Int.reduceSub, Int.reduceMul, Int.reduceNeg, Int.reduceEq, Int.reduceNe, Nat.reduceAdd, Nat.reduceMul, Nat.reduceLT, Nat.reduceEqDiff, or_true, true_or, or_false, false_or, and_false, false_and, not_true_eq_false, not_false_eq_true, ne_eq, cN4, cN5, cN6, cN7, cN13, cN30, cN60, cN64, cN100, cN136, cN240, cN384, cN900, cN2040, cN3, v_sw_eq, v_swM_0, v_swM_1, v_swM_r, v_swM_n, swM_ite, app_ite, ex_some, bI_0, bI_1, nn_iff, Int.toNat_natCast, Int.toNat_of_nonneg, Int.natCast_add, cN1, wI_id2, wL_id2, if_pos, if_neg]
    exact ⟨σ1, by rw [hn], hf, hl⟩
/-- what refresh leaves where it worked -/
def Rfr (s : Nat) (c : Nat → Int) (σ σ' : SS) : Prop := (∀ a k, ¬ (a = s + 30 ∧ k = 5) → ¬ (s + 32 ≤ a ∧ a < s + 39) → σ' a k = σ a k) ∧ σ' (s + 30) 5 = σ (s + 1) 14 ∧ (∀ k : Nat, k < 64 → σ' (s + 38) k = -1) ∧ LossT s c (c 3) σ'
theorem k_refresh (hs : isS s) (H : kH σ (s + 1) c) (hb : kB σ (s + 1) c w) (hw : WH c) (hd : WD c) : Wd (F_X6_refresh (s + 30) σ) (fun r σ' => r = 0 ∧ ((σ (s + 30) 5 = σ (s + 1) 14 ∧ σ' = σ) ∨ (¬ σ (s + 30) 5 = σ (s + 1) 14 ∧ Rfr s c σ σ'))) := by
  by_cases hv : σ (s + 30) 5 = σ (s + 1) 14
  · simp (disch := omega) only [F_X6_refresh, E_X6_refresh, S_s hs, S_r0 hs, S_r1 hs, S_r2 hs, S_q hs, S_q0 hs, S_q1 hs, S_q2 hs, S_q3 hs, S_q4 hs, S_l hs, S_k hs, S_w hs, S_n hs, S_y hs, S_rl hs, S_sl hs, P_a (S_P hs), P_1 (S_P hs), P_2 (S_P hs), P_3 (S_P hs), P_4 (S_P hs), P_5 (S_P hs), P_6 (S_P hs), P_7 (S_P hs), P_8 (S_P hs), P_9 (S_P hs), P_10 (S_P hs), P_t (S_P hs), P_b (S_P hs), P_g (S_P hs), P_r8 (S_P hs), P_r10 (S_P hs), P_r12 (S_P hs), P_r13 (S_P hs), P_e2 (S_P hs), P_e3 (S_P hs), P_e4 (S_P hs), P_e5 (S_P hs), P_e6 (S_P hs), P_e7 (S_P hs), P_rt (S_P hs), P_rb (S_P hs), P_rg (S_P hs), hv, Wd_some, Wd_bn, Wd_sqM, Wd_outV, Wd_blkM, Wd_swM, Wd_ite, Wd_map, v_kS_0, v_kS_b, v_kS_r, v_kO_r, v_kW_0, v_kW_1, v_kW_2, v_kW_r, v_kL_0, v_kL_1, v_kL_2, v_kL_r, v_kU_0, ups_11, upsN, upsA, upA_same, upA_neA, fl_at, fl_neA, v_sq_eq, v_sqM_0, v_sqM_r, v_sqM_b, v_sqM_n, sqM_ite, v_asI, v_asR, v_inc, v_pfI, v_pfZ, v_pfO, v_paI, v_paO, v_exI, v_iff, v_rtI, v_rtZ, v_rtV, v_sk, v_brk, v_cnt, v_blk_eq, v_blkM_some, blkM_ite, v_lI, v_lR, v_cI, v_gI, v_gR, v_op1, v_op2, v_arI, v_arR, v_alen, v_tern, v_cmp1, v_cmp2, v_cAnd, v_cOr, v_cNot, v_cTern, v_bn_some, bn_ite, v_bn_none, v_outV_r, v_outV_0, v_outV_n, outV_ite, List.getD_cons_zero, List.getD_cons_succ, List.set_cons_zero, List.set_cons_succ, List.take_succ_cons, List.take_zero, List.drop_succ_cons, List.drop_zero, List.nil_append, List.cons_append, Option.map_some, Option.map_none, if_true, if_false, reduceIte, reduceCtorEq, decide_eq_true_eq, Bool.not_eq_true', decide_eq_false_iff_not, decide_eq_true, decide_eq_false, decide_true, decide_false, and_self, and_true, true_and, or_self, stO, v_caV_, v_caV_i, v_caV_ii, v_caV_iii, v_caV_iiii, v_caV_iiiii, v_caV_il, v_caV_iil, v_caV_l, v_caV_ll, v_caV_r, v_caV_ri, v_caV_rii, v_caV_riii, v_caV_riiii, v_caV_ir, v_caV_iri, v_caV_iiri, v_caS_i, v_caS_ii, v_caS_iii, v_caS_iiii, v_caS_iiiiii, v_caS_il, v_caS_li, v_caS_ll, v_caS_lll, v_caS_ri, v_caS_riii, sh_239, sh_240, sh_241, sh_242, sh_243, sh_244, sh_245, sh_246, sh_247, sh_248, sh_249, sh_250, sh_251, sh_252, sh_253, rf_239_4, rf_239_5, rf_239_6, rf_239_7, rf_239_20, rf_239_21, rf_239_22, rf_239_23, rf_239_27, rf_239_28, rf_239_32, rf_239_33, rf_239_34, rf_239_35, Int.reduceLE, Int.reduceLT, Int.reduceToNat, Int.reduceAdd, Int.reduceSub, Int.reduceMul, Int.reduceNeg, Int.reduceEq, Int.reduceNe, Nat.reduceAdd, Nat.reduceMul, Nat.reduceLT, Nat.reduceEqDiff, or_true, true_or, or_false, false_or, and_false, false_and, not_true_eq_false, not_false_eq_true, ne_eq, cN4, cN5, cN6, cN7, cN13, cN30, cN60, cN64, cN100, cN136, cN240, cN384, cN900, cN2040, cN3, v_sw_eq, v_swM_0, v_swM_1, v_swM_r, v_swM_n, swM_ite, app_ite, ex_some, bI_0, bI_1, nn_iff, Int.toNat_natCast, Int.toNat_of_nonneg, Int.natCast_add, cN1, wI_id2, wL_id2, if_pos, if_neg]
  · have q0 := @kl_refresh0 (ups σ (s + 30) 5 (σ (s + 1) 14)) s hs 0 0 0 0
    have hn := bn3_c hw
    have H2 : kH (fl (ups σ (s + 30) 5 (σ (s + 1) 14)) (s + 38) 64 (fun _ => -1)) (s + 1) c := kH_c (by rw [fl_neA (by omega), upsA (by omega)]) H
    have hb2 : kB (fl (ups σ (s + 30) 5 (σ (s + 1) 14)) (s + 38) 64 (fun _ => -1)) (s + 1) c w := kB_c (fun x h1 h2 => by rw [fl_neA (by omega), upsA (by omega)]) hw hb
    have fin : ∀ (rain : Int) (z : ZZ), LossI s c (fl (ups σ (s + 30) 5 (σ (s + 1) 14)) (s + 38) 64 (fun _ => -1)) rain (bn3 c) z → Rfr s c σ z.2.2 := by
      intro rain z hz
      obtain ⟨σ1, hz, hf, hl⟩ := hz
      subst hz
      refine ⟨fun a k h1 h2 => ?_, ?_, fun k hk => ?_, ?_⟩
      · show σ1 a k = σ a k
        rw [hf a (by omega), fl_neA (by omega), ups_eq, if_neg h1]
      · show σ1 (s + 30) 5 = _
        rw [hf _ (by omega), fl_neA (by omega), ups_11]
      · show σ1 (s + 38) k = _
        rw [hf _ (by omega), fl_at, if_pos hk]
      · rw [← hn]
        exact hl
    by_cases h9 : c 9 = 0
    · have q1 := kl_refresh1 hs H2 hb2 hw hd 0 (by omega)
      simp (disch := omega) only [F_X6_refresh, E_X6_refresh, S_s hs, S_r0 hs, S_r1 hs, S_r2 hs, S_q hs, S_q0 hs, S_q1 hs, S_q2 hs, S_q3 hs, S_q4 hs, S_l hs, S_k hs, S_w hs, S_n hs, S_y hs, S_rl hs, S_sl hs, P_a (S_P hs), P_1 (S_P hs), P_2 (S_P hs), P_3 (S_P hs), P_4 (S_P hs), P_5 (S_P hs), P_6 (S_P hs), P_7 (S_P hs), P_8 (S_P hs), P_9 (S_P hs), P_10 (S_P hs), P_t (S_P hs), P_b (S_P hs), P_g (S_P hs), P_r8 (S_P hs), P_r10 (S_P hs), P_r12 (S_P hs), P_r13 (S_P hs), P_e2 (S_P hs), P_e3 (S_P hs), P_e4 (S_P hs), P_e5 (S_P hs), P_e6 (S_P hs), P_e7 (S_P hs), P_rt (S_P hs), P_rb (S_P hs), P_rg (S_P hs), hv, q0, H2.1, H2.2.1, H2.2.2.1, H2.2.2.2.1, H2.2.2.2.2.1, H2.2.2.2.2.2.1, H2.2.2.2.2.2.2.1, H2.2.2.2.2.2.2.2.1, H2.2.2.2.2.2.2.2.2.1, H2.2.2.2.2.2.2.2.2.2, h9, Wd_some, Wd_bn, Wd_sqM, Wd_outV, Wd_blkM, Wd_swM, Wd_ite, Wd_map, v_kS_0, v_kS_b, v_kS_r, v_kO_r, v_kW_0, v_kW_1, v_kW_2, v_kW_r, v_kL_0, v_kL_1, v_kL_2, v_kL_r, v_kU_0, ups_11, upsN, upsA, upA_same, upA_neA, fl_at, fl_neA, v_sq_eq, v_sqM_0, v_sqM_r, v_sqM_b, v_sqM_n, sqM_ite, v_asI, v_asR, v_inc, v_pfI, v_pfZ, v_pfO, v_paI, v_paO, v_exI, v_iff, v_rtI, v_rtZ, v_rtV, v_sk, v_brk, v_cnt, v_blk_eq, v_blkM_some, blkM_ite, v_lI, v_lR, v_cI, v_gI, v_gR, v_op1, v_op2, v_arI, v_arR, v_alen, v_tern, v_cmp1, v_cmp2, v_cAnd, v_cOr, v_cNot, v_cTern, v_bn_some, bn_ite, v_bn_none, v_outV_r, v_outV_0, v_outV_n, outV_ite, List.getD_cons_zero, List.getD_cons_succ, List.set_cons_zero, List.set_cons_succ, List.take_succ_cons, List.take_zero, List.drop_succ_cons, List.drop_zero, List.nil_append, List.cons_append, Option.map_some, Option.map_none, if_true, if_false, reduceIte, reduceCtorEq, decide_eq_true_eq, Bool.not_eq_true', decide_eq_false_iff_not, decide_eq_true, decide_eq_false, decide_true, decide_false, and_self, and_true, true_and, or_self, stO, v_caV_, v_caV_i, v_caV_ii, v_caV_iii, v_caV_iiii, v_caV_iiiii, v_caV_il, v_caV_iil, v_caV_l, v_caV_ll, v_caV_r, v_caV_ri, v_caV_rii, v_caV_riii, v_caV_riiii, v_caV_ir, v_caV_iri, v_caV_iiri, v_caS_i, v_caS_ii, v_caS_iii, v_caS_iiii, v_caS_iiiiii, v_caS_il, v_caS_li, v_caS_ll, v_caS_lll, v_caS_ri, v_caS_riii, sh_239, sh_240, sh_241, sh_242, sh_243, sh_244, sh_245, sh_246, sh_247, sh_248, sh_249, sh_250, sh_251, sh_252, sh_253, rf_239_4, rf_239_5, rf_239_6, rf_239_7, rf_239_20, rf_239_21, rf_239_22, rf_239_23, rf_239_27, rf_239_28, rf_239_32, rf_239_33, rf_239_34, rf_239_35, Int.reduceLE, Int.reduceLT, Int.reduceToNat, Int.reduceAdd, Int.reduceSub, Int.reduceMul, Int.reduceNeg, Int.reduceEq, Int.reduceNe, Nat.reduceAdd, Nat.reduceMul, Nat.reduceLT, Nat.reduceEqDiff, or_true, true_or, or_false, false_or, and_false, false_and, not_true_eq_false, not_false_eq_true, ne_eq, cN4, cN5, cN6, cN7, cN13, cN30, cN60, cN64, cN100, cN136, cN240, cN384, cN900, cN2040, cN3, v_sw_eq, v_swM_0, v_swM_1, v_swM_r, v_swM_n, swM_ite, app_ite, ex_some, bI_0, bI_1, nn_iff, Int.toNat_natCast, Int.toNat_of_nonneg, Int.natCast_add, cN1, wI_id2, wL_id2, if_pos, if_neg]
      refine Wd_mono q1 (fun o z hz => ?_)
      obtain ⟨ho, hz⟩ := hz
      subst ho
      simp (disch := omega) only [Wd_some, Wd_bn, Wd_sqM, Wd_outV, Wd_blkM, Wd_swM, Wd_ite, Wd_map, v_kS_0, v_kS_b, v_kS_r, v_kO_r, v_kW_0, v_kW_1, v_kW_2, v_kW_r, v_kL_0, v_kL_1, v_kL_2, v_kL_r, v_kU_0, ups_11, upsN, upsA, upA_same, upA_neA, fl_at, fl_neA, v_sq_eq, v_sqM_0, v_sqM_r, v_sqM_b, v_sqM_n, sqM_ite, v_asI, v_asR, v_inc, v_pfI, v_pfZ, v_pfO, v_paI, v_paO, v_exI, v_iff, v_rtI, v_rtZ, v_rtV, v_sk, v_brk, v_cnt, v_blk_eq, v_blkM_some, blkM_ite, v_lI, v_lR, v_cI, v_gI, v_gR, v_op1, v_op2, v_arI, v_arR, v_alen, v_tern, v_cmp1, v_cmp2, v_cAnd, v_cOr, v_cNot, v_cTern, v_bn_some, bn_ite, v_bn_none, v_outV_r, v_outV_0, v_outV_n, outV_ite, List.getD_cons_zero, List.getD_cons_succ, List.set_cons_zero, List.set_cons_succ, List.take_succ_cons, List.take_zero, List.drop_succ_cons, List.drop_zero, List.nil_append, List.cons_append, Option.map_some, Option.map_none, if_true, if_false, reduceIte, reduceCtorEq, decide_eq_true_eq, Bool.not_eq_true', decide_eq_false_iff_not, decide_eq_true, decide_eq_false, decide_true, decide_false, and_self, and_true, true_and, or_self, stO, v_caV_, v_caV_i, v_caV_ii, v_caV_iii, v_caV_iiii, v_caV_iiiii, v_caV_il, v_caV_iil, v_caV_l, v_caV_ll, v_caV_r, v_caV_ri, v_caV_rii, v_caV_riii, v_caV_riiii, v_caV_ir, v_caV_iri, v_caV_iiri, v_caS_i, v_caS_ii, v_caS_iii, v_caS_iiii, v_caS_iiiiii, v_caS_il, v_caS_li, v_caS_ll, v_caS_lll, v_caS_ri, v_caS_riii, sh_239, sh_240, sh_241, sh_242, sh_243, sh_244, sh_245, sh_246, sh_247, sh_248, sh_249, sh_250, sh_251, sh_252, sh_253, rf_239_4, rf_239_5, rf_239_6, rf_239_7, rf_239_20, rf_239_21, rf_239_22, rf_239_23, rf_239_27, rf_239_28, rf_239_32, rf_239_33, rf_239_34, rf_239_35, Int.reduceLE, Int.reduceLT, Int.reduceToNat, Int.reduceAdd, Int.reduceSub, Int.reduceMul, Int.reduceNeg, Int.reduceEq, Int.reduceNe, Nat.reduceAdd, Nat.reduceMul, Nat.reduceLT, Nat.reduceEqDiff, or_true, true_or, or_false, false_or, and_false, false_and, not_true_eq_false, not_false_eq_true, ne_eq, cN4, cN5, cN6, cN7, cN13, cN30, cN60, cN64, cN100, cN136, cN240, cN384, cN900, cN2040, cN3, v_sw_eq, v_swM_0, v_swM_1, v_swM_r, v_swM_n, swM_ite, app_ite, ex_some, bI_0, bI_1, nn_iff, Int.toNat_natCast, Int.toNat_of_nonneg, Int.natCast_add, cN1, wI_id2, wL_id2, if_pos, if_neg]
      exact fin _ z hz
    · have q1 := kl_refresh1 hs H2 hb2 hw hd 2 (by omega)
      simp (disch := omega) only [F_X6_refresh, E_X6_refresh, S_s hs, S_r0 hs, S_r1 hs, S_r2 hs, S_q hs, S_q0 hs, S_q1 hs, S_q2 hs, S_q3 hs, S_q4 hs, S_l hs, S_k hs, S_w hs, S_n hs, S_y hs, S_rl hs, S_sl hs, P_a (S_P hs), P_1 (S_P hs), P_2 (S_P hs), P_3 (S_P hs), P_4 (S_P hs), P_5 (S_P hs), P_6 (S_P hs), P_7 (S_P hs), P_8 (S_P hs), P_9 (S_P hs), P_10 (S_P hs), P_t (S_P hs), P_b (S_P hs), P_g (S_P hs), P_r8 (S_P hs), P_r10 (S_P hs), P_r12 (S_P hs), P_r13 (S_P hs), P_e2 (S_P hs), P_e3 (S_P hs), P_e4 (S_P hs), P_e5 (S_P hs), P_e6 (S_P hs), P_e7 (S_P hs), P_rt (S_P hs), P_rb (S_P hs), P_rg (S_P hs), hv, q0, H2.1, H2.2.1, H2.2.2.1, H2.2.2.2.1, H2.2.2.2.2.1, H2.2.2.2.2.2.1, H2.2.2.2.2.2.2.1, H2.2.2.2.2.2.2.2.1, H2.2.2.2.2.2.2.2.2.1, H2.2.2.2.2.2.2.2.2.2, h9, Wd_some, Wd_bn, Wd_sqM, Wd_outV, Wd_blkM, Wd_swM, Wd_ite, Wd_map, v_kS_0, v_kS_b, v_kS_r, v_kO_r, v_kW_0, v_kW_1, v_kW_2, v_kW_r, v_kL_0, v_kL_1, v_kL_2, v_kL_r, v_kU_0, ups_11, upsN, upsA, upA_same, upA_neA, fl_at, fl_neA, v_sq_eq, v_sqM_0, v_sqM_r, v_sqM_b, v_sqM_n, sqM_ite, v_asI, v_asR, v_inc, v_pfI, v_pfZ, v_pfO, v_paI, v_paO, v_exI, v_iff, v_rtI, v_rtZ, v_rtV, v_sk, v_brk, v_cnt, v_blk_eq, v_blkM_some, blkM_ite, v_lI, v_lR, v_cI, v_gI, v_gR, v_op1, v_op2, v_arI, v_arR, v_alen, v_tern, v_cmp1, v_cmp2, v_cAnd, v_cOr, v_cNot, v_cTern, v_bn_some, bn_ite, v_bn_none, v_outV_r, v_outV_0, v_outV_n, outV_ite, List.getD_cons_zero, List.getD_cons_succ, List.set_cons_zero, List.set_cons_succ, List.take_succ_cons, List.take_zero, List.drop_succ_cons, List.drop_zero, List.nil_append, List.cons_append, Option.map_some, Option.map_none, if_true, if_false, reduceIte, reduceCtorEq, decide_eq_true_eq, Bool.not_eq_true', decide_eq_false_iff_not, decide_eq_true, decide_eq_false, decide_true, decide_false, and_self, and_true, true_and, or_self, stO, v_caV_, v_caV_i, v_caV_ii, v_caV_iii, v_caV_iiii, v_caV_iiiii, v_caV_il, v_caV_iil, v_caV_l, v_caV_ll, v_caV_r, v_caV_ri, v_caV_rii, v_caV_riii, v_caV_riiii, v_caV_ir, v_caV_iri, v_caV_iiri, v_caS_i, v_caS_ii, v_caS_iii, v_caS_iiii, v_caS_iiiiii, v_caS_il, v_caS_li, v_caS_ll, v_caS_lll, v_caS_ri, v_caS_riii, sh_239, sh_240, sh_241, sh_242, sh_243, sh_244, sh_245, sh_246, sh_247, sh_248, sh_249, sh_250, sh_251, sh_252, sh_253, rf_239_4, rf_239_5, rf_239_6, rf_239_7, rf_239_20, rf_239_21, rf_239_22, rf_239_23, rf_239_27, rf_239_28, rf_239_32, rf_239_33, rf_239_34, rf_239_35, Int.reduceLE, Int.reduceLT, Int.reduceToNat, Int.reduceAdd, Int.reduceSub, Int.reduceMul, Int.reduceNeg, Int.reduceEq, Int.reduceNe, Nat.reduceAdd, Nat.reduceMul, Nat.reduceLT, Nat.reduceEqDiff, or_true, true_or, or_false, false_or, and_false, false_and, not_true_eq_false, not_false_eq_true, ne_eq, cN4, cN5, cN6, cN7, cN13, cN30, cN60, cN64, cN100, cN136, cN240, cN384, cN900, cN2040, cN3, v_sw_eq, v_swM_0, v_swM_1, v_swM_r, v_swM_n, swM_ite, app_ite, ex_some, bI_0, bI_1, nn_iff, Int.toNat_natCast, Int.toNat_of_nonneg, Int.natCast_add, cN1, wI_id2, wL_id2, if_pos, if_neg]
      refine Wd_mono q1 (fun o z hz => ?_)
      obtain ⟨ho, hz⟩ := hz
      subst ho
      simp (disch := omega) only [Wd_some, Wd_bn, Wd_sqM, Wd_outV, Wd_blkM, Wd_swM, Wd_ite, Wd_map, v_kS_0, v_kS_b, v_kS_r, v_kO_r, v_kW_0, v_kW_1, v_kW_2, v_kW_r, v_kL_0, v_kL_1, v_kL_2, v_kL_r, v_kU_0, ups_11, upsN, upsA, upA_same, upA_neA, fl_at, fl_neA, v_sq_eq, v_sqM_0, v_sqM_r, v_sqM_b, v_sqM_n, sqM_ite, v_asI, v_asR, v_inc, v_pfI, v_pfZ, v_pfO, v_paI, v_paO, v_exI, v_iff, v_rtI, v_rtZ, v_rtV, v_sk, v_brk, v_cnt, v_blk_eq, v_blkM_some, blkM_ite, v_lI, v_lR, v_cI, v_gI, v_gR, v_op1, v_op2, v_arI, v_arR, v_alen, v_tern, v_cmp1, v_cmp2, v_cAnd, v_cOr, v_cNot, v_cTern, v_bn_some, bn_ite, v_bn_none, v_outV_r, v_outV_0, v_outV_n, outV_ite, List.getD_cons_zero, List.getD_cons_succ, List.set_cons_zero, List.set_cons_succ, List.take_succ_cons, List.take_zero, List.drop_succ_cons, List.drop_zero, List.nil_append, List.cons_append, Option.map_some, Option.map_none, if_true, if_false, reduceIte, reduceCtorEq, decide_eq_true_eq, Bool.not_eq_true', decide_eq_false_iff_not, decide_eq_true, decide_eq_false, decide_true, decide_false, and_self, and_true, true_and, or_self, stO, v_caV_, v_caV_i, v_caV_ii, v_caV_iii, v_caV_iiii, v_caV_iiiii, v_caV_il, v_caV_iil, v_caV_l, v_caV_ll, v_caV_r, v_caV_ri, v_caV_rii, v_caV_riii, v_caV_riiii, v_caV_ir, v_caV_iri, v_caV_iiri, v_caS_i, v_caS_ii, v_caS_iii, v_caS_iiii, v_caS_iiiiii, v_caS_il, v_caS_li, v_caS_ll, v_caS_lll, v_caS_ri, v_caS_riii, sh_239, sh_240, sh_241, sh_242, sh_243, sh_244, sh_245, sh_246, sh_247, sh_248, sh_249, sh_250, sh_251, sh_252, sh_253, rf_239_4, rf_239_5, rf_239_6, rf_239_7, rf_239_20, rf_239_21, rf_239_22, rf_239_23, rf_239_27, rf_239_28, rf_239_32, rf_239_33, rf_239_34, rf_239_35, Int.reduceLE, Int.reduceLT, Int.reduceToNat, Int.reduceAdd, Int.reduceSub, Int.reduceMul, Int.reduceNeg, Int.reduceEq, Int.reduceNe, Nat.reduceAdd, Nat.reduceMul, Nat.reduceLT, Nat.reduceEqDiff, or_true, true_or, or_false, false_or, and_false, false_and, not_true_eq_false, not_false_eq_true, ne_eq, cN4, cN5, cN6, cN7, cN13, cN30, cN60, cN64, cN100, cN136, cN240, cN384, cN900, cN2040, cN3, v_sw_eq, v_swM_0, v_swM_1, v_swM_r, v_swM_n, swM_ite, app_ite, ex_some, bI_0, bI_1, nn_iff, Int.toNat_natCast, Int.toNat_of_nonneg, Int.natCast_add, cN1, wI_id2, wL_id2, if_pos, if_neg]
      exact fin _ z hz
theorem k_levelAt (hs : isS s) (H : kH σ (s + 1) c) (ht : kT σ (s + 1) c w) (hb : kB σ (s + 1) c w) (hw : WH c) (hT : WT c) (hd : WD c) (hl : LossT s c (c 3) σ) {b : Nat} (b1 : (b : Int) < c 3) {e : Int} (he : enB c e) {k : Nat} (hk : (k : Int) < c 0 * c 1) : F_X6_levelAt (s + 30) b e k σ = some (hearB c b e ((k : Int) % c 0) ((k : Int) / c 0), σ) := by
  obtain ⟨w1, w2, w3, w4⟩ := cell_rng hw hk
  have d1 := (hd b (by omega) b1).1
  unfold hearB posB
  by_cases h6 : e = 6
  · simp (disch := omega) only [F_X6_levelAt, B_X6_levelAt, S_s hs, S_r0 hs, S_r1 hs, S_r2 hs, S_q hs, S_q0 hs, S_q1 hs, S_q2 hs, S_q3 hs, S_q4 hs, S_l hs, S_k hs, S_w hs, S_n hs, S_y hs, S_rl hs, S_sl hs, P_a (S_P hs), P_1 (S_P hs), P_2 (S_P hs), P_3 (S_P hs), P_4 (S_P hs), P_5 (S_P hs), P_6 (S_P hs), P_7 (S_P hs), P_8 (S_P hs), P_9 (S_P hs), P_10 (S_P hs), P_t (S_P hs), P_b (S_P hs), P_g (S_P hs), P_r8 (S_P hs), P_r10 (S_P hs), P_r12 (S_P hs), P_r13 (S_P hs), P_e2 (S_P hs), P_e3 (S_P hs), P_e4 (S_P hs), P_e5 (S_P hs), P_e6 (S_P hs), P_e7 (S_P hs), P_rt (S_P hs), P_rb (S_P hs), P_rg (S_P hs), H.1, H.2.1, H.2.2.1, H.2.2.2.1, H.2.2.2.2.1, H.2.2.2.2.2.1, H.2.2.2.2.2.2.1, H.2.2.2.2.2.2.2.1, H.2.2.2.2.2.2.2.2.1, H.2.2.2.2.2.2.2.2.2, h6, Wd_some, Wd_bn, Wd_sqM, Wd_outV, Wd_blkM, Wd_swM, Wd_ite, Wd_map, v_kS_0, v_kS_b, v_kS_r, v_kO_r, v_kW_0, v_kW_1, v_kW_2, v_kW_r, v_kL_0, v_kL_1, v_kL_2, v_kL_r, v_kU_0, ups_11, upsN, upsA, upA_same, upA_neA, fl_at, fl_neA, v_sq_eq, v_sqM_0, v_sqM_r, v_sqM_b, v_sqM_n, sqM_ite, v_asI, v_asR, v_inc, v_pfI, v_pfZ, v_pfO, v_paI, v_paO, v_exI, v_iff, v_rtI, v_rtZ, v_rtV, v_sk, v_brk, v_cnt, v_blk_eq, v_blkM_some, blkM_ite, v_lI, v_lR, v_cI, v_gI, v_gR, v_op1, v_op2, v_arI, v_arR, v_alen, v_tern, v_cmp1, v_cmp2, v_cAnd, v_cOr, v_cNot, v_cTern, v_bn_some, bn_ite, v_bn_none, v_outV_r, v_outV_0, v_outV_n, outV_ite, List.getD_cons_zero, List.getD_cons_succ, List.set_cons_zero, List.set_cons_succ, List.take_succ_cons, List.take_zero, List.drop_succ_cons, List.drop_zero, List.nil_append, List.cons_append, Option.map_some, Option.map_none, if_true, if_false, reduceIte, reduceCtorEq, decide_eq_true_eq, Bool.not_eq_true', decide_eq_false_iff_not, decide_eq_true, decide_eq_false, decide_true, decide_false, and_self, and_true, true_and, or_self, stO, v_caV_, v_caV_i, v_caV_ii, v_caV_iii, v_caV_iiii, v_caV_iiiii, v_caV_il, v_caV_iil, v_caV_l, v_caV_ll, v_caV_r, v_caV_ri, v_caV_rii, v_caV_riii, v_caV_riiii, v_caV_ir, v_caV_iri, v_caV_iiri, v_caS_i, v_caS_ii, v_caS_iii, v_caS_iiii, v_caS_iiiiii, v_caS_il, v_caS_li, v_caS_ll, v_caS_lll, v_caS_ri, v_caS_riii, sh_239, sh_240, sh_241, sh_242, sh_243, sh_244, sh_245, sh_246, sh_247, sh_248, sh_249, sh_250, sh_251, sh_252, sh_253, rf_239_4, rf_239_5, rf_239_6, rf_239_7, rf_239_20, rf_239_21, rf_239_22, rf_239_23, rf_239_27, rf_239_28, rf_239_32, rf_239_33, rf_239_34, rf_239_35, Int.reduceLE, Int.reduceLT, Int.reduceToNat, Int.reduceAdd, Int.reduceSub, Int.reduceMul, Int.reduceNeg, Int.reduceEq, Int.reduceNe, Nat.reduceAdd, Nat.reduceMul, Nat.reduceLT, Nat.reduceEqDiff, or_true, true_or, or_false, false_or, and_false, false_and, not_true_eq_false, not_false_eq_true, ne_eq, cN4, cN5, cN6, cN7, cN13, cN30, cN60, cN64, cN100, cN136, cN240, cN384, cN900, cN2040, cN3, v_sw_eq, v_swM_0, v_swM_1, v_swM_r, v_swM_n, swM_ite, app_ite, ex_some, bI_0, bI_1, nn_iff, Int.toNat_natCast, Int.toNat_of_nonneg, Int.natCast_add, cN1, wI_id2, wL_id2, if_pos, if_neg]
  · have t1 := hT e (by omega) (by omega)
    have l1 := hl b k b1 hk
    have l2 := lossB_bd hw hd (b := b) (x := (k : Int) % c 0) (y := (k : Int) / c 0) (by omega) b1 (by omega) (by omega)
    simp (disch := omega) only [F_X6_levelAt, B_X6_levelAt, S_s hs, S_r0 hs, S_r1 hs, S_r2 hs, S_q hs, S_q0 hs, S_q1 hs, S_q2 hs, S_q3 hs, S_q4 hs, S_l hs, S_k hs, S_w hs, S_n hs, S_y hs, S_rl hs, S_sl hs, P_a (S_P hs), P_1 (S_P hs), P_2 (S_P hs), P_3 (S_P hs), P_4 (S_P hs), P_5 (S_P hs), P_6 (S_P hs), P_7 (S_P hs), P_8 (S_P hs), P_9 (S_P hs), P_10 (S_P hs), P_t (S_P hs), P_b (S_P hs), P_g (S_P hs), P_r8 (S_P hs), P_r10 (S_P hs), P_r12 (S_P hs), P_r13 (S_P hs), P_e2 (S_P hs), P_e3 (S_P hs), P_e4 (S_P hs), P_e5 (S_P hs), P_e6 (S_P hs), P_e7 (S_P hs), P_rt (S_P hs), P_rb (S_P hs), P_rg (S_P hs), H.1, H.2.1, H.2.2.1, H.2.2.2.1, H.2.2.2.2.1, H.2.2.2.2.2.1, H.2.2.2.2.2.2.1, H.2.2.2.2.2.2.2.1, H.2.2.2.2.2.2.2.2.1, H.2.2.2.2.2.2.2.2.2, h6, kT_1 ht, kB_3 hb, l1, Wd_some, Wd_bn, Wd_sqM, Wd_outV, Wd_blkM, Wd_swM, Wd_ite, Wd_map, v_kS_0, v_kS_b, v_kS_r, v_kO_r, v_kW_0, v_kW_1, v_kW_2, v_kW_r, v_kL_0, v_kL_1, v_kL_2, v_kL_r, v_kU_0, ups_11, upsN, upsA, upA_same, upA_neA, fl_at, fl_neA, v_sq_eq, v_sqM_0, v_sqM_r, v_sqM_b, v_sqM_n, sqM_ite, v_asI, v_asR, v_inc, v_pfI, v_pfZ, v_pfO, v_paI, v_paO, v_exI, v_iff, v_rtI, v_rtZ, v_rtV, v_sk, v_brk, v_cnt, v_blk_eq, v_blkM_some, blkM_ite, v_lI, v_lR, v_cI, v_gI, v_gR, v_op1, v_op2, v_arI, v_arR, v_alen, v_tern, v_cmp1, v_cmp2, v_cAnd, v_cOr, v_cNot, v_cTern, v_bn_some, bn_ite, v_bn_none, v_outV_r, v_outV_0, v_outV_n, outV_ite, List.getD_cons_zero, List.getD_cons_succ, List.set_cons_zero, List.set_cons_succ, List.take_succ_cons, List.take_zero, List.drop_succ_cons, List.drop_zero, List.nil_append, List.cons_append, Option.map_some, Option.map_none, if_true, if_false, reduceIte, reduceCtorEq, decide_eq_true_eq, Bool.not_eq_true', decide_eq_false_iff_not, decide_eq_true, decide_eq_false, decide_true, decide_false, and_self, and_true, true_and, or_self, stO, v_caV_, v_caV_i, v_caV_ii, v_caV_iii, v_caV_iiii, v_caV_iiiii, v_caV_il, v_caV_iil, v_caV_l, v_caV_ll, v_caV_r, v_caV_ri, v_caV_rii, v_caV_riii, v_caV_riiii, v_caV_ir, v_caV_iri, v_caV_iiri, v_caS_i, v_caS_ii, v_caS_iii, v_caS_iiii, v_caS_iiiiii, v_caS_il, v_caS_li, v_caS_ll, v_caS_lll, v_caS_ri, v_caS_riii, sh_239, sh_240, sh_241, sh_242, sh_243, sh_244, sh_245, sh_246, sh_247, sh_248, sh_249, sh_250, sh_251, sh_252, sh_253, rf_239_4, rf_239_5, rf_239_6, rf_239_7, rf_239_20, rf_239_21, rf_239_22, rf_239_23, rf_239_27, rf_239_28, rf_239_32, rf_239_33, rf_239_34, rf_239_35, Int.reduceLE, Int.reduceLT, Int.reduceToNat, Int.reduceAdd, Int.reduceSub, Int.reduceMul, Int.reduceNeg, Int.reduceEq, Int.reduceNe, Nat.reduceAdd, Nat.reduceMul, Nat.reduceLT, Nat.reduceEqDiff, or_true, true_or, or_false, false_or, and_false, false_and, not_true_eq_false, not_false_eq_true, ne_eq, cN4, cN5, cN6, cN7, cN13, cN30, cN60, cN64, cN100, cN136, cN240, cN384, cN900, cN2040, cN3, v_sw_eq, v_swM_0, v_swM_1, v_swM_r, v_swM_n, swM_ite, app_ite, ex_some, bI_0, bI_1, nn_iff, Int.toNat_natCast, Int.toNat_of_nonneg, Int.natCast_add, cN1, wI_id2, wL_id2, if_pos, if_neg]
    trace_state
    sorry
theorem kl_holderAt (hs : isS s) (H : kH σ (s + 1) c) (ht : kT σ (s + 1) c w) (hb : kB σ (s + 1) c w) (hw : WH c) (hT : WT c) (hd : WD c) (hl : LossT s c (c 3) σ) {pl : Nat} (hpl : sh pl = (2, 0, 6)) (hp : plO c (σ pl)) {k : Nat} (hk : (k : Int) < c 0 * c 1) : L_X6_holderAt_0 ([0, 0, (k : Int), 0, -1, 0, 0], [s + 30, pl, 0, 0, 0, 0, 0], σ) = some (.inl 0, ([0, 0, (k : Int), loudB c (σ pl) ((k : Int) % c 0) ((k : Int) / c 0), holdB c (σ pl) ((k : Int) % c 0) ((k : Int) / c 0), c 3, 0], [s + 30, pl, 0, 0, 0, 0, 0], σ)) := by
  refine Wd_out ?_
  unfold L_X6_holderAt_0
  have hn := bn3_c hw
  refine Wd_it (fun i z => z = ([0, 0, (k : Int), mostN (noiB c (σ pl) ((k : Int) % c 0) ((k : Int) / c 0)) i, whoN (noiB c (σ pl) ((k : Int) % c 0) ((k : Int) / c 0)) i, (i : Int), 0], [s + 30, pl, 0, 0, 0, 0, 0], σ)) (bn3 c) rfl ?_ ?_
  · intro i z hi hz
    subst hz
    have e1 := k_levelAt hs H ht hb hw hT hd hl (b := i) (by omega) (hp i (by omega)) hk
    have e2 : hearB c i (σ pl i) ((k : Int) % c 0) ((k : Int) / c 0) = noiB c (σ pl) ((k : Int) % c 0) ((k : Int) / c 0) i := rfl
    rw [e2] at e1
    unfold mostN whoN
    simp (disch := omega) only [C_X6_holderAt_0, D_X6_holderAt_0, U_X6_holderAt_0, S_s hs, S_r0 hs, S_r1 hs, S_r2 hs, S_q hs, S_q0 hs, S_q1 hs, S_q2 hs, S_q3 hs, S_q4 hs, S_l hs, S_k hs, S_w hs, S_n hs, S_y hs, S_rl hs, S_sl hs, P_a (S_P hs), P_1 (S_P hs), P_2 (S_P hs), P_3 (S_P hs), P_4 (S_P hs), P_5 (S_P hs), P_6 (S_P hs), P_7 (S_P hs), P_8 (S_P hs), P_9 (S_P hs), P_10 (S_P hs), P_t (S_P hs), P_b (S_P hs), P_g (S_P hs), P_r8 (S_P hs), P_r10 (S_P hs), P_r12 (S_P hs), P_r13 (S_P hs), P_e2 (S_P hs), P_e3 (S_P hs), P_e4 (S_P hs), P_e5 (S_P hs), P_e6 (S_P hs), P_e7 (S_P hs), P_rt (S_P hs), P_rb (S_P hs), P_rg (S_P hs), H.1, H.2.1, H.2.2.1, H.2.2.2.1, H.2.2.2.2.1, H.2.2.2.2.2.1, H.2.2.2.2.2.2.1, H.2.2.2.2.2.2.2.1, H.2.2.2.2.2.2.2.2.1, H.2.2.2.2.2.2.2.2.2, hpl, e1, Wd_some, Wd_bn, Wd_sqM, Wd_outV, Wd_blkM, Wd_swM, Wd_ite, Wd_map, v_kS_0, v_kS_b, v_kS_r, v_kO_r, v_kW_0, v_kW_1, v_kW_2, v_kW_r, v_kL_0, v_kL_1, v_kL_2, v_kL_r, v_kU_0, ups_11, upsN, upsA, upA_same, upA_neA, fl_at, fl_neA, v_sq_eq, v_sqM_0, v_sqM_r, v_sqM_b, v_sqM_n, sqM_ite, v_asI, v_asR, v_inc, v_pfI, v_pfZ, v_pfO, v_paI, v_paO, v_exI, v_iff, v_rtI, v_rtZ, v_rtV, v_sk, v_brk, v_cnt, v_blk_eq, v_blkM_some, blkM_ite, v_lI, v_lR, v_cI, v_gI, v_gR, v_op1, v_op2, v_arI, v_arR, v_alen, v_tern, v_cmp1, v_cmp2, v_cAnd, v_cOr, v_cNot, v_cTern, v_bn_some, bn_ite, v_bn_none, v_outV_r, v_outV_0, v_outV_n, outV_ite, List.getD_cons_zero, List.getD_cons_succ, List.set_cons_zero, List.set_cons_succ, List.take_succ_cons, List.take_zero, List.drop_succ_cons, List.drop_zero, List.nil_append, List.cons_append, Option.map_some, Option.map_none, if_true, if_false, reduceIte, reduceCtorEq, decide_eq_true_eq, Bool.not_eq_true', decide_eq_false_iff_not, decide_eq_true, decide_eq_false, decide_true, decide_false, and_self, and_true, true_and, or_self, stO, v_caV_, v_caV_i, v_caV_ii, v_caV_iii, v_caV_iiii, v_caV_iiiii, v_caV_il, v_caV_iil, v_caV_l, v_caV_ll, v_caV_r, v_caV_ri, v_caV_rii, v_caV_riii, v_caV_riiii, v_caV_ir, v_caV_iri, v_caV_iiri, v_caS_i, v_caS_ii, v_caS_iii, v_caS_iiii, v_caS_iiiiii, v_caS_il, v_caS_li, v_caS_ll, v_caS_lll, v_caS_ri, v_caS_riii, sh_239, sh_240, sh_241, sh_242, sh_243, sh_244, sh_245, sh_246, sh_247, sh_248, sh_249, sh_250, sh_251, sh_252, sh_253, rf_239_4, rf_239_5, rf_239_6, rf_239_7, rf_239_20, rf_239_21, rf_239_22, rf_239_23, rf_239_27, rf_239_28, rf_239_32, rf_239_33, rf_239_34, rf_239_35, Int.reduceLE, Int.reduceLT, Int.reduceToNat, Int.reduceAdd, Int.reduceSub, Int.reduceMul, Int.reduceNeg, Int.reduceEq, Int.reduceNe, Nat.reduceAdd, Nat.reduceMul, Nat.reduceLT, Nat.reduceEqDiff, or_true, true_or, or_false, false_or, and_false, false_and, not_true_eq_false, not_false_eq_true, ne_eq, cN4, cN5, cN6, cN7, cN13, cN30, cN60, cN64, cN100, cN136, cN240, cN384, cN900, cN2040, cN3, v_sw_eq, v_swM_0, v_swM_1, v_swM_r, v_swM_n, swM_ite, app_ite, ex_some, bI_0, bI_1, nn_iff, Int.toNat_natCast, Int.toNat_of_nonneg, Int.natCast_add, cN1, wI_id2, wL_id2, if_pos, if_neg]
    trace_state
    sorry
  · intro z hz
    subst hz
    simp (disch := omega) only [C_X6_holderAt_0, D_X6_holderAt_0, U_X6_holderAt_0, S_s hs, S_r0 hs, S_r1 hs, S_r2 hs, S_q hs, S_q0 hs, S_q1 hs, S_q2 hs, S_q3 hs, S_q4 hs, S_l hs, S_k hs, S_w hs, S_n hs, S_y hs, S_rl hs, S_sl hs, P_a (S_P hs), P_1 (S_P hs), P_2 (S_P hs), P_3 (S_P hs), P_4 (S_P hs), P_5 (S_P hs), P_6 (S_P hs), P_7 (S_P hs), P_8 (S_P hs), P_9 (S_P hs), P_10 (S_P hs), P_t (S_P hs), P_b (S_P hs), P_g (S_P hs), P_r8 (S_P hs), P_r10 (S_P hs), P_r12 (S_P hs), P_r13 (S_P hs), P_e2 (S_P hs), P_e3 (S_P hs), P_e4 (S_P hs), P_e5 (S_P hs), P_e6 (S_P hs), P_e7 (S_P hs), P_rt (S_P hs), P_rb (S_P hs), P_rg (S_P hs), H.1, H.2.1, H.2.2.1, H.2.2.2.1, H.2.2.2.2.1, H.2.2.2.2.2.1, H.2.2.2.2.2.2.1, H.2.2.2.2.2.2.2.1, H.2.2.2.2.2.2.2.2.1, H.2.2.2.2.2.2.2.2.2, hpl, hn, Wd_some, Wd_bn, Wd_sqM, Wd_outV, Wd_blkM, Wd_swM, Wd_ite, Wd_map, v_kS_0, v_kS_b, v_kS_r, v_kO_r, v_kW_0, v_kW_1, v_kW_2, v_kW_r, v_kL_0, v_kL_1, v_kL_2, v_kL_r, v_kU_0, ups_11, upsN, upsA, upA_same, upA_neA, fl_at, fl_neA, v_sq_eq, v_sqM_0, v_sqM_r, v_sqM_b, v_sqM_n, sqM_ite, v_asI, v_asR, v_inc, v_pfI, v_pfZ, v_pfO, v_paI, v_paO, v_exI, v_iff, v_rtI, v_rtZ, v_rtV, v_sk, v_brk, v_cnt, v_blk_eq, v_blkM_some, blkM_ite, v_lI, v_lR, v_cI, v_gI, v_gR, v_op1, v_op2, v_arI, v_arR, v_alen, v_tern, v_cmp1, v_cmp2, v_cAnd, v_cOr, v_cNot, v_cTern, v_bn_some, bn_ite, v_bn_none, v_outV_r, v_outV_0, v_outV_n, outV_ite, List.getD_cons_zero, List.getD_cons_succ, List.set_cons_zero, List.set_cons_succ, List.take_succ_cons, List.take_zero, List.drop_succ_cons, List.drop_zero, List.nil_append, List.cons_append, Option.map_some, Option.map_none, if_true, if_false, reduceIte, reduceCtorEq, decide_eq_true_eq, Bool.not_eq_true', decide_eq_false_iff_not, decide_eq_true, decide_eq_false, decide_true, decide_false, and_self, and_true, true_and, or_self, stO, v_caV_, v_caV_i, v_caV_ii, v_caV_iii, v_caV_iiii, v_caV_iiiii, v_caV_il, v_caV_iil, v_caV_l, v_caV_ll, v_caV_r, v_caV_ri, v_caV_rii, v_caV_riii, v_caV_riiii, v_caV_ir, v_caV_iri, v_caV_iiri, v_caS_i, v_caS_ii, v_caS_iii, v_caS_iiii, v_caS_iiiiii, v_caS_il, v_caS_li, v_caS_ll, v_caS_lll, v_caS_ri, v_caS_riii, sh_239, sh_240, sh_241, sh_242, sh_243, sh_244, sh_245, sh_246, sh_247, sh_248, sh_249, sh_250, sh_251, sh_252, sh_253, rf_239_4, rf_239_5, rf_239_6, rf_239_7, rf_239_20, rf_239_21, rf_239_22, rf_239_23, rf_239_27, rf_239_28, rf_239_32, rf_239_33, rf_239_34, rf_239_35, Int.reduceLE, Int.reduceLT, Int.reduceToNat, Int.reduceAdd, Int.reduceSub, Int.reduceMul, Int.reduceNeg, Int.reduceEq, Int.reduceNe, Nat.reduceAdd, Nat.reduceMul, Nat.reduceLT, Nat.reduceEqDiff, or_true, true_or, or_false, false_or, and_false, false_and, not_true_eq_false, not_false_eq_true, ne_eq, cN4, cN5, cN6, cN7, cN13, cN30, cN60, cN64, cN100, cN136, cN240, cN384, cN900, cN2040, cN3, v_sw_eq, v_swM_0, v_swM_1, v_swM_r, v_swM_n, swM_ite, app_ite, ex_some, bI_0, bI_1, nn_iff, Int.toNat_natCast, Int.toNat_of_nonneg, Int.natCast_add, cN1, wI_id2, wL_id2, if_pos, if_neg]
    trace_state
    sorry
end KS
/-! sums over rows and columns -/
theorem sumN_zero {f : Nat → Int} : ∀ n : Nat, (∀ k : Nat, k < n → f k = 0) → sumN f n = 0
  | 0, _ => rfl
  | n + 1, h => by
    unfold sumN
    rw [sumN_zero n (fun k hk => h k (by omega)), h n (by omega)]
    rfl
theorem sumN_add {f : Nat → Int} (m : Nat) : ∀ n : Nat, sumN f (m + n) = sumN f m + sumN (fun k => f (m + k)) n
  | 0 => by show sumN f m = sumN f m + 0; omega
  | n + 1 => by
    show sumN f (m + n) + f (m + n) = sumN f m + (sumN (fun k => f (m + k)) n + f (m + n))
    rw [sumN_add m n]
    omega
theorem sumN_cut {f : Nat → Int} {m n : Nat} (h : m ≤ n) (hz : ∀ k : Nat, m ≤ k → k < n → f k = 0) : sumN f n = sumN f m := by
  have e : n = m + (n - m) := by omega
  rw [e, sumN_add, sumN_zero (n - m) (fun k hk => hz (m + k) (by omega) (by omega))]
  omega
/-- row by row -/
theorem sumN_rows {f : Int → Int → Int} {W : Nat} (hW : 0 < W) : ∀ D : Nat, sumN (fun k => f ((k : Int) % W) ((k : Int) / W)) (D * W) = sumN (fun y => sumN (fun x => f x y) W) D
  | 0 => by rw [Nat.zero_mul]; rfl
  | D + 1 => by
    rw [Nat.succ_mul, sumN_add, sumN_rows hW D]
    show _ + sumN _ W = sumN (fun y => sumN (fun x => f x y) W) D + sumN (fun x => f x D) W
    congr 1
    refine sumN_congr W (fun k hk => ?_)
    have e1 : ((D * W + k : Nat) : Int) = (D : Int) * (W : Int) + (k : Int) := by rw [Int.natCast_add, Int.natCast_mul]
    have ⟨q1, q2⟩ := cell_xy (W := (W : Int)) (x := (k : Int)) (y := (D : Int)) (by omega) (by omega)
    rw [e1, q1, q2]
/-! Euclid -/
def eucS : Nat → Int × Int → Int × Int
  | 0, p => p
  | n + 1, p => if p.2 = 0 then p else eucS n (p.2, p.1 % p.2)
theorem eucS_0 (n : Nat) (a : Int) : eucS n (a, 0) = (a, 0) := by
  cases n with
  | zero => rfl
  | succ n => exact if_pos rfl
theorem eucS_end : ∀ (k : Nat) (a b : Int), 0 ≤ a → 0 ≤ b → b < 2 ^ k → (eucS (2 * k) (a, b)).2 = 0
  | 0, a, b, _, hb, h => by
    have h : b < 1 := h
    show b = 0
    omega
  | k + 1, a, b, ha, hb, h => by
    have e : 2 * (k + 1) = (2 * k + 1) + 1 := by omega
    rw [e]
    by_cases h0 : b = 0
    · subst h0
      rw [eucS_0]
    · unfold eucS
      rw [if_neg h0]
      show (eucS (2 * k + 1) (b, a % b)).2 = 0
      have r1 := Int.emod_nonneg a h0
      have r2 := Int.emod_lt_of_pos a (show 0 < b by omega)
      generalize a % b = r at r1 r2
      by_cases hr : r = 0
      · subst hr
        rw [eucS_0]
      · unfold eucS
        rw [if_neg hr]
        show (eucS (2 * k) (r, b % r)).2 = 0
        have s1 := Int.emod_nonneg b hr
        have s2 := Int.emod_lt_of_pos b (show 0 < r by omega)
        have s3 : b = r * (b / r) + b % r := (Int.mul_ediv_add_emod b r).symm
        have s4 : 1 ≤ b / r := by
          have := Int.le_ediv_of_mul_le (a := 1) (b := b) (c := r) (by omega) (by omega)
          exact this
        have s5 : r * 1 ≤ r * (b / r) := Int.mul_le_mul_of_nonneg_left s4 (by omega)
        have p2 : (2 : Int) ^ (k + 1) = 2 ^ k * 2 := Int.pow_succ 2 k
        refine eucS_end k r (b % r) (by omega) s1 ?_
        omega
/-- all that Euclid's steps come to -/
theorem eucS_pos : ∀ (n : Nat) (a b : Int), 0 ≤ a → 0 ≤ b → 0 < a + b → 0 ≤ (eucS n (a, b)).1 ∧ 0 ≤ (eucS n (a, b)).2 ∧ 0 < (eucS n (a, b)).1 + (eucS n (a, b)).2
  | 0, a, b, h1, h2, h3 => ⟨h1, h2, h3⟩
  | n + 1, a, b, h1, h2, h3 => by
    unfold eucS
    by_cases h0 : b = 0
    · rw [if_pos h0]
      exact ⟨h1, h2, h3⟩
    · rw [if_neg h0]
      have r1 := Int.emod_nonneg a h0
      exact eucS_pos n b (a % b) h2 r1 (by omega)
theorem eucS_add : ∀ (m n : Nat) (p : Int × Int), eucS (m + n) p = eucS n (eucS m p)
  | 0, n, p => by rw [Nat.zero_add]; rfl
  | m + 1, n, p => by
    have e : m + 1 + n = (m + n) + 1 := by omega
    rw [e]
    show (if p.2 = 0 then p else eucS (m + n) (p.2, p.1 % p.2)) = eucS n (if p.2 = 0 then p else eucS m (p.2, p.1 % p.2))
    by_cases h0 : p.2 = 0
    · rw [if_pos h0, if_pos h0]
      obtain ⟨a, b⟩ := p
      have h0 : b = 0 := h0
      subst h0
      cases n with
      | zero => rfl
      | succ n => exact (if_pos rfl).symm
    · rw [if_neg h0, if_neg h0]
      exact eucS_add m n _
/-! when tunes fall together -/
def begB (t late beats : Int) : Prop := late ≤ t ∧ (t - late) % beats = 0
theorem begB_bar {l b bar : Int} (hb : 0 < b) (h0 : 0 ≤ bar) : begB (l + bar * b) l b := by
  have p := Int.mul_nonneg h0 (show 0 ≤ b by omega)
  refine ⟨by omega, ?_⟩
  have e : l + bar * b - l = bar * b := by omega
  rw [e]
  exact Int.mul_emod_left bar b
theorem begB_inv {t l b : Int} (hb : 0 < b) (h : begB t l b) : ∃ bar : Int, 0 ≤ bar ∧ t = l + bar * b := by
  refine ⟨(t - l) / b, Int.ediv_nonneg (by have := h.1; omega) (by omega), ?_⟩
  have e := Int.mul_ediv_add_emod (t - l) b
  rw [h.2, Int.mul_comm] at e
  omega
/-- a bar that is b2 bars earlier serves as well, if it isn't too early -/
theorem begB_back {l1 b1 l2 b2 bar : Int} (h : begB (l1 + bar * b1) l2 b2) (hl : l2 ≤ l1 + (bar - b2) * b1) : begB (l1 + (bar - b2) * b1) l2 b2 := by
  refine ⟨hl, ?_⟩
  have e : l1 + (bar - b2) * b1 - l2 = (l1 + bar * b1 - l2) + (-b1) * b2 := by
    rw [Int.sub_mul, Int.neg_mul, Int.mul_comm b2 b1]
    omega
  rw [e, Int.add_mul_emod_self_right]
  exact h.2
theorem begB_first {l1 b1 l2 b2 bar : Int} (h1 : 0 ≤ l1 ∧ l1 ≤ 99) (h2 : 0 ≤ l2 ∧ l2 ≤ 99) (g1 : 1 ≤ b1 ∧ b1 ≤ 99) (g2 : 1 ≤ b2 ∧ b2 ≤ 99) (h0 : 0 ≤ bar) (h : begB (l1 + bar * b1) l2 b2) (hm : ∀ q : Int, 0 ≤ q → q < bar → ¬ begB (l1 + q * b1) l2 b2) : bar < 199 ∧ l1 + bar * b1 < 9901 := by
  by_cases hb : bar < b2
  · have p := mul_bd h0 (show bar ≤ 98 by omega) (show 0 ≤ b1 by omega) g1.2
    omega
  · have hl : ¬ l2 ≤ l1 + (bar - b2) * b1 := fun hl => hm (bar - b2) (by omega) (by omega) (begB_back h hl)
    have e : (bar - b2) * b1 = bar * b1 - b2 * b1 := Int.sub_mul bar b2 b1
    have p := mul_bd (show 0 ≤ b2 by omega) g2.2 (show 0 ≤ b1 by omega) g1.2
    have q : (bar - b2) * 1 ≤ (bar - b2) * b1 := Int.mul_le_mul_of_nonneg_left g1.1 (by omega)
    omega
/-! odds of rain -/
def pasc : Nat → Nat → Int
  | _, 0 => 1
  | 0, _ + 1 => 0
  | n + 1, k + 1 => pasc n k + pasc n (k + 1)
theorem pasc_big : ∀ (n k : Nat), n < k → pasc n k = 0
  | 0, k + 1, _ => rfl
  | n + 1, k + 1, h => by
    show pasc n k + pasc n (k + 1) = 0
    rw [pasc_big n k (by omega), pasc_big n (k + 1) (by omega)]
    rfl
/-- the reference's row of chances behind n hours -/
def chaN (o : Int) : Nat → Nat → Int
  | 0, i => if i = 0 then 1 else 0
  | n + 1, 0 => chaN o n 0 * (16 - o)
  | n + 1, i + 1 => chaN o n (i + 1) * (16 - o) + chaN o n i * o
theorem chaN_eq (o : Int) : ∀ (n i : Nat), i ≤ n → chaN o n i = pasc n i * (o ^ i * (16 - o) ^ (n - i))
  | 0, 0, _ => by
    rw [Int.pow_zero, Nat.sub_zero, Int.pow_zero]
    rfl
  | n + 1, 0, _ => by
    have e2 : chaN o (n + 1) 0 = chaN o n 0 * (16 - o) := rfl
    have e : ∀ m, pasc m 0 = 1 := fun m => by cases m <;> rfl
    rw [e2, chaN_eq o n 0 (by omega), e, e, Nat.sub_zero, Nat.sub_zero, Int.pow_zero, Int.one_mul, Int.one_mul, Int.one_mul, Int.one_mul, Int.pow_succ]
  | n + 1, i + 1, h => by
    show chaN o n (i + 1) * (16 - o) + chaN o n i * o = (pasc n i + pasc n (i + 1)) * (o ^ (i + 1) * (16 - o) ^ (n + 1 - (i + 1)))
    have e0 : n + 1 - (i + 1) = n - i := by omega
    rw [e0, chaN_eq o n i (by omega), Int.add_mul]
    by_cases hi : i + 1 ≤ n
    · rw [chaN_eq o n (i + 1) hi]
      have e1 : n - i = (n - (i + 1)) + 1 := by omega
      have e2 : pasc n (i + 1) * (o ^ (i + 1) * (16 - o) ^ (n - (i + 1))) * (16 - o) = pasc n (i + 1) * (o ^ (i + 1) * (16 - o) ^ (n - i)) := by
        rw [e1, Int.pow_succ (16 - o), Int.mul_assoc, Int.mul_assoc (o ^ (i + 1))]
      have e3 : pasc n i * (o ^ i * (16 - o) ^ (n - i)) * o = pasc n i * (o ^ (i + 1) * (16 - o) ^ (n - i)) := by
        rw [Int.pow_succ o, Int.mul_assoc, Int.mul_assoc (o ^ i), Int.mul_comm _ o, ← Int.mul_assoc (o ^ i)]
      rw [e2, e3, Int.add_comm]
    · have e4 : i = n := by omega
      subst e4
      have e5 : chaN o i (i + 1) = 0 := chaN_big o i (i + 1) (by omega)
      rw [e5, Int.zero_mul, pasc_big i (i + 1) (by omega), Int.zero_mul, Int.zero_add, Int.add_zero, Int.pow_succ o, Int.mul_assoc, Int.mul_assoc (o ^ i), Int.mul_comm _ o, ← Int.mul_assoc (o ^ i)]
where
  chaN_big (o : Int) : ∀ (n i : Nat), n < i → chaN o n i = 0
  | 0, i + 1, _ => rfl
  | n + 1, i + 1, h => by
    show chaN o n (i + 1) * (16 - o) + chaN o n i * o = 0
    rw [chaN_big o n (i + 1) (by omega), chaN_big o n i (by omega), Int.zero_mul, Int.zero_mul]
    rfl
/-! the first of the best rows of entries, hour by hour -/
theorem mostN_ge {v : Nat → Int} : ∀ (n k : Nat), k < n → v k ≤ mostN v n
  | n + 1, k, h => by
    unfold mostN
    by_cases hk : k = n
    · subst hk
      split <;> omega
    · have := mostN_ge (v := v) n k (by omega)
      split <;> omega
theorem mostN_in {v : Nat → Int} (h0 : ∀ k, 0 ≤ v k) : ∀ n : Nat, 0 < n → ∃ k, k < n ∧ v k = mostN v n
  | 1, _ => by
    refine ⟨0, by omega, ?_⟩
    have := h0 0
    show v 0 = if 0 < v 0 then v 0 else 0
    split <;> omega
  | n + 2, _ => by
    obtain ⟨k, hk, e⟩ := mostN_in h0 (n + 1) (by omega)
    show ∃ k, k < n + 2 ∧ v k = if mostN v (n + 1) < v (n + 1) then v (n + 1) else mostN v (n + 1)
    split
    · exact ⟨n + 1, by omega, rfl⟩
    · exact ⟨k, by omega, e⟩
/-- the first of n from i on at which f is M, else the one behind them -/
def firF (f : Nat → Int) (M : Int) : Nat → Nat → Nat
  | 0, i => i
  | n + 1, i => if f i = M then i else firF f M n (i + 1)
theorem firF_le (f : Nat → Int) (M : Int) : ∀ n i, i ≤ firF f M n i ∧ firF f M n i ≤ i + n
  | 0, i => by unfold firF; omega
  | n + 1, i => by
    unfold firF
    have := firF_le f M n (i + 1)
    split <;> omega
theorem firF_first (f : Nat → Int) (M : Int) : ∀ n i k, i ≤ k → k < firF f M n i → f k ≠ M
  | 0, i, k, h1, h2 => by unfold firF at h2; omega
  | n + 1, i, k, h1, h2 => by
    unfold firF at h2
    by_cases h : f i = M
    · rw [if_pos h] at h2
      omega
    · rw [if_neg h] at h2
      by_cases hk : k = i
      · rw [hk]; exact h
      · exact firF_first f M n (i + 1) k (by omega) h2
theorem firF_in (f : Nat → Int) (M : Int) : ∀ n i, (∃ k, i ≤ k ∧ k ≤ i + n ∧ f k = M) → f (firF f M n i) = M
  | 0, i, ⟨k, h1, h2, h3⟩ => by
    have : k = i := by omega
    unfold firF
    rw [← this]
    exact h3
  | n + 1, i, ⟨k, h1, h2, h3⟩ => by
    unfold firF
    by_cases h : f i = M
    · rw [if_pos h]; exact h
    · rw [if_neg h]
      refine firF_in f M n (i + 1) ⟨k, ?_, by omega, h3⟩
      by_cases hk : k = i
      · rw [hk] at h3; exact absurd h3 h
      · omega
section HV
variable (hit : Nat → Int → Nat → Int) (nxt : Int → Nat → Int) (T n : Nat)
/-- the most with m hours left and lips l; there are T + 1 entries -/
def hvV : Nat → Int → Int
  | 0, _ => 0
  | m + 1, l => mostN (fun e => hit (n - (m + 1)) l e + hvV m (nxt l e)) (T + 1)
/-- what a code of m entries comes to -/
def hvH : Nat → Int → Nat → Int
  | 0, _, _ => 0
  | m + 1, l, q => hit (n - (m + 1)) l (q / (T + 1) ^ m) + hvH m (nxt l (q / (T + 1) ^ m)) (q % (T + 1) ^ m)
/-- the first entry that is good, and the first good code -/
def hvE (m : Nat) (l : Int) : Nat := firF (fun e => hit (n - (m + 1)) l e + hvV hit nxt T n m (nxt l e)) (hvV hit nxt T n (m + 1) l) T 0
def hvC : Nat → Int → Nat
  | 0, _ => 0
  | m + 1, l => hvE hit nxt T n m l * (T + 1) ^ m + hvC m (nxt l (hvE hit nxt T n m l))
variable {hit nxt T n}
theorem hvV_0 (h0 : ∀ k l e, 0 ≤ hit k l e) : ∀ m l, 0 ≤ hvV hit nxt T n m l
  | 0, _ => by unfold hvV; omega
  | m + 1, l => by
    have h := mostN_ge (v := fun e => hit (n - (m + 1)) l e + hvV hit nxt T n m (nxt l e)) (T + 1) 0 (by omega)
    have h1 := h0 (n - (m + 1)) l 0
    have h2 := hvV_0 h0 m (nxt l 0)
    have h : hit (n - (m + 1)) l 0 + hvV hit nxt T n m (nxt l 0) ≤ mostN (fun e => hit (n - (m + 1)) l e + hvV hit nxt T n m (nxt l e)) (T + 1) := h
    show 0 ≤ mostN (fun e => hit (n - (m + 1)) l e + hvV hit nxt T n m (nxt l e)) (T + 1)
    omega
theorem hvE_le (m : Nat) (l : Int) : hvE hit nxt T n m l ≤ T := by
  have := firF_le (fun e => hit (n - (m + 1)) l e + hvV hit nxt T n m (nxt l e)) (hvV hit nxt T n (m + 1) l) T 0
  unfold hvE
  omega
theorem hvE_in (h0 : ∀ k l e, 0 ≤ hit k l e) (m : Nat) (l : Int) : hit (n - (m + 1)) l (hvE hit nxt T n m l) + hvV hit nxt T n m (nxt l (hvE hit nxt T n m l)) = hvV hit nxt T n (m + 1) l := by
  obtain ⟨k, hk, e⟩ := mostN_in (v := fun e => hit (n - (m + 1)) l e + hvV hit nxt T n m (nxt l e)) (fun e => Int.add_nonneg (h0 _ _ _) (hvV_0 h0 _ _)) (T + 1) (by omega)
  exact firF_in (fun e => hit (n - (m + 1)) l e + hvV hit nxt T n m (nxt l e)) (hvV hit nxt T n (m + 1) l) T 0 ⟨k, by omega, by omega, e⟩
theorem hvC_lt : ∀ (m : Nat) (l : Int), hvC hit nxt T n m l < (T + 1) ^ m
  | 0, _ => by show 0 < 1; omega
  | m + 1, l => by
    have h1 := hvC_lt m (nxt l (hvE hit nxt T n m l))
    have h2 := hvE_le (hit := hit) (nxt := nxt) (T := T) (n := n) m l
    have h3 : hvE hit nxt T n m l * (T + 1) ^ m ≤ T * (T + 1) ^ m := Nat.mul_le_mul_right _ h2
    have e : (T + 1) ^ (m + 1) = T * (T + 1) ^ m + (T + 1) ^ m := by rw [Nat.pow_succ, Nat.mul_comm, Nat.succ_mul]
    show hvE hit nxt T n m l * (T + 1) ^ m + hvC hit nxt T n m (nxt l (hvE hit nxt T n m l)) < (T + 1) ^ (m + 1)
    omega
theorem hvH_le (h0 : ∀ k l e, 0 ≤ hit k l e) : ∀ (m : Nat) (l : Int) (q : Nat), q < (T + 1) ^ m → hvH hit nxt T n m l q ≤ hvV hit nxt T n m l
  | 0, _, _, _ => Int.le_refl _
  | m + 1, l, q, hq => by
    have hp : 0 < (T + 1) ^ m := Nat.pow_pos (by omega)
    have e : (T + 1) ^ (m + 1) = (T + 1) * (T + 1) ^ m := by rw [Nat.pow_succ, Nat.mul_comm]
    have hd : q / (T + 1) ^ m < T + 1 := Nat.div_lt_of_lt_mul (by rw [Nat.mul_comm, ← e]; exact hq)
    have h1 := hvH_le h0 m (nxt l (q / (T + 1) ^ m)) (q % (T + 1) ^ m) (Nat.mod_lt _ hp)
    have h2 := mostN_ge (v := fun e => hit (n - (m + 1)) l e + hvV hit nxt T n m (nxt l e)) (T + 1) (q / (T + 1) ^ m) hd
    have h2 : hit (n - (m + 1)) l (q / (T + 1) ^ m) + hvV hit nxt T n m (nxt l (q / (T + 1) ^ m)) ≤ mostN (fun e => hit (n - (m + 1)) l e + hvV hit nxt T n m (nxt l e)) (T + 1) := h2
    show hit (n - (m + 1)) l (q / (T + 1) ^ m) + hvH hit nxt T n m (nxt l (q / (T + 1) ^ m)) (q % (T + 1) ^ m) ≤ mostN (fun e => hit (n - (m + 1)) l e + hvV hit nxt T n m (nxt l e)) (T + 1)
    omega
theorem hvC_split (m : Nat) (l : Int) : hvC hit nxt T n (m + 1) l / (T + 1) ^ m = hvE hit nxt T n m l ∧ hvC hit nxt T n (m + 1) l % (T + 1) ^ m = hvC hit nxt T n m (nxt l (hvE hit nxt T n m l)) := by
  have hp : 0 < (T + 1) ^ m := Nat.pow_pos (by omega)
  have h1 := hvC_lt (hit := hit) (nxt := nxt) (T := T) (n := n) m (nxt l (hvE hit nxt T n m l))
  show (hvE hit nxt T n m l * (T + 1) ^ m + hvC hit nxt T n m (nxt l (hvE hit nxt T n m l))) / (T + 1) ^ m = _ ∧ (hvE hit nxt T n m l * (T + 1) ^ m + hvC hit nxt T n m (nxt l (hvE hit nxt T n m l))) % (T + 1) ^ m = _
  constructor
  · rw [Nat.add_comm, Nat.add_mul_div_right _ _ hp, Nat.div_eq_of_lt h1, Nat.zero_add]
  · rw [Nat.add_comm, Nat.add_mul_mod_self_right, Nat.mod_eq_of_lt h1]
theorem hvC_in (h0 : ∀ k l e, 0 ≤ hit k l e) : ∀ (m : Nat) (l : Int), hvH hit nxt T n m l (hvC hit nxt T n m l) = hvV hit nxt T n m l
  | 0, _ => rfl
  | m + 1, l => by
    have ⟨e1, e2⟩ := hvC_split (hit := hit) (nxt := nxt) (T := T) (n := n) m l
    show hit (n - (m + 1)) l (hvC hit nxt T n (m + 1) l / (T + 1) ^ m) + hvH hit nxt T n m (nxt l (hvC hit nxt T n (m + 1) l / (T + 1) ^ m)) (hvC hit nxt T n (m + 1) l % (T + 1) ^ m) = _
    rw [e1, e2, hvC_in h0 m, hvE_in h0]
theorem hvC_first (h0 : ∀ k l e, 0 ≤ hit k l e) : ∀ (m : Nat) (l : Int) (q : Nat), q < hvC hit nxt T n m l → hvH hit nxt T n m l q < hvV hit nxt T n m l
  | 0, l, q, h => by
    have h : q < 0 := h
    omega
  | m + 1, l, q, h => by
    have hp : 0 < (T + 1) ^ m := Nat.pow_pos (by omega)
    have ⟨e1, e2⟩ := hvC_split (hit := hit) (nxt := nxt) (T := T) (n := n) m l
    have hlt := hvC_lt (hit := hit) (nxt := nxt) (T := T) (n := n) (m + 1) l
    have hle : q / (T + 1) ^ m ≤ hvE hit nxt T n m l := by rw [← e1]; exact Nat.div_le_div_right (by omega)
    have q1 := hvH_le (hit := hit) (nxt := nxt) (T := T) (n := n) h0 m (nxt l (q / (T + 1) ^ m)) (q % (T + 1) ^ m) (Nat.mod_lt _ hp)
    show hit (n - (m + 1)) l (q / (T + 1) ^ m) + hvH hit nxt T n m (nxt l (q / (T + 1) ^ m)) (q % (T + 1) ^ m) < hvV hit nxt T n (m + 1) l
    by_cases he : q / (T + 1) ^ m = hvE hit nxt T n m l
    · have q2 : q % (T + 1) ^ m < hvC hit nxt T n m (nxt l (hvE hit nxt T n m l)) := by
        have a1 := Nat.div_add_mod q ((T + 1) ^ m)
        have a2 := Nat.div_add_mod (hvC hit nxt T n (m + 1) l) ((T + 1) ^ m)
        rw [e1, e2] at a2
        rw [he] at a1
        omega
      rw [he]
      have q3 := hvC_first h0 m (nxt l (hvE hit nxt T n m l)) _ q2
      have q4 := hvE_in (hit := hit) (nxt := nxt) (T := T) (n := n) h0 m l
      omega
    · have q2 := firF_first (fun e => hit (n - (m + 1)) l e + hvV hit nxt T n m (nxt l e)) (hvV hit nxt T n (m + 1) l) T 0 (q / (T + 1) ^ m) (by omega) (by show _ < hvE hit nxt T n m l; omega)
      have q2 : ¬ hit (n - (m + 1)) l (q / (T + 1) ^ m) + hvV hit nxt T n m (nxt l (q / (T + 1) ^ m)) = hvV hit nxt T n (m + 1) l := q2
      have q3 := hvE_le (hit := hit) (nxt := nxt) (T := T) (n := n) m l
      have q4 := mostN_ge (v := fun e => hit (n - (m + 1)) l e + hvV hit nxt T n m (nxt l e)) (T + 1) (q / (T + 1) ^ m) (by omega)
      have q4 : hit (n - (m + 1)) l (q / (T + 1) ^ m) + hvV hit nxt T n m (nxt l (q / (T + 1) ^ m)) ≤ hvV hit nxt T n (m + 1) l := q4
      omega
end HV
/-! games -/
def setP (p : Nat → Int) (b : Nat) (e : Int) : Nat → Int := fun k => if k = b then e else p k
theorem setP_id (p : Nat → Int) (b : Nat) : setP p b (p b) = p := by
  funext k
  unfold setP
  split
  · rename_i h; rw [h]
  · rfl
theorem setP_setP (p : Nat → Int) (b : Nat) (e e' : Int) : setP (setP p b e) b e' = setP p b e' := by
  funext k
  unfold setP
  split <;> rfl
def enO (T : Nat) (i : Nat) : Int := if i < T then (i : Int) else 6
def mxN (f : Nat → Int) (ini : Int) : Nat → Int
  | 0 => ini
  | n + 1 => if mxN f ini n < f n then f n else mxN f ini n
def mnN (f : Nat → Int) (ini : Int) : Nat → Int
  | 0 => ini
  | n + 1 => if f n < mnN f ini n then f n else mnN f ini n
theorem mxN_ge {f : Nat → Int} {ini : Int} : ∀ n : Nat, ini ≤ mxN f ini n ∧ ∀ k : Nat, k < n → f k ≤ mxN f ini n
  | 0 => ⟨Int.le_refl _, fun k h => by omega⟩
  | n + 1 => by
    have ⟨h1, h2⟩ := mxN_ge (f := f) (ini := ini) n
    unfold mxN
    refine ⟨by split <;> omega, fun k hk => ?_⟩
    by_cases h : k = n
    · subst h; split <;> omega
    · have := h2 k (by omega)
      split <;> omega
theorem mxN_in {f : Nat → Int} {ini : Int} : ∀ n : Nat, mxN f ini n = ini ∨ ∃ k : Nat, k < n ∧ mxN f ini n = f k
  | 0 => Or.inl rfl
  | n + 1 => by
    unfold mxN
    split
    · exact Or.inr ⟨n, by omega, rfl⟩
    · rcases mxN_in (f := f) (ini := ini) n with h | ⟨k, hk, h⟩
      · exact Or.inl h
      · exact Or.inr ⟨k, by omega, h⟩
theorem mnN_le {f : Nat → Int} {ini : Int} : ∀ n : Nat, mnN f ini n ≤ ini ∧ ∀ k : Nat, k < n → mnN f ini n ≤ f k
  | 0 => ⟨Int.le_refl _, fun k h => by omega⟩
  | n + 1 => by
    have ⟨h1, h2⟩ := mnN_le (f := f) (ini := ini) n
    unfold mnN
    refine ⟨by split <;> omega, fun k hk => ?_⟩
    by_cases h : k = n
    · subst h; split <;> omega
    · have := h2 k (by omega)
      split <;> omega
theorem mnN_in {f : Nat → Int} {ini : Int} : ∀ n : Nat, mnN f ini n = ini ∨ ∃ k : Nat, k < n ∧ mnN f ini n = f k
  | 0 => Or.inl rfl
  | n + 1 => by
    unfold mnN
    split
    · exact Or.inr ⟨n, by omega, rfl⟩
    · rcases mnN_in (f := f) (ini := ini) n with h | ⟨k, hk, h⟩
      · exact Or.inl h
      · exact Or.inr ⟨k, by omega, h⟩
/-- what the first gets with m turns left -/
def gmV (Lf : (Nat → Int) → Int) (a b T : Nat) : Nat → Bool → (Nat → Int) → Int
  | 0, _, p => Lf p
  | m + 1, true, p => mxN (fun i => gmV Lf a b T m false (setP p a (enO T i))) (-30) (T + 1)
  | m + 1, false, p => mnN (fun i => gmV Lf a b T m true (setP p b (enO T i))) 30 (T + 1)
theorem gmV_bd {Lf : (Nat → Int) → Int} {a b T : Nat} (G : (Nat → Int) → Prop) (hG : ∀ p, G p → -30 ≤ Lf p ∧ Lf p ≤ 30) (hs : ∀ p i, i ≤ T → G p → G (setP p a (enO T i)) ∧ G (setP p b (enO T i))) : ∀ (m : Nat) (f : Bool) (p : Nat → Int), G p → -30 ≤ gmV Lf a b T m f p ∧ gmV Lf a b T m f p ≤ 30
  | 0, _, p, hp => by unfold gmV; exact hG p hp
  | m + 1, true, p, hp => by
    unfold gmV
    have h1 := mxN_ge (f := fun i => gmV Lf a b T m false (setP p a (enO T i))) (ini := -30) (T + 1)
    rcases mxN_in (f := fun i => gmV Lf a b T m false (setP p a (enO T i))) (ini := -30) (T + 1) with h | ⟨k, hk, h⟩
    · omega
    · have := gmV_bd G hG hs m false (setP p a (enO T k)) (hs p k (by omega) hp).1
      rw [h]
      exact this
  | m + 1, false, p, hp => by
    unfold gmV
    rcases mnN_in (f := fun i => gmV Lf a b T m true (setP p b (enO T i))) (ini := 30) (T + 1) with h | ⟨k, hk, h⟩
    · omega
    · have := gmV_bd G hG hs m true (setP p b (enO T k)) (hs p k (by omega) hp).2
      rw [h]
      exact this
/-! ways: what can be come to in t steps -/
section QU
variable (ok : Int → Int → Prop) (fx fy : Int)
def RQ : Nat → Int → Int → Prop
  | 0, x, y => (x = fx ∧ y = fy) ∧ ok x y
  | t + 1, x, y => RQ t x y ∨ (ok x y ∧ (RQ t (x - 1) y ∨ RQ t x (y - 1) ∨ RQ t (x + 1) y ∨ RQ t x (y + 1)))
/-- v is how many steps it takes, -1: it can't be come to -/
def isD (v x y : Int) : Prop := (v = -1 ∧ ∀ t, ¬ RQ ok fx fy t x y) ∨ (0 ≤ v ∧ RQ ok fx fy v.toNat x y ∧ ∀ t : Nat, RQ ok fx fy t x y → v ≤ t)
variable {ok fx fy}
theorem RQ_ok : ∀ {t : Nat} {x y : Int}, RQ ok fx fy t x y → ok x y
  | 0, _, _, h => h.2
  | t + 1, x, y, h => by
    rcases h with h | h
    · exact RQ_ok h
    · exact h.1
theorem RQ_mono {t u : Nat} {x y : Int} (h : t ≤ u) (r : RQ ok fx fy t x y) : RQ ok fx fy u x y := by
  have e : u = t + (u - t) := by omega
  rw [e]
  generalize u - t = d
  induction d with
  | zero => exact r
  | succ d ih => exact Or.inl ih
theorem isD_unique {v v' x y : Int} (h : isD ok fx fy v x y) (h' : isD ok fx fy v' x y) : v = v' := by
  rcases h with ⟨h1, h2⟩ | ⟨h1, h2, h3⟩
  · rcases h' with ⟨g1, g2⟩ | ⟨g1, g2, g3⟩
    · omega
    · exact absurd g2 (h2 _)
  · rcases h' with ⟨g1, g2⟩ | ⟨g1, g2, g3⟩
    · exact absurd h2 (g2 _)
    · have a := h3 _ g2
      have b := g3 _ h2
      omega
/-- a row of steps in which nobody is further from one beside it than one step holds all that can be come to -/
theorem RQ_all (st : Int → Int → Int) (h0 : ok fx fy → st fx fy = 0) (hn : ∀ x y x' y', (x' = x + 1 ∧ y' = y ∨ x' = x ∧ y' = y + 1 ∨ x' = x - 1 ∧ y' = y ∨ x' = x ∧ y' = y - 1) → ok x y → ok x' y' → 0 ≤ st x y → 0 ≤ st x' y' ∧ st x' y' ≤ st x y + 1) : ∀ (t : Nat) (x y : Int), RQ ok fx fy t x y → 0 ≤ st x y ∧ st x y ≤ t
  | 0, x, y, h => by
    obtain ⟨⟨h1, h2⟩, h3⟩ := h
    subst h1; subst h2
    rw [h0 h3]
    omega
  | t + 1, x, y, h => by
    rcases h with h | ⟨h1, h⟩
    · have := RQ_all st h0 hn t x y h
      omega
    · rcases h with h | h | h | h
      · have a := RQ_all st h0 hn t _ _ h
        have b := hn (x - 1) y x y (Or.inl ⟨by omega, rfl⟩) (RQ_ok h) h1 a.1
        omega
      · have a := RQ_all st h0 hn t _ _ h
        have b := hn x (y - 1) x y (Or.inr (Or.inl ⟨rfl, by omega⟩)) (RQ_ok h) h1 a.1
        omega
      · have a := RQ_all st h0 hn t _ _ h
        have b := hn (x + 1) y x y (Or.inr (Or.inr (Or.inl ⟨by omega, rfl⟩))) (RQ_ok h) h1 a.1
        omega
      · have a := RQ_all st h0 hn t _ _ h
        have b := hn x (y + 1) x y (Or.inr (Or.inr (Or.inr ⟨rfl, by omega⟩))) (RQ_ok h) h1 a.1
        omega
/-- where all is open there is a way -/
theorem RQ_open {W D : Int} (hok : ∀ x y, (0 ≤ x ∧ x < W) ∧ (0 ≤ y ∧ y < D) → ok x y) (hf : (0 ≤ fx ∧ fx < W) ∧ (0 ≤ fy ∧ fy < D)) : ∀ (n : Nat) (x y : Int), (0 ≤ x ∧ x < W) ∧ (0 ≤ y ∧ y < D) → (absB (x - fx) + absB (y - fy)).toNat = n → ∃ t, RQ ok fx fy t x y
  | 0, x, y, hx, hn => by
    have e1 : x = fx ∧ y = fy := by
      unfold absB at hn
      split at hn <;> split at hn <;> omega
    exact ⟨0, e1, hok x y hx⟩
  | n + 1, x, y, hx, hn => by
    have A1 := absB_or (x - fx)
    have A2 := absB_or (y - fy)
    have A3 := absB_or (x - 1 - fx)
    have A4 := absB_or (x + 1 - fx)
    have A5 := absB_or (y - 1 - fy)
    have A6 := absB_or (y + 1 - fy)
    by_cases h1 : fx < x
    · obtain ⟨t, ht⟩ := RQ_open hok hf n (x - 1) y (by omega) (by omega)
      exact ⟨t + 1, Or.inr ⟨hok x y hx, Or.inl ht⟩⟩
    · by_cases h2 : x < fx
      · obtain ⟨t, ht⟩ := RQ_open hok hf n (x + 1) y (by omega) (by omega)
        exact ⟨t + 1, Or.inr ⟨hok x y hx, Or.inr (Or.inr (Or.inl ht))⟩⟩
      · by_cases h3 : fy < y
        · obtain ⟨t, ht⟩ := RQ_open hok hf n x (y - 1) (by omega) (by omega)
          exact ⟨t + 1, Or.inr ⟨hok x y hx, Or.inr (Or.inl ht)⟩⟩
        · obtain ⟨t, ht⟩ := RQ_open hok hf n x (y + 1) (by omega) (by omega)
          exact ⟨t + 1, Or.inr ⟨hok x y hx, Or.inr (Or.inr (Or.inr ht))⟩⟩
end QU
