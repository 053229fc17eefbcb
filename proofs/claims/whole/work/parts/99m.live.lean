/-! evenings: what they come to -/
abbrev LvT : Type := (Nat → Int) × (Nat → Int)
def drN (d : Int) : Int := (d * 2971 + 10781) % 65536
def wdP (v : Int) (x : LvT) : Int × LvT := if x.1 8 = v then (0, x) else (1, (upc x.1 8 v, x.2))
def rnP (v : Int) (x : LvT) : Int × LvT := if x.1 9 = v then (0, x) else (1, (upc x.1 9 v, x.2))
def hrP (n : Int) (x : LvT) : Int × LvT := if 9999 < x.1 7 + n then (0, x) else (1, (hrN x.1 n.toNat, upc (upc (upc x.2 4 (x.2 4 + tiN x.1 n.toNat)) 3 (x.2 3 + gotN x.1 n.toNat)) 2 (x.2 2 + n)))
def stP (b k e : Int) (x : LvT) : Int × LvT := if x.1 (64 + b).toNat ≤ k then (0, x) else (1, (upc x.1 (70 + 6 * b + k).toNat e, x.2))
def anP (x : LvT) : LvT := (upc (upc x.1 9 (if drN (x.2 7) / 8 % 16 < x.1 6 then 1 else 0)) 8 (drN (drN (x.2 7)) / 8 % 5), upc x.2 7 (drN (drN (x.2 7))))
def plS (i : Nat) (x : LvT) : Int × LvT :=
  if x.1 (138 + 9 * i) = 0 then hrP (x.1 (139 + 9 * i)) x else if x.1 (138 + 9 * i) = 1 then wdP (x.1 (139 + 9 * i)) x else if x.1 (138 + 9 * i) = 2 then wdP 4 x else if x.1 (138 + 9 * i) = 3 then rnP 1 x else if x.1 (138 + 9 * i) = 4 then rnP 0 x
  else if x.1 (138 + 9 * i) = 5 then stP (x.1 (139 + 9 * i)) (x.1 (140 + 9 * i)) (x.1 (141 + 9 * i)) x else if x.1 (138 + 9 * i) = 6 then (1, anP x) else (1, (x.1, upc x.2 6 1))
def cmB (o v n : Int) : Int := if o = 60 then (if v < n then 1 else 0) else if o = 62 then (if n < v then 1 else 0) else if v = n then 1 else 0
def tsB (i : Nat) (c : Nat → Int) : Int := if c (144 + 9 * i) = 2 then c 9 else if c (144 + 9 * i) = 1 then (if andI (shrI (tirB c (bn3 c)) (c (139 + 9 * i))) 1 = 1 then 1 else 0) else cmB (c (145 + 9 * i)) (cellsB c (playP c) (c (139 + 9 * i))) (c (140 + 9 * i))
def exR (F : LvT → LvT) : Nat → LvT → LvT
  | 0, x => x
  | n + 1, x => if x.2 6 = 0 then exR F n (F x) else x
def exP (q : Int × LvT) : LvT := if q.1 = 1 then q.2 else (q.2.1, upc q.2.2 1 (q.2.2 1 + 1))
def exO (F : Int → Int → LvT → LvT) (i : Nat) (x : LvT) : LvT :=
  if x.2 0 = 300 then (x.1, upc (upc x.2 5 1) 6 1)
  else if x.1 (138 + 9 * i) = 7 then (if tsB i x.1 = 1 then F ((i : Int) + 1) (x.1 (146 + 9 * i)) (x.1, upc x.2 0 (x.2 0 + 1)) else (x.1, upc x.2 0 (x.2 0 + 1)))
  else if x.1 (138 + 9 * i) = 8 then exR (F ((i : Int) + 1) (x.1 (146 + 9 * i))) (x.1 (139 + 9 * i)).toNat (x.1, upc x.2 0 (x.2 0 + 1))
  else exP (plS i (x.1, upc x.2 0 (x.2 0 + 1)))
def exL (O : Nat → LvT → LvT) (to : Int) : Nat → Nat → LvT → LvT
  | 0, _, x => x
  | n + 1, i, x => if (i : Int) < to ∧ x.2 6 = 0 then exL O to n (x.1 (146 + 9 * i)).toNat (O i x) else x
def exB : Nat → Int → Int → LvT → LvT
  | 0 => fun _ _ x => x
  | d + 1 => fun fr to x => exL (exO (exB d)) to 30 fr.toNat x
/-- what holds of such a state; c0 the block at the beginning -/
def LvW (c0 : Nat → Int) (x : LvT) : Prop := WB x.1 ∧ WQ x.1 ∧ x.1 7 ≤ 9999 ∧ (∀ k, 136 ≤ k → x.1 k = c0 k) ∧ (x.1 2 = c0 2 ∧ x.1 3 = c0 3) ∧ (0 ≤ x.2 0 ∧ x.2 0 ≤ 300) ∧ (0 ≤ x.2 1 ∧ x.2 1 ≤ x.2 0) ∧ (0 ≤ x.2 2 ∧ x.2 2 ≤ 20 * x.2 0) ∧ (0 ≤ x.2 3 ∧ x.2 3 ≤ 10800 * x.2 0) ∧ (0 ≤ x.2 4 ∧ x.2 4 ≤ 120 * x.2 0) ∧ (x.2 5 = 0 ∨ x.2 5 = 1) ∧ (x.2 6 = 0 ∨ x.2 6 = 1) ∧ (0 ≤ x.2 7 ∧ x.2 7 ≤ 65535)
/-- one step more was begun: room for what it does -/
def LvX (c0 : Nat → Int) (x : LvT) : Prop := WB x.1 ∧ WQ x.1 ∧ x.1 7 ≤ 9999 ∧ (∀ k, 136 ≤ k → x.1 k = c0 k) ∧ (x.1 2 = c0 2 ∧ x.1 3 = c0 3) ∧ (1 ≤ x.2 0 ∧ x.2 0 ≤ 300) ∧ (0 ≤ x.2 1 ∧ x.2 1 ≤ x.2 0 - 1) ∧ (0 ≤ x.2 2 ∧ x.2 2 ≤ 20 * (x.2 0 - 1)) ∧ (0 ≤ x.2 3 ∧ x.2 3 ≤ 10800 * (x.2 0 - 1)) ∧ (0 ≤ x.2 4 ∧ x.2 4 ≤ 120 * (x.2 0 - 1)) ∧ (x.2 5 = 0 ∨ x.2 5 = 1) ∧ (x.2 6 = 0 ∨ x.2 6 = 1) ∧ (0 ≤ x.2 7 ∧ x.2 7 ≤ 65535)
section LW0
variable {c0 : Nat → Int} {x : LvT}
theorem LvX_W (h : LvX c0 x) : LvW c0 x := by
  obtain ⟨h1, h2, h3, h4, h5, h6, h7, h8, h9, h10, h11, h12, h13⟩ := h
  exact ⟨h1, h2, h3, h4, h5, by omega, by omega, by omega, by omega, by omega, h11, h12, h13⟩
theorem LvW_X (h : LvW c0 x) (n3 : ¬ x.2 0 = 300) : LvX c0 (x.1, upc x.2 0 (x.2 0 + 1)) := by
  obtain ⟨h1, h2, h3, h4, h5, h6, h7, h8, h9, h10, h11, h12, h13⟩ := h
  have e : ∀ k, k ≠ 0 → upc x.2 0 (x.2 0 + 1) k = x.2 k := fun k hk => upc_ne hk
  unfold LvX
  dsimp only
  rw [upc_same, e 1 (by omega), e 2 (by omega), e 3 (by omega), e 4 (by omega), e 5 (by omega), e 6 (by omega), e 7 (by omega)]
  exact ⟨h1, h2, h3, h4, h5, by omega, by omega, by omega, by omega, by omega, h11, h12, h13⟩
theorem LvX_c (h : LvX c0 x) {c : Nat → Int} (w : WB c) (q : WQ c) (h7 : c 7 ≤ 9999) (hk : ∀ k, 136 ≤ k → c k = x.1 k) (h2 : c 2 = x.1 2) (h3 : c 3 = x.1 3) : LvX c0 (c, x.2) := by
  obtain ⟨_, _, _, p4, p5, p6⟩ := h
  unfold LvX
  dsimp only
  exact ⟨w, q, h7, fun k hk2 => by rw [hk k hk2, p4 k hk2], ⟨by rw [h2]; exact p5.1, by rw [h3]; exact p5.2⟩, p6⟩
theorem WH_8 {c : Nat → Int} (hw : WH c) {v : Int} (h : 0 ≤ v ∧ v ≤ 4) : WH (upc c 8 v) := by
  unfold WH
  rw [upc_ne (show 0 ≠ 8 by omega), upc_ne (show 1 ≠ 8 by omega), upc_ne (show 2 ≠ 8 by omega), upc_ne (show 3 ≠ 8 by omega), upc_ne (show 4 ≠ 8 by omega), upc_ne (show 5 ≠ 8 by omega), upc_ne (show 6 ≠ 8 by omega), upc_ne (show 7 ≠ 8 by omega), upc_ne (show 9 ≠ 8 by omega), upc_same]
  omega
theorem WH_9 {c : Nat → Int} (hw : WH c) {v : Int} (h : 0 ≤ v ∧ v ≤ 1) : WH (upc c 9 v) := by
  unfold WH
  rw [upc_ne (show 0 ≠ 9 by omega), upc_ne (show 1 ≠ 9 by omega), upc_ne (show 2 ≠ 9 by omega), upc_ne (show 3 ≠ 9 by omega), upc_ne (show 4 ≠ 9 by omega), upc_ne (show 5 ≠ 9 by omega), upc_ne (show 6 ≠ 9 by omega), upc_ne (show 7 ≠ 9 by omega), upc_ne (show 8 ≠ 9 by omega), upc_same]
  omega
theorem LvX_8 (h : LvX c0 x) {v : Int} (hv : 0 ≤ v ∧ v ≤ 4) : LvX c0 (upc x.1 8 v, x.2) :=
  LvX_c h (WB_upH h.1 (by omega) (WH_8 h.1.1 hv)) (WQ_upH h.2.1 (by omega)) (by rw [upc_ne (by omega)]; exact h.2.2.1) (fun k hk => upc_ne (by omega)) (upc_ne (by omega)) (upc_ne (by omega))
theorem LvX_9 (h : LvX c0 x) {v : Int} (hv : 0 ≤ v ∧ v ≤ 1) : LvX c0 (upc x.1 9 v, x.2) :=
  LvX_c h (WB_upH h.1 (by omega) (WH_9 h.1.1 hv)) (WQ_upH h.2.1 (by omega)) (by rw [upc_ne (by omega)]; exact h.2.2.1) (fun k hk => upc_ne (by omega)) (upc_ne (by omega)) (upc_ne (by omega))
theorem LvX_e (h : LvX c0 x) {b k : Nat} {e : Int} (hb : (b : Int) < x.1 3) (hk : k < 6) (he : enB x.1 e) : LvX c0 (upc x.1 (70 + 6 * b + k) e, x.2) := by
  have hH := h.1.1
  exact LvX_c h (WB_D h.1 (fun j hj => upc_ne (by omega)) (WD_upE h.1.1 h.1.2.2.1 hb hk he)) (WQ_up h.1.1 h.2.1 (by omega)) (by rw [upc_ne (by omega)]; exact h.2.2.1) (fun j hj => upc_ne (by omega)) (upc_ne (by omega)) (upc_ne (by omega))
theorem drN_bd (d : Int) : 0 ≤ drN d ∧ drN d ≤ 65535 := by unfold drN; omega
theorem LvX_d (h : LvX c0 x) (d : Int) : LvX c0 (x.1, upc x.2 7 (drN d)) := by
  obtain ⟨h1, h2, h3, h4, h5, h6, h7, h8, h9, h10, h11, h12, h13⟩ := h
  have e : ∀ k, k ≠ 7 → upc x.2 7 (drN d) k = x.2 k := fun k hk => upc_ne hk
  unfold LvX
  dsimp only
  rw [upc_same, e 0 (by omega), e 1 (by omega), e 2 (by omega), e 3 (by omega), e 4 (by omega), e 5 (by omega), e 6 (by omega)]
  exact ⟨h1, h2, h3, h4, h5, h6, h7, h8, h9, h10, h11, h12, drN_bd d⟩
theorem LvW_s (h : LvX c0 x) : LvX c0 (x.1, upc x.2 6 1) := by
  obtain ⟨h1, h2, h3, h4, h5, h6, h7, h8, h9, h10, h11, h12, h13⟩ := h
  have e : ∀ k, k ≠ 6 → upc x.2 6 1 k = x.2 k := fun k hk => upc_ne hk
  unfold LvX
  dsimp only
  rw [upc_same, e 0 (by omega), e 1 (by omega), e 2 (by omega), e 3 (by omega), e 4 (by omega), e 5 (by omega), e 7 (by omega)]
  exact ⟨h1, h2, h3, h4, h5, h6, h7, h8, h9, h10, h11, Or.inr rfl, h13⟩
theorem LvW_h (h : LvX c0 x) {n : Nat} (h1 : 1 ≤ n ∧ n ≤ 20) (h9 : ¬ 9999 < x.1 7 + n) : LvW c0 (hrN x.1 n, upc (upc (upc x.2 4 (x.2 4 + tiN x.1 n)) 3 (x.2 3 + gotN x.1 n)) 2 (x.2 2 + n)) := by
  obtain ⟨q1, q2, q3, q4, q5, q6, q7, q8, q9, q10, q11, q12, q13⟩ := h
  obtain ⟨g1, g2, g3, g4⟩ := hrN_ok q1 q2 n (by omega)
  have o := fun (k : Nat) (k1 : k ≠ 7) (k2 : ¬ (46 ≤ k ∧ k < 52)) (k3 : ¬ (58 ≤ k ∧ k < 64)) => hrN_o q1 q2 k1 k2 k3 n (by omega)
  have b1 := gotN_bd q1 q2 n (by omega)
  have b2 := tiN_bd x.1 n
  unfold LvW
  dsimp only
  refine ⟨g1, g2, by rw [g4]; omega, fun k hk => by rw [o k (by omega) (by omega) (by omega)]; exact q4 k hk, ⟨by rw [o 2 (by omega) (by omega) (by omega)]; exact q5.1, by rw [o 3 (by omega) (by omega) (by omega)]; exact q5.2⟩, ?_⟩
  have e0 : upc (upc (upc x.2 4 (x.2 4 + tiN x.1 n)) 3 (x.2 3 + gotN x.1 n)) 2 (x.2 2 + n) 0 = x.2 0 := by rw [upc_ne (by omega), upc_ne (by omega), upc_ne (by omega)]
  have e1 : upc (upc (upc x.2 4 (x.2 4 + tiN x.1 n)) 3 (x.2 3 + gotN x.1 n)) 2 (x.2 2 + n) 1 = x.2 1 := by rw [upc_ne (by omega), upc_ne (by omega), upc_ne (by omega)]
  have e2 : upc (upc (upc x.2 4 (x.2 4 + tiN x.1 n)) 3 (x.2 3 + gotN x.1 n)) 2 (x.2 2 + n) 2 = x.2 2 + n := upc_same _ _ _
  have e3 : upc (upc (upc x.2 4 (x.2 4 + tiN x.1 n)) 3 (x.2 3 + gotN x.1 n)) 2 (x.2 2 + n) 3 = x.2 3 + gotN x.1 n := by rw [upc_ne (by omega), upc_same]
  have e4 : upc (upc (upc x.2 4 (x.2 4 + tiN x.1 n)) 3 (x.2 3 + gotN x.1 n)) 2 (x.2 2 + n) 4 = x.2 4 + tiN x.1 n := by rw [upc_ne (by omega), upc_ne (by omega), upc_same]
  have e5 : upc (upc (upc x.2 4 (x.2 4 + tiN x.1 n)) 3 (x.2 3 + gotN x.1 n)) 2 (x.2 2 + n) 5 = x.2 5 := by rw [upc_ne (by omega), upc_ne (by omega), upc_ne (by omega)]
  have e6 : upc (upc (upc x.2 4 (x.2 4 + tiN x.1 n)) 3 (x.2 3 + gotN x.1 n)) 2 (x.2 2 + n) 6 = x.2 6 := by rw [upc_ne (by omega), upc_ne (by omega), upc_ne (by omega)]
  have e7 : upc (upc (upc x.2 4 (x.2 4 + tiN x.1 n)) 3 (x.2 3 + gotN x.1 n)) 2 (x.2 2 + n) 7 = x.2 7 := by rw [upc_ne (by omega), upc_ne (by omega), upc_ne (by omega)]
  rw [e0, e1, e2, e3, e4, e5, e6, e7]
  exact ⟨by omega, by omega, by omega, by omega, by omega, q11, q12, q13⟩
theorem LvW_m (h : LvX c0 x) : LvW c0 (x.1, upc x.2 1 (x.2 1 + 1)) := by
  obtain ⟨h1, h2, h3, h4, h5, h6, h7, h8, h9, h10, h11, h12, h13⟩ := h
  have e : ∀ k, k ≠ 1 → upc x.2 1 (x.2 1 + 1) k = x.2 k := fun k hk => upc_ne hk
  unfold LvW
  dsimp only
  rw [upc_same, e 0 (by omega), e 2 (by omega), e 3 (by omega), e 4 (by omega), e 5 (by omega), e 6 (by omega), e 7 (by omega)]
  exact ⟨h1, h2, h3, h4, h5, by omega, by omega, by omega, by omega, by omega, h11, h12, h13⟩
theorem LvW_l (h : LvW c0 x) : LvW c0 (x.1, upc (upc x.2 5 1) 6 1) := by
  obtain ⟨h1, h2, h3, h4, h5, h6, h7, h8, h9, h10, h11, h12, h13⟩ := h
  have e : ∀ k, k ≠ 5 → k ≠ 6 → upc (upc x.2 5 1) 6 1 k = x.2 k := fun k hk hk2 => by rw [upc_ne hk2, upc_ne hk]
  have e5 : upc (upc x.2 5 1) 6 1 5 = 1 := by rw [upc_ne (by omega), upc_same]
  unfold LvW
  dsimp only
  rw [upc_same, e5, e 0 (by omega) (by omega), e 1 (by omega) (by omega), e 2 (by omega) (by omega), e 3 (by omega) (by omega), e 4 (by omega) (by omega), e 7 (by omega) (by omega)]
  exact ⟨h1, h2, h3, h4, h5, h6, h7, h8, h9, h10, Or.inr rfl, Or.inr rfl, h13⟩
/-- the steps of x are those of c0 -/
theorem Lv_S (F : WfF c0) (h4 : ∀ k, 136 ≤ k → x.1 k = c0 k) {i : Nat} (hi : (i : Int) < c0 137) : x.1 (138 + 9 * i) = c0 (138 + 9 * i) ∧ x.1 (139 + 9 * i) = c0 (139 + 9 * i) ∧ x.1 (140 + 9 * i) = c0 (140 + 9 * i) ∧ x.1 (141 + 9 * i) = c0 (141 + 9 * i) ∧ x.1 (144 + 9 * i) = c0 (144 + 9 * i) ∧ x.1 (145 + 9 * i) = c0 (145 + 9 * i) ∧ x.1 (146 + 9 * i) = c0 (146 + 9 * i) :=
  ⟨h4 _ (by omega), h4 _ (by omega), h4 _ (by omega), h4 _ (by omega), h4 _ (by omega), h4 _ (by omega), h4 _ (by omega)⟩
end LW0
