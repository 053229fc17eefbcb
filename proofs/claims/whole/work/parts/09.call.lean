def YV (y : MethodName) (cc : ByteArray) (nL : Nat) (ret : Option FieldType) (n ci : Nat) : Prop := YW y cc nL ret n ∧ Cond.instanceMethod y ∈ gtb ∧ Cond.selects y.cls y y ∈ gtb ∧ ∃ q : vw_C, vwCl[ci]? = some q ∧ q.1 = y.cls
def YS (y : MethodName) (cc : ByteArray) (nL : Nat) (ret : Option FieldType) (n : Nat) : Prop := YW y cc nL ret n ∧ Cond.static y ∈ gtb
/-! calls, by the kinds of what is handed over -/
def caS_i (F : Int → SS → Option (Int × SS)) (e1 : XI) : XI := fun z => bn (e1 z) fun x1 s1 => F x1 s1
def MS_i (l : Launch) (y : MethodName) (cc : ByteArray) (nL : Nat) (ret : Option FieldType) (h rk : Nat) (F : Int → SS → Option (Int × SS)) : Prop := ∀ (x1 : Int) (σ : SS) (r : Int) (σ' : SS), True → inI x1 → F x1 σ = some (r, σ') → Mt l y cc nL ret h rk (fun b => [vI x1]) σ r σ'
theorem e_caS_i_0 {l : Launch} {b : Nat} {V : VV} {cc : ByteArray} {own : String} {nL h : Nat} {Γ : GG} {d p p1 : Nat} {e1 : XI} {F : Int → SS → Option (Int × SS)} {y : MethodName} {cy : ByteArray} {nLy hy index : Nat} {ret : Option FieldType} (C : Ctx l b V cc own nL h) (h1 : EI V Γ d p e1 p1) (hM : MS_i l y cy nLy ret hy 0 F) (hY : YS y cy nLy ret 1) (hl1 : Cond.methodLink own index y ∈ gtb) (hh : hy + 1 ≤ h) (hd8 : d ≤ 8) (hd : decode cc p1 = .ok (.invokestatic index, 3)) {q9 : Nat} (hq : p1 + 3 = q9) : EI V Γ d p (caS_i F e1) q9 := by
  subst hq
  intro L R σ st x σ' hdp he k
  obtain ⟨x1, s1, ee1, he⟩ := bn_inv he
  exact (h1 L R σ _ x1 s1 hdp ee1 (fun hx1 => (by obtain ⟨hY1, hY2⟩ := hY; exact i_callS (As := [vI x1]) (st := st) C (hM x1 s1 _ _ trivial hx1 he) hY1 hY2 hl1 hh rfl rfl (Nat.le_trans hdp hd8) hd (fun hr => k hr))))
theorem e_caS_i_3 {l : Launch} {b : Nat} {V : VV} {cc : ByteArray} {own : String} {nL h : Nat} {Γ : GG} {d p p1 : Nat} {e1 : XI} {F : Int → SS → Option (Int × SS)} {y : MethodName} {cy : ByteArray} {nLy hy index : Nat} {ret : Option FieldType} (C : Ctx l b V cc own nL h) (h1 : EI V Γ d p e1 p1) (hM : MS_i l y cy nLy ret hy 3 F) (hY : YS y cy nLy ret 1) (hl1 : Cond.methodLink own index y ∈ gtb) (hh : hy + 1 ≤ h) (hd8 : d ≤ 8) (hd : decode cc p1 = .ok (.invokestatic index, 3)) {q9 : Nat} (hq : p1 + 3 = q9) : EI V Γ d p (caS_i F e1) q9 := by
  subst hq
  intro L R σ st x σ' hdp he k
  obtain ⟨x1, s1, ee1, he⟩ := bn_inv he
  exact (h1 L R σ _ x1 s1 hdp ee1 (fun hx1 => (by obtain ⟨hY1, hY2⟩ := hY; exact i_callS (As := [vI x1]) (st := st) C (hM x1 s1 _ _ trivial hx1 he) hY1 hY2 hl1 hh rfl rfl (Nat.le_trans hdp hd8) hd (fun hr => k hr))))
def caS_ii (F : Int → Int → SS → Option (Int × SS)) (e1 : XI) (e2 : XI) : XI := fun z => bn (e1 z) fun x1 s1 => bn (e2 (z.1, z.2.1, s1)) fun x2 s2 => F x1 x2 s2
def MS_ii (l : Launch) (y : MethodName) (cc : ByteArray) (nL : Nat) (ret : Option FieldType) (h rk : Nat) (F : Int → Int → SS → Option (Int × SS)) : Prop := ∀ (x1 : Int) (x2 : Int) (σ : SS) (r : Int) (σ' : SS), True → inI x1 → inI x2 → F x1 x2 σ = some (r, σ') → Mt l y cc nL ret h rk (fun b => [vI x1, vI x2]) σ r σ'
theorem e_caS_ii_1 {l : Launch} {b : Nat} {V : VV} {cc : ByteArray} {own : String} {nL h : Nat} {Γ : GG} {d p p1 p2 : Nat} {e1 : XI} {e2 : XI} {F : Int → Int → SS → Option (Int × SS)} {y : MethodName} {cy : ByteArray} {nLy hy index : Nat} {ret : Option FieldType} (C : Ctx l b V cc own nL h) (h1 : EI V Γ d p e1 p1) (h2 : EI V Γ (d + 1) p1 e2 p2) (hM : MS_ii l y cy nLy ret hy 1 F) (hY : YS y cy nLy ret 2) (hl1 : Cond.methodLink own index y ∈ gtb) (hh : hy + 1 ≤ h) (hd8 : d ≤ 8) (hd : decode cc p2 = .ok (.invokestatic index, 3)) {q9 : Nat} (hq : p2 + 3 = q9) : EL V Γ d p (caS_ii F e1 e2) q9 := by
  subst hq
  intro L R σ st x σ' hdp he k
  obtain ⟨x1, s1, ee1, he⟩ := bn_inv he
  obtain ⟨x2, s2, ee2, he⟩ := bn_inv he
  exact (h1 L R σ _ x1 s1 hdp ee1 (fun hx1 => (h2 L R s1 _ x2 s2 (by rw [dep_i]; omega) ee2 (fun hx2 => (by obtain ⟨hY1, hY2⟩ := hY; exact i_callS (As := [vI x1, vI x2]) (st := st) C (hM x1 x2 s2 _ _ trivial hx1 hx2 he) hY1 hY2 hl1 hh rfl rfl (Nat.le_trans hdp hd8) hd (fun hr => k hr))))))
theorem e_caS_ii_3 {l : Launch} {b : Nat} {V : VV} {cc : ByteArray} {own : String} {nL h : Nat} {Γ : GG} {d p p1 p2 : Nat} {e1 : XI} {e2 : XI} {F : Int → Int → SS → Option (Int × SS)} {y : MethodName} {cy : ByteArray} {nLy hy index : Nat} {ret : Option FieldType} (C : Ctx l b V cc own nL h) (h1 : EI V Γ d p e1 p1) (h2 : EI V Γ (d + 1) p1 e2 p2) (hM : MS_ii l y cy nLy ret hy 3 F) (hY : YS y cy nLy ret 2) (hl1 : Cond.methodLink own index y ∈ gtb) (hh : hy + 1 ≤ h) (hd8 : d ≤ 8) (hd : decode cc p2 = .ok (.invokestatic index, 3)) {q9 : Nat} (hq : p2 + 3 = q9) : EI V Γ d p (caS_ii F e1 e2) q9 := by
  subst hq
  intro L R σ st x σ' hdp he k
  obtain ⟨x1, s1, ee1, he⟩ := bn_inv he
  obtain ⟨x2, s2, ee2, he⟩ := bn_inv he
  exact (h1 L R σ _ x1 s1 hdp ee1 (fun hx1 => (h2 L R s1 _ x2 s2 (by rw [dep_i]; omega) ee2 (fun hx2 => (by obtain ⟨hY1, hY2⟩ := hY; exact i_callS (As := [vI x1, vI x2]) (st := st) C (hM x1 x2 s2 _ _ trivial hx1 hx2 he) hY1 hY2 hl1 hh rfl rfl (Nat.le_trans hdp hd8) hd (fun hr => k hr))))))
def caS_iii (F : Int → Int → Int → SS → Option (Int × SS)) (e1 : XI) (e2 : XI) (e3 : XI) : XI := fun z => bn (e1 z) fun x1 s1 => bn (e2 (z.1, z.2.1, s1)) fun x2 s2 => bn (e3 (z.1, z.2.1, s2)) fun x3 s3 => F x1 x2 x3 s3
def MS_iii (l : Launch) (y : MethodName) (cc : ByteArray) (nL : Nat) (ret : Option FieldType) (h rk : Nat) (F : Int → Int → Int → SS → Option (Int × SS)) : Prop := ∀ (x1 : Int) (x2 : Int) (x3 : Int) (σ : SS) (r : Int) (σ' : SS), True → inI x1 → inI x2 → inI x3 → F x1 x2 x3 σ = some (r, σ') → Mt l y cc nL ret h rk (fun b => [vI x1, vI x2, vI x3]) σ r σ'
theorem e_caS_iii_0 {l : Launch} {b : Nat} {V : VV} {cc : ByteArray} {own : String} {nL h : Nat} {Γ : GG} {d p p1 p2 p3 : Nat} {e1 : XI} {e2 : XI} {e3 : XI} {F : Int → Int → Int → SS → Option (Int × SS)} {y : MethodName} {cy : ByteArray} {nLy hy index : Nat} {ret : Option FieldType} (C : Ctx l b V cc own nL h) (h1 : EI V Γ d p e1 p1) (h2 : EI V Γ (d + 1) p1 e2 p2) (h3 : EI V Γ (d + 2) p2 e3 p3) (hM : MS_iii l y cy nLy ret hy 0 F) (hY : YS y cy nLy ret 3) (hl1 : Cond.methodLink own index y ∈ gtb) (hh : hy + 1 ≤ h) (hd8 : d ≤ 8) (hd : decode cc p3 = .ok (.invokestatic index, 3)) {q9 : Nat} (hq : p3 + 3 = q9) : EI V Γ d p (caS_iii F e1 e2 e3) q9 := by
  subst hq
  intro L R σ st x σ' hdp he k
  obtain ⟨x1, s1, ee1, he⟩ := bn_inv he
  obtain ⟨x2, s2, ee2, he⟩ := bn_inv he
  obtain ⟨x3, s3, ee3, he⟩ := bn_inv he
  exact (h1 L R σ _ x1 s1 hdp ee1 (fun hx1 => (h2 L R s1 _ x2 s2 (by rw [dep_i]; omega) ee2 (fun hx2 => (h3 L R s2 _ x3 s3 (by rw [dep_i, dep_i]; omega) ee3 (fun hx3 => (by obtain ⟨hY1, hY2⟩ := hY; exact i_callS (As := [vI x1, vI x2, vI x3]) (st := st) C (hM x1 x2 x3 s3 _ _ trivial hx1 hx2 hx3 he) hY1 hY2 hl1 hh rfl rfl (Nat.le_trans hdp hd8) hd (fun hr => k hr))))))))
theorem e_caS_iii_3 {l : Launch} {b : Nat} {V : VV} {cc : ByteArray} {own : String} {nL h : Nat} {Γ : GG} {d p p1 p2 p3 : Nat} {e1 : XI} {e2 : XI} {e3 : XI} {F : Int → Int → Int → SS → Option (Int × SS)} {y : MethodName} {cy : ByteArray} {nLy hy index : Nat} {ret : Option FieldType} (C : Ctx l b V cc own nL h) (h1 : EI V Γ d p e1 p1) (h2 : EI V Γ (d + 1) p1 e2 p2) (h3 : EI V Γ (d + 2) p2 e3 p3) (hM : MS_iii l y cy nLy ret hy 3 F) (hY : YS y cy nLy ret 3) (hl1 : Cond.methodLink own index y ∈ gtb) (hh : hy + 1 ≤ h) (hd8 : d ≤ 8) (hd : decode cc p3 = .ok (.invokestatic index, 3)) {q9 : Nat} (hq : p3 + 3 = q9) : EI V Γ d p (caS_iii F e1 e2 e3) q9 := by
  subst hq
  intro L R σ st x σ' hdp he k
  obtain ⟨x1, s1, ee1, he⟩ := bn_inv he
  obtain ⟨x2, s2, ee2, he⟩ := bn_inv he
  obtain ⟨x3, s3, ee3, he⟩ := bn_inv he
  exact (h1 L R σ _ x1 s1 hdp ee1 (fun hx1 => (h2 L R s1 _ x2 s2 (by rw [dep_i]; omega) ee2 (fun hx2 => (h3 L R s2 _ x3 s3 (by rw [dep_i, dep_i]; omega) ee3 (fun hx3 => (by obtain ⟨hY1, hY2⟩ := hY; exact i_callS (As := [vI x1, vI x2, vI x3]) (st := st) C (hM x1 x2 x3 s3 _ _ trivial hx1 hx2 hx3 he) hY1 hY2 hl1 hh rfl rfl (Nat.le_trans hdp hd8) hd (fun hr => k hr))))))))
def caS_iiii (F : Int → Int → Int → Int → SS → Option (Int × SS)) (e1 : XI) (e2 : XI) (e3 : XI) (e4 : XI) : XI := fun z => bn (e1 z) fun x1 s1 => bn (e2 (z.1, z.2.1, s1)) fun x2 s2 => bn (e3 (z.1, z.2.1, s2)) fun x3 s3 => bn (e4 (z.1, z.2.1, s3)) fun x4 s4 => F x1 x2 x3 x4 s4
def MS_iiii (l : Launch) (y : MethodName) (cc : ByteArray) (nL : Nat) (ret : Option FieldType) (h rk : Nat) (F : Int → Int → Int → Int → SS → Option (Int × SS)) : Prop := ∀ (x1 : Int) (x2 : Int) (x3 : Int) (x4 : Int) (σ : SS) (r : Int) (σ' : SS), True → inI x1 → inI x2 → inI x3 → inI x4 → F x1 x2 x3 x4 σ = some (r, σ') → Mt l y cc nL ret h rk (fun b => [vI x1, vI x2, vI x3, vI x4]) σ r σ'
theorem e_caS_iiii_0 {l : Launch} {b : Nat} {V : VV} {cc : ByteArray} {own : String} {nL h : Nat} {Γ : GG} {d p p1 p2 p3 p4 : Nat} {e1 : XI} {e2 : XI} {e3 : XI} {e4 : XI} {F : Int → Int → Int → Int → SS → Option (Int × SS)} {y : MethodName} {cy : ByteArray} {nLy hy index : Nat} {ret : Option FieldType} (C : Ctx l b V cc own nL h) (h1 : EI V Γ d p e1 p1) (h2 : EI V Γ (d + 1) p1 e2 p2) (h3 : EI V Γ (d + 2) p2 e3 p3) (h4 : EI V Γ (d + 3) p3 e4 p4) (hM : MS_iiii l y cy nLy ret hy 0 F) (hY : YS y cy nLy ret 4) (hl1 : Cond.methodLink own index y ∈ gtb) (hh : hy + 1 ≤ h) (hd8 : d ≤ 8) (hd : decode cc p4 = .ok (.invokestatic index, 3)) {q9 : Nat} (hq : p4 + 3 = q9) : EI V Γ d p (caS_iiii F e1 e2 e3 e4) q9 := by
  subst hq
  intro L R σ st x σ' hdp he k
  obtain ⟨x1, s1, ee1, he⟩ := bn_inv he
  obtain ⟨x2, s2, ee2, he⟩ := bn_inv he
  obtain ⟨x3, s3, ee3, he⟩ := bn_inv he
  obtain ⟨x4, s4, ee4, he⟩ := bn_inv he
  exact (h1 L R σ _ x1 s1 hdp ee1 (fun hx1 => (h2 L R s1 _ x2 s2 (by rw [dep_i]; omega) ee2 (fun hx2 => (h3 L R s2 _ x3 s3 (by rw [dep_i, dep_i]; omega) ee3 (fun hx3 => (h4 L R s3 _ x4 s4 (by rw [dep_i, dep_i, dep_i]; omega) ee4 (fun hx4 => (by obtain ⟨hY1, hY2⟩ := hY; exact i_callS (As := [vI x1, vI x2, vI x3, vI x4]) (st := st) C (hM x1 x2 x3 x4 s4 _ _ trivial hx1 hx2 hx3 hx4 he) hY1 hY2 hl1 hh rfl rfl (Nat.le_trans hdp hd8) hd (fun hr => k hr))))))))))
def caS_iiiiii (F : Int → Int → Int → Int → Int → Int → SS → Option (Int × SS)) (e1 : XI) (e2 : XI) (e3 : XI) (e4 : XI) (e5 : XI) (e6 : XI) : XI := fun z => bn (e1 z) fun x1 s1 => bn (e2 (z.1, z.2.1, s1)) fun x2 s2 => bn (e3 (z.1, z.2.1, s2)) fun x3 s3 => bn (e4 (z.1, z.2.1, s3)) fun x4 s4 => bn (e5 (z.1, z.2.1, s4)) fun x5 s5 => bn (e6 (z.1, z.2.1, s5)) fun x6 s6 => F x1 x2 x3 x4 x5 x6 s6
def MS_iiiiii (l : Launch) (y : MethodName) (cc : ByteArray) (nL : Nat) (ret : Option FieldType) (h rk : Nat) (F : Int → Int → Int → Int → Int → Int → SS → Option (Int × SS)) : Prop := ∀ (x1 : Int) (x2 : Int) (x3 : Int) (x4 : Int) (x5 : Int) (x6 : Int) (σ : SS) (r : Int) (σ' : SS), True → inI x1 → inI x2 → inI x3 → inI x4 → inI x5 → inI x6 → F x1 x2 x3 x4 x5 x6 σ = some (r, σ') → Mt l y cc nL ret h rk (fun b => [vI x1, vI x2, vI x3, vI x4, vI x5, vI x6]) σ r σ'
theorem e_caS_iiiiii_1 {l : Launch} {b : Nat} {V : VV} {cc : ByteArray} {own : String} {nL h : Nat} {Γ : GG} {d p p1 p2 p3 p4 p5 p6 : Nat} {e1 : XI} {e2 : XI} {e3 : XI} {e4 : XI} {e5 : XI} {e6 : XI} {F : Int → Int → Int → Int → Int → Int → SS → Option (Int × SS)} {y : MethodName} {cy : ByteArray} {nLy hy index : Nat} {ret : Option FieldType} (C : Ctx l b V cc own nL h) (h1 : EI V Γ d p e1 p1) (h2 : EI V Γ (d + 1) p1 e2 p2) (h3 : EI V Γ (d + 2) p2 e3 p3) (h4 : EI V Γ (d + 3) p3 e4 p4) (h5 : EI V Γ (d + 4) p4 e5 p5) (h6 : EI V Γ (d + 5) p5 e6 p6) (hM : MS_iiiiii l y cy nLy ret hy 1 F) (hY : YS y cy nLy ret 6) (hl1 : Cond.methodLink own index y ∈ gtb) (hh : hy + 1 ≤ h) (hd8 : d ≤ 8) (hd : decode cc p6 = .ok (.invokestatic index, 3)) {q9 : Nat} (hq : p6 + 3 = q9) : EL V Γ d p (caS_iiiiii F e1 e2 e3 e4 e5 e6) q9 := by
  subst hq
  intro L R σ st x σ' hdp he k
  obtain ⟨x1, s1, ee1, he⟩ := bn_inv he
  obtain ⟨x2, s2, ee2, he⟩ := bn_inv he
  obtain ⟨x3, s3, ee3, he⟩ := bn_inv he
  obtain ⟨x4, s4, ee4, he⟩ := bn_inv he
  obtain ⟨x5, s5, ee5, he⟩ := bn_inv he
  obtain ⟨x6, s6, ee6, he⟩ := bn_inv he
  exact (h1 L R σ _ x1 s1 hdp ee1 (fun hx1 => (h2 L R s1 _ x2 s2 (by rw [dep_i]; omega) ee2 (fun hx2 => (h3 L R s2 _ x3 s3 (by rw [dep_i, dep_i]; omega) ee3 (fun hx3 => (h4 L R s3 _ x4 s4 (by rw [dep_i, dep_i, dep_i]; omega) ee4 (fun hx4 => (h5 L R s4 _ x5 s5 (by rw [dep_i, dep_i, dep_i, dep_i]; omega) ee5 (fun hx5 => (h6 L R s5 _ x6 s6 (by rw [dep_i, dep_i, dep_i, dep_i, dep_i]; omega) ee6 (fun hx6 => (by obtain ⟨hY1, hY2⟩ := hY; exact i_callS (As := [vI x1, vI x2, vI x3, vI x4, vI x5, vI x6]) (st := st) C (hM x1 x2 x3 x4 x5 x6 s6 _ _ trivial hx1 hx2 hx3 hx4 hx5 hx6 he) hY1 hY2 hl1 hh rfl rfl (Nat.le_trans hdp hd8) hd (fun hr => k hr))))))))))))))
def caS_il (F : Int → Int → SS → Option (Int × SS)) (e1 : XI) (e2 : XI) : XI := fun z => bn (e1 z) fun x1 s1 => bn (e2 (z.1, z.2.1, s1)) fun x2 s2 => F x1 x2 s2
def MS_il (l : Launch) (y : MethodName) (cc : ByteArray) (nL : Nat) (ret : Option FieldType) (h rk : Nat) (F : Int → Int → SS → Option (Int × SS)) : Prop := ∀ (x1 : Int) (x2 : Int) (σ : SS) (r : Int) (σ' : SS), True → inI x1 → inL x2 → F x1 x2 σ = some (r, σ') → Mt l y cc nL ret h rk (fun b => [vI x1, vL x2]) σ r σ'
theorem e_caS_il_1 {l : Launch} {b : Nat} {V : VV} {cc : ByteArray} {own : String} {nL h : Nat} {Γ : GG} {d p p1 p2 : Nat} {e1 : XI} {e2 : XI} {F : Int → Int → SS → Option (Int × SS)} {y : MethodName} {cy : ByteArray} {nLy hy index : Nat} {ret : Option FieldType} (C : Ctx l b V cc own nL h) (h1 : EI V Γ d p e1 p1) (h2 : EL V Γ (d + 1) p1 e2 p2) (hM : MS_il l y cy nLy ret hy 1 F) (hY : YS y cy nLy ret 2) (hl1 : Cond.methodLink own index y ∈ gtb) (hh : hy + 1 ≤ h) (hd8 : d ≤ 8) (hd : decode cc p2 = .ok (.invokestatic index, 3)) {q9 : Nat} (hq : p2 + 3 = q9) : EL V Γ d p (caS_il F e1 e2) q9 := by
  subst hq
  intro L R σ st x σ' hdp he k
  obtain ⟨x1, s1, ee1, he⟩ := bn_inv he
  obtain ⟨x2, s2, ee2, he⟩ := bn_inv he
  exact (h1 L R σ _ x1 s1 hdp ee1 (fun hx1 => (h2 L R s1 _ x2 s2 (by rw [dep_i]; omega) ee2 (fun hx2 => (by obtain ⟨hY1, hY2⟩ := hY; exact i_callS (As := [vI x1, vL x2]) (st := st) C (hM x1 x2 s2 _ _ trivial hx1 hx2 he) hY1 hY2 hl1 hh rfl rfl (Nat.le_trans hdp hd8) hd (fun hr => k hr))))))
def caS_li (F : Int → Int → SS → Option (Int × SS)) (e1 : XI) (e2 : XI) : XI := fun z => bn (e1 z) fun x1 s1 => bn (e2 (z.1, z.2.1, s1)) fun x2 s2 => F x1 x2 s2
def MS_li (l : Launch) (y : MethodName) (cc : ByteArray) (nL : Nat) (ret : Option FieldType) (h rk : Nat) (F : Int → Int → SS → Option (Int × SS)) : Prop := ∀ (x1 : Int) (x2 : Int) (σ : SS) (r : Int) (σ' : SS), True → inL x1 → inI x2 → F x1 x2 σ = some (r, σ') → Mt l y cc nL ret h rk (fun b => [vL x1, vI x2]) σ r σ'
theorem e_caS_li_1 {l : Launch} {b : Nat} {V : VV} {cc : ByteArray} {own : String} {nL h : Nat} {Γ : GG} {d p p1 p2 : Nat} {e1 : XI} {e2 : XI} {F : Int → Int → SS → Option (Int × SS)} {y : MethodName} {cy : ByteArray} {nLy hy index : Nat} {ret : Option FieldType} (C : Ctx l b V cc own nL h) (h1 : EL V Γ d p e1 p1) (h2 : EI V Γ (d + 2) p1 e2 p2) (hM : MS_li l y cy nLy ret hy 1 F) (hY : YS y cy nLy ret 2) (hl1 : Cond.methodLink own index y ∈ gtb) (hh : hy + 1 ≤ h) (hd8 : d ≤ 8) (hd : decode cc p2 = .ok (.invokestatic index, 3)) {q9 : Nat} (hq : p2 + 3 = q9) : EL V Γ d p (caS_li F e1 e2) q9 := by
  subst hq
  intro L R σ st x σ' hdp he k
  obtain ⟨x1, s1, ee1, he⟩ := bn_inv he
  obtain ⟨x2, s2, ee2, he⟩ := bn_inv he
  exact (h1 L R σ _ x1 s1 hdp ee1 (fun hx1 => (h2 L R s1 _ x2 s2 (by rw [dep_l]; omega) ee2 (fun hx2 => (by obtain ⟨hY1, hY2⟩ := hY; exact i_callS (As := [vL x1, vI x2]) (st := st) C (hM x1 x2 s2 _ _ trivial hx1 hx2 he) hY1 hY2 hl1 hh rfl rfl (Nat.le_trans hdp hd8) hd (fun hr => k hr))))))
def caS_ll (F : Int → Int → SS → Option (Int × SS)) (e1 : XI) (e2 : XI) : XI := fun z => bn (e1 z) fun x1 s1 => bn (e2 (z.1, z.2.1, s1)) fun x2 s2 => F x1 x2 s2
def MS_ll (l : Launch) (y : MethodName) (cc : ByteArray) (nL : Nat) (ret : Option FieldType) (h rk : Nat) (F : Int → Int → SS → Option (Int × SS)) : Prop := ∀ (x1 : Int) (x2 : Int) (σ : SS) (r : Int) (σ' : SS), True → inL x1 → inL x2 → F x1 x2 σ = some (r, σ') → Mt l y cc nL ret h rk (fun b => [vL x1, vL x2]) σ r σ'
theorem e_caS_ll_1 {l : Launch} {b : Nat} {V : VV} {cc : ByteArray} {own : String} {nL h : Nat} {Γ : GG} {d p p1 p2 : Nat} {e1 : XI} {e2 : XI} {F : Int → Int → SS → Option (Int × SS)} {y : MethodName} {cy : ByteArray} {nLy hy index : Nat} {ret : Option FieldType} (C : Ctx l b V cc own nL h) (h1 : EL V Γ d p e1 p1) (h2 : EL V Γ (d + 2) p1 e2 p2) (hM : MS_ll l y cy nLy ret hy 1 F) (hY : YS y cy nLy ret 2) (hl1 : Cond.methodLink own index y ∈ gtb) (hh : hy + 1 ≤ h) (hd8 : d ≤ 8) (hd : decode cc p2 = .ok (.invokestatic index, 3)) {q9 : Nat} (hq : p2 + 3 = q9) : EL V Γ d p (caS_ll F e1 e2) q9 := by
  subst hq
  intro L R σ st x σ' hdp he k
  obtain ⟨x1, s1, ee1, he⟩ := bn_inv he
  obtain ⟨x2, s2, ee2, he⟩ := bn_inv he
  exact (h1 L R σ _ x1 s1 hdp ee1 (fun hx1 => (h2 L R s1 _ x2 s2 (by rw [dep_l]; omega) ee2 (fun hx2 => (by obtain ⟨hY1, hY2⟩ := hY; exact i_callS (As := [vL x1, vL x2]) (st := st) C (hM x1 x2 s2 _ _ trivial hx1 hx2 he) hY1 hY2 hl1 hh rfl rfl (Nat.le_trans hdp hd8) hd (fun hr => k hr))))))
def caS_lll (F : Int → Int → Int → SS → Option (Int × SS)) (e1 : XI) (e2 : XI) (e3 : XI) : XI := fun z => bn (e1 z) fun x1 s1 => bn (e2 (z.1, z.2.1, s1)) fun x2 s2 => bn (e3 (z.1, z.2.1, s2)) fun x3 s3 => F x1 x2 x3 s3
def MS_lll (l : Launch) (y : MethodName) (cc : ByteArray) (nL : Nat) (ret : Option FieldType) (h rk : Nat) (F : Int → Int → Int → SS → Option (Int × SS)) : Prop := ∀ (x1 : Int) (x2 : Int) (x3 : Int) (σ : SS) (r : Int) (σ' : SS), True → inL x1 → inL x2 → inL x3 → F x1 x2 x3 σ = some (r, σ') → Mt l y cc nL ret h rk (fun b => [vL x1, vL x2, vL x3]) σ r σ'
theorem e_caS_lll_3 {l : Launch} {b : Nat} {V : VV} {cc : ByteArray} {own : String} {nL h : Nat} {Γ : GG} {d p p1 p2 p3 : Nat} {e1 : XI} {e2 : XI} {e3 : XI} {F : Int → Int → Int → SS → Option (Int × SS)} {y : MethodName} {cy : ByteArray} {nLy hy index : Nat} {ret : Option FieldType} (C : Ctx l b V cc own nL h) (h1 : EL V Γ d p e1 p1) (h2 : EL V Γ (d + 2) p1 e2 p2) (h3 : EL V Γ (d + 4) p2 e3 p3) (hM : MS_lll l y cy nLy ret hy 3 F) (hY : YS y cy nLy ret 3) (hl1 : Cond.methodLink own index y ∈ gtb) (hh : hy + 1 ≤ h) (hd8 : d ≤ 8) (hd : decode cc p3 = .ok (.invokestatic index, 3)) {q9 : Nat} (hq : p3 + 3 = q9) : EI V Γ d p (caS_lll F e1 e2 e3) q9 := by
  subst hq
  intro L R σ st x σ' hdp he k
  obtain ⟨x1, s1, ee1, he⟩ := bn_inv he
  obtain ⟨x2, s2, ee2, he⟩ := bn_inv he
  obtain ⟨x3, s3, ee3, he⟩ := bn_inv he
  exact (h1 L R σ _ x1 s1 hdp ee1 (fun hx1 => (h2 L R s1 _ x2 s2 (by rw [dep_l]; omega) ee2 (fun hx2 => (h3 L R s2 _ x3 s3 (by rw [dep_l, dep_l]; omega) ee3 (fun hx3 => (by obtain ⟨hY1, hY2⟩ := hY; exact i_callS (As := [vL x1, vL x2, vL x3]) (st := st) C (hM x1 x2 x3 s3 _ _ trivial hx1 hx2 hx3 he) hY1 hY2 hl1 hh rfl rfl (Nat.le_trans hdp hd8) hd (fun hr => k hr))))))))
def caS_ri (F : Nat → Int → SS → Option (Int × SS)) (e1 : XR) (e2 : XI) : XI := fun z => bn (e1 z) fun x1 s1 => bn (e2 (z.1, z.2.1, s1)) fun x2 s2 => F x1 x2 s2
def MS_ri (l : Launch) (y : MethodName) (cc : ByteArray) (nL : Nat) (ret : Option FieldType) (h rk : Nat) (F : Nat → Int → SS → Option (Int × SS)) : Prop := ∀ (x1 : Nat) (x2 : Int) (σ : SS) (r : Int) (σ' : SS), True → inI x2 → F x1 x2 σ = some (r, σ') → Mt l y cc nL ret h rk (fun b => [.ref (b + x1), vI x2]) σ r σ'
theorem e_caS_ri_0 {l : Launch} {b : Nat} {V : VV} {cc : ByteArray} {own : String} {nL h : Nat} {Γ : GG} {d p p1 p2 : Nat} {e1 : XR} {e2 : XI} {F : Nat → Int → SS → Option (Int × SS)} {y : MethodName} {cy : ByteArray} {nLy hy index : Nat} {ret : Option FieldType} (C : Ctx l b V cc own nL h) (h1 : ER b V Γ d p e1 p1) (h2 : EI V Γ (d + 1) p1 e2 p2) (hM : MS_ri l y cy nLy ret hy 0 F) (hY : YS y cy nLy ret 2) (hl1 : Cond.methodLink own index y ∈ gtb) (hh : hy + 1 ≤ h) (hd8 : d ≤ 8) (hd : decode cc p2 = .ok (.invokestatic index, 3)) {q9 : Nat} (hq : p2 + 3 = q9) : EI V Γ d p (caS_ri F e1 e2) q9 := by
  subst hq
  intro L R σ st x σ' hdp he k
  obtain ⟨x1, s1, ee1, he⟩ := bn_inv he
  obtain ⟨x2, s2, ee2, he⟩ := bn_inv he
  exact (h1 L R σ _ x1 s1 hdp ee1 (h2 L R s1 _ x2 s2 (by rw [dep_r]; omega) ee2 (fun hx2 => (by obtain ⟨hY1, hY2⟩ := hY; exact i_callS (As := [.ref (b + x1), vI x2]) (st := st) C (hM x1 x2 s2 _ _ trivial hx2 he) hY1 hY2 hl1 hh rfl rfl (Nat.le_trans hdp hd8) hd (fun hr => k hr)))))
def caS_riii (F : Nat → Int → Int → Int → SS → Option (Int × SS)) (e1 : XR) (e2 : XI) (e3 : XI) (e4 : XI) : XI := fun z => bn (e1 z) fun x1 s1 => bn (e2 (z.1, z.2.1, s1)) fun x2 s2 => bn (e3 (z.1, z.2.1, s2)) fun x3 s3 => bn (e4 (z.1, z.2.1, s3)) fun x4 s4 => F x1 x2 x3 x4 s4
def MS_riii (l : Launch) (y : MethodName) (cc : ByteArray) (nL : Nat) (ret : Option FieldType) (h rk : Nat) (F : Nat → Int → Int → Int → SS → Option (Int × SS)) : Prop := ∀ (x1 : Nat) (x2 : Int) (x3 : Int) (x4 : Int) (σ : SS) (r : Int) (σ' : SS), True → inI x2 → inI x3 → inI x4 → F x1 x2 x3 x4 σ = some (r, σ') → Mt l y cc nL ret h rk (fun b => [.ref (b + x1), vI x2, vI x3, vI x4]) σ r σ'
theorem e_caS_riii_0 {l : Launch} {b : Nat} {V : VV} {cc : ByteArray} {own : String} {nL h : Nat} {Γ : GG} {d p p1 p2 p3 p4 : Nat} {e1 : XR} {e2 : XI} {e3 : XI} {e4 : XI} {F : Nat → Int → Int → Int → SS → Option (Int × SS)} {y : MethodName} {cy : ByteArray} {nLy hy index : Nat} {ret : Option FieldType} (C : Ctx l b V cc own nL h) (h1 : ER b V Γ d p e1 p1) (h2 : EI V Γ (d + 1) p1 e2 p2) (h3 : EI V Γ (d + 2) p2 e3 p3) (h4 : EI V Γ (d + 3) p3 e4 p4) (hM : MS_riii l y cy nLy ret hy 0 F) (hY : YS y cy nLy ret 4) (hl1 : Cond.methodLink own index y ∈ gtb) (hh : hy + 1 ≤ h) (hd8 : d ≤ 8) (hd : decode cc p4 = .ok (.invokestatic index, 3)) {q9 : Nat} (hq : p4 + 3 = q9) : EI V Γ d p (caS_riii F e1 e2 e3 e4) q9 := by
  subst hq
  intro L R σ st x σ' hdp he k
  obtain ⟨x1, s1, ee1, he⟩ := bn_inv he
  obtain ⟨x2, s2, ee2, he⟩ := bn_inv he
  obtain ⟨x3, s3, ee3, he⟩ := bn_inv he
  obtain ⟨x4, s4, ee4, he⟩ := bn_inv he
  exact (h1 L R σ _ x1 s1 hdp ee1 (h2 L R s1 _ x2 s2 (by rw [dep_r]; omega) ee2 (fun hx2 => (h3 L R s2 _ x3 s3 (by rw [dep_i, dep_r]; omega) ee3 (fun hx3 => (h4 L R s3 _ x4 s4 (by rw [dep_i, dep_i, dep_r]; omega) ee4 (fun hx4 => (by obtain ⟨hY1, hY2⟩ := hY; exact i_callS (As := [.ref (b + x1), vI x2, vI x3, vI x4]) (st := st) C (hM x1 x2 x3 x4 s4 _ _ trivial hx2 hx3 hx4 he) hY1 hY2 hl1 hh rfl rfl (Nat.le_trans hdp hd8) hd (fun hr => k hr)))))))))
theorem e_caS_riii_4 {l : Launch} {b : Nat} {V : VV} {cc : ByteArray} {own : String} {nL h : Nat} {Γ : GG} {d p p1 p2 p3 p4 : Nat} {e1 : XR} {e2 : XI} {e3 : XI} {e4 : XI} {F : Nat → Int → Int → Int → SS → Option (Int × SS)} {y : MethodName} {cy : ByteArray} {nLy hy index : Nat} {ret : Option FieldType} (C : Ctx l b V cc own nL h) (h1 : ER b V Γ d p e1 p1) (h2 : EI V Γ (d + 1) p1 e2 p2) (h3 : EI V Γ (d + 2) p2 e3 p3) (h4 : EI V Γ (d + 3) p3 e4 p4) (hM : MS_riii l y cy nLy ret hy 4 F) (hY : YS y cy nLy ret 4) (hl1 : Cond.methodLink own index y ∈ gtb) (hh : hy + 1 ≤ h) (hd8 : d ≤ 8) (hd : decode cc p4 = .ok (.invokestatic index, 3)) {q9 : Nat} (hq : p4 + 3 = q9) : EV V Γ d p (caS_riii F e1 e2 e3 e4) q9 := by
  subst hq
  intro L R σ st x σ' hdp he k
  obtain ⟨x1, s1, ee1, he⟩ := bn_inv he
  obtain ⟨x2, s2, ee2, he⟩ := bn_inv he
  obtain ⟨x3, s3, ee3, he⟩ := bn_inv he
  obtain ⟨x4, s4, ee4, he⟩ := bn_inv he
  exact (h1 L R σ _ x1 s1 hdp ee1 (h2 L R s1 _ x2 s2 (by rw [dep_r]; omega) ee2 (fun hx2 => (h3 L R s2 _ x3 s3 (by rw [dep_i, dep_r]; omega) ee3 (fun hx3 => (h4 L R s3 _ x4 s4 (by rw [dep_i, dep_i, dep_r]; omega) ee4 (fun hx4 => (by obtain ⟨hY1, hY2⟩ := hY; exact i_callS (As := [.ref (b + x1), vI x2, vI x3, vI x4]) (st := st) C (hM x1 x2 x3 x4 s4 _ _ trivial hx2 hx3 hx4 he) hY1 hY2 hl1 hh rfl rfl (Nat.le_trans hdp hd8) hd (fun _ => k)))))))))
theorem e_caSN_riii_4 {l : Launch} {b : Nat} {V : VV} {cc : ByteArray} {own : String} {nL h : Nat} {Γ : GG} {d p p1 p2 p3 p4 : Nat} {e1 : XR} {e2 : XI} {e3 : XI} {e4 : XI} {F : Nat → Int → Int → Int → SS → Option (Int × SS)} {y : MethodName} {cy : ByteArray} {nLy hy index : Nat} {ret : Option FieldType} (C : Ctx l b V cc own nL h) (h1 : ER b V Γ d p e1 p1) (h2 : EI V Γ (d + 1) p1 e2 p2) (h3 : EI V Γ (d + 2) p2 e3 p3) (h4 : EI V Γ (d + 3) p3 e4 p4) (hM : MS_riii l y cy nLy ret hy 4 F) (hY : YS y cy nLy ret 4) (hl1 : ∃ q ∈ nestL, q.1 = own ∧ q.2.1 = index ∧ q.2.2.1 = y) (hh : hy + 1 ≤ h) (hd8 : d ≤ 8) (hd : decode cc p4 = .ok (.invokestatic index, 3)) {q9 : Nat} (hq : p4 + 3 = q9) : EV V Γ d p (caS_riii F e1 e2 e3 e4) q9 := by
  subst hq
  intro L R σ st x σ' hdp he k
  obtain ⟨x1, s1, ee1, he⟩ := bn_inv he
  obtain ⟨x2, s2, ee2, he⟩ := bn_inv he
  obtain ⟨x3, s3, ee3, he⟩ := bn_inv he
  obtain ⟨x4, s4, ee4, he⟩ := bn_inv he
  exact (h1 L R σ _ x1 s1 hdp ee1 (h2 L R s1 _ x2 s2 (by rw [dep_r]; omega) ee2 (fun hx2 => (h3 L R s2 _ x3 s3 (by rw [dep_i, dep_r]; omega) ee3 (fun hx3 => (h4 L R s3 _ x4 s4 (by rw [dep_i, dep_i, dep_r]; omega) ee4 (fun hx4 => (by obtain ⟨hY1, hY2⟩ := hY; exact i_callSN (As := [.ref (b + x1), vI x2, vI x3, vI x4]) (st := st) C (hM x1 x2 x3 x4 s4 _ _ trivial hx2 hx3 hx4 he) hY1 hY2 hl1 hh rfl rfl (Nat.le_trans hdp hd8) hd (fun _ => k)))))))))
def caS_rriiii (F : Nat → Nat → Int → Int → Int → Int → SS → Option (Int × SS)) (e1 : XR) (e2 : XR) (e3 : XI) (e4 : XI) (e5 : XI) (e6 : XI) : XI := fun z => bn (e1 z) fun x1 s1 => bn (e2 (z.1, z.2.1, s1)) fun x2 s2 => bn (e3 (z.1, z.2.1, s2)) fun x3 s3 => bn (e4 (z.1, z.2.1, s3)) fun x4 s4 => bn (e5 (z.1, z.2.1, s4)) fun x5 s5 => bn (e6 (z.1, z.2.1, s5)) fun x6 s6 => F x1 x2 x3 x4 x5 x6 s6
def MS_rriiii (l : Launch) (y : MethodName) (cc : ByteArray) (nL : Nat) (ret : Option FieldType) (h rk : Nat) (F : Nat → Nat → Int → Int → Int → Int → SS → Option (Int × SS)) : Prop := ∀ (x1 : Nat) (x2 : Nat) (x3 : Int) (x4 : Int) (x5 : Int) (x6 : Int) (σ : SS) (r : Int) (σ' : SS), True → inI x3 → inI x4 → inI x5 → inI x6 → F x1 x2 x3 x4 x5 x6 σ = some (r, σ') → Mt l y cc nL ret h rk (fun b => [.ref (b + x1), .ref (b + x2), vI x3, vI x4, vI x5, vI x6]) σ r σ'
theorem e_caS_rriiii_0 {l : Launch} {b : Nat} {V : VV} {cc : ByteArray} {own : String} {nL h : Nat} {Γ : GG} {d p p1 p2 p3 p4 p5 p6 : Nat} {e1 : XR} {e2 : XR} {e3 : XI} {e4 : XI} {e5 : XI} {e6 : XI} {F : Nat → Nat → Int → Int → Int → Int → SS → Option (Int × SS)} {y : MethodName} {cy : ByteArray} {nLy hy index : Nat} {ret : Option FieldType} (C : Ctx l b V cc own nL h) (h1 : ER b V Γ d p e1 p1) (h2 : ER b V Γ (d + 1) p1 e2 p2) (h3 : EI V Γ (d + 2) p2 e3 p3) (h4 : EI V Γ (d + 3) p3 e4 p4) (h5 : EI V Γ (d + 4) p4 e5 p5) (h6 : EI V Γ (d + 5) p5 e6 p6) (hM : MS_rriiii l y cy nLy ret hy 0 F) (hY : YS y cy nLy ret 6) (hl1 : Cond.methodLink own index y ∈ gtb) (hh : hy + 1 ≤ h) (hd8 : d ≤ 8) (hd : decode cc p6 = .ok (.invokestatic index, 3)) {q9 : Nat} (hq : p6 + 3 = q9) : EI V Γ d p (caS_rriiii F e1 e2 e3 e4 e5 e6) q9 := by
  subst hq
  intro L R σ st x σ' hdp he k
  obtain ⟨x1, s1, ee1, he⟩ := bn_inv he
  obtain ⟨x2, s2, ee2, he⟩ := bn_inv he
  obtain ⟨x3, s3, ee3, he⟩ := bn_inv he
  obtain ⟨x4, s4, ee4, he⟩ := bn_inv he
  obtain ⟨x5, s5, ee5, he⟩ := bn_inv he
  obtain ⟨x6, s6, ee6, he⟩ := bn_inv he
  exact (h1 L R σ _ x1 s1 hdp ee1 (h2 L R s1 _ x2 s2 (by rw [dep_r]; omega) ee2 (h3 L R s2 _ x3 s3 (by rw [dep_r, dep_r]; omega) ee3 (fun hx3 => (h4 L R s3 _ x4 s4 (by rw [dep_i, dep_r, dep_r]; omega) ee4 (fun hx4 => (h5 L R s4 _ x5 s5 (by rw [dep_i, dep_i, dep_r, dep_r]; omega) ee5 (fun hx5 => (h6 L R s5 _ x6 s6 (by rw [dep_i, dep_i, dep_i, dep_r, dep_r]; omega) ee6 (fun hx6 => (by obtain ⟨hY1, hY2⟩ := hY; exact i_callS (As := [.ref (b + x1), .ref (b + x2), vI x3, vI x4, vI x5, vI x6]) (st := st) C (hM x1 x2 x3 x4 x5 x6 s6 _ _ trivial hx3 hx4 hx5 hx6 he) hY1 hY2 hl1 hh rfl rfl (Nat.le_trans hdp hd8) hd (fun hr => k hr))))))))))))
def caV_ (ci : Nat) (F : Nat → SS → Option (Int × SS)) (r : XR) : XI := fun z => bn (r z) fun a s0 => if (sh a).1 = 1 ∧ (sh a).2.1 = ci then F a  s0 else none
def MV_ (l : Launch) (y : MethodName) (cc : ByteArray) (nL : Nat) (ret : Option FieldType) (h rk ci : Nat) (F : Nat → SS → Option (Int × SS)) : Prop := ∀ (a : Nat) (σ : SS) (r : Int) (σ' : SS), (sh a).1 = 1 → (sh a).2.1 = ci → F a  σ = some (r, σ') → Mt l y cc nL ret h rk (fun b => [.ref (b + a)]) σ r σ'
theorem e_caV__0 {l : Launch} {b : Nat} {V : VV} {cc : ByteArray} {own : String} {nL h : Nat} {Γ : GG} {d p p0 : Nat} {r : XR} {F : Nat → SS → Option (Int × SS)} {y : MethodName} {cy : ByteArray} {nLy hy ci index : Nat} {ret : Option FieldType} (C : Ctx l b V cc own nL h) (h0 : ER b V Γ d p r p0) (hM : MV_ l y cy nLy ret hy 0 ci F) (hY : YV y cy nLy ret 0 ci) (hl1 : Cond.methodLink own index y ∈ gtb) (hh : hy + 1 ≤ h) (hd8 : d ≤ 8) (hd : decode cc p0 = .ok (.invokevirtual index, 3)) {q9 : Nat} (hq : p0 + 3 = q9) : EI V Γ d p (caV_ ci F r) q9 := by
  subst hq
  intro L R σ st x σ' hdp he k
  obtain ⟨a, s0, ea, he⟩ := bn_inv he
  obtain ⟨⟨c1, c2⟩, he⟩ := ite_inv he
  exact (h0 L R σ _ a s0 hdp ea (by obtain ⟨hY1, hY2, hY3, q, hq1, hq2⟩ := hY; exact i_callV (As := []) (st := st) C (hM a s0 _ _ c1 c2 he) hY1 ⟨hY2, hY3⟩ hl1 hh rfl rfl c1 c2 hq1 hq2 (Nat.le_trans hdp hd8) hd (fun hr => k hr)))
theorem e_caV__1 {l : Launch} {b : Nat} {V : VV} {cc : ByteArray} {own : String} {nL h : Nat} {Γ : GG} {d p p0 : Nat} {r : XR} {F : Nat → SS → Option (Int × SS)} {y : MethodName} {cy : ByteArray} {nLy hy ci index : Nat} {ret : Option FieldType} (C : Ctx l b V cc own nL h) (h0 : ER b V Γ d p r p0) (hM : MV_ l y cy nLy ret hy 1 ci F) (hY : YV y cy nLy ret 0 ci) (hl1 : Cond.methodLink own index y ∈ gtb) (hh : hy + 1 ≤ h) (hd8 : d ≤ 8) (hd : decode cc p0 = .ok (.invokevirtual index, 3)) {q9 : Nat} (hq : p0 + 3 = q9) : EL V Γ d p (caV_ ci F r) q9 := by
  subst hq
  intro L R σ st x σ' hdp he k
  obtain ⟨a, s0, ea, he⟩ := bn_inv he
  obtain ⟨⟨c1, c2⟩, he⟩ := ite_inv he
  exact (h0 L R σ _ a s0 hdp ea (by obtain ⟨hY1, hY2, hY3, q, hq1, hq2⟩ := hY; exact i_callV (As := []) (st := st) C (hM a s0 _ _ c1 c2 he) hY1 ⟨hY2, hY3⟩ hl1 hh rfl rfl c1 c2 hq1 hq2 (Nat.le_trans hdp hd8) hd (fun hr => k hr)))
theorem e_caV__3 {l : Launch} {b : Nat} {V : VV} {cc : ByteArray} {own : String} {nL h : Nat} {Γ : GG} {d p p0 : Nat} {r : XR} {F : Nat → SS → Option (Int × SS)} {y : MethodName} {cy : ByteArray} {nLy hy ci index : Nat} {ret : Option FieldType} (C : Ctx l b V cc own nL h) (h0 : ER b V Γ d p r p0) (hM : MV_ l y cy nLy ret hy 3 ci F) (hY : YV y cy nLy ret 0 ci) (hl1 : Cond.methodLink own index y ∈ gtb) (hh : hy + 1 ≤ h) (hd8 : d ≤ 8) (hd : decode cc p0 = .ok (.invokevirtual index, 3)) {q9 : Nat} (hq : p0 + 3 = q9) : EI V Γ d p (caV_ ci F r) q9 := by
  subst hq
  intro L R σ st x σ' hdp he k
  obtain ⟨a, s0, ea, he⟩ := bn_inv he
  obtain ⟨⟨c1, c2⟩, he⟩ := ite_inv he
  exact (h0 L R σ _ a s0 hdp ea (by obtain ⟨hY1, hY2, hY3, q, hq1, hq2⟩ := hY; exact i_callV (As := []) (st := st) C (hM a s0 _ _ c1 c2 he) hY1 ⟨hY2, hY3⟩ hl1 hh rfl rfl c1 c2 hq1 hq2 (Nat.le_trans hdp hd8) hd (fun hr => k hr)))
theorem e_caV__4 {l : Launch} {b : Nat} {V : VV} {cc : ByteArray} {own : String} {nL h : Nat} {Γ : GG} {d p p0 : Nat} {r : XR} {F : Nat → SS → Option (Int × SS)} {y : MethodName} {cy : ByteArray} {nLy hy ci index : Nat} {ret : Option FieldType} (C : Ctx l b V cc own nL h) (h0 : ER b V Γ d p r p0) (hM : MV_ l y cy nLy ret hy 4 ci F) (hY : YV y cy nLy ret 0 ci) (hl1 : Cond.methodLink own index y ∈ gtb) (hh : hy + 1 ≤ h) (hd8 : d ≤ 8) (hd : decode cc p0 = .ok (.invokevirtual index, 3)) {q9 : Nat} (hq : p0 + 3 = q9) : EV V Γ d p (caV_ ci F r) q9 := by
  subst hq
  intro L R σ st x σ' hdp he k
  obtain ⟨a, s0, ea, he⟩ := bn_inv he
  obtain ⟨⟨c1, c2⟩, he⟩ := ite_inv he
  exact (h0 L R σ _ a s0 hdp ea (by obtain ⟨hY1, hY2, hY3, q, hq1, hq2⟩ := hY; exact i_callV (As := []) (st := st) C (hM a s0 _ _ c1 c2 he) hY1 ⟨hY2, hY3⟩ hl1 hh rfl rfl c1 c2 hq1 hq2 (Nat.le_trans hdp hd8) hd (fun _ => k)))
def caV_i (ci : Nat) (F : Nat → Int → SS → Option (Int × SS)) (r : XR) (e1 : XI) : XI := fun z => bn (r z) fun a s0 => bn (e1 (z.1, z.2.1, s0)) fun x1 s1 => if (sh a).1 = 1 ∧ (sh a).2.1 = ci then F a x1 s1 else none
def MV_i (l : Launch) (y : MethodName) (cc : ByteArray) (nL : Nat) (ret : Option FieldType) (h rk ci : Nat) (F : Nat → Int → SS → Option (Int × SS)) : Prop := ∀ (a : Nat) (x1 : Int) (σ : SS) (r : Int) (σ' : SS), (sh a).1 = 1 → (sh a).2.1 = ci → inI x1 → F a x1 σ = some (r, σ') → Mt l y cc nL ret h rk (fun b => [.ref (b + a), vI x1]) σ r σ'
theorem e_caV_i_0 {l : Launch} {b : Nat} {V : VV} {cc : ByteArray} {own : String} {nL h : Nat} {Γ : GG} {d p p0 p1 : Nat} {r : XR} {e1 : XI} {F : Nat → Int → SS → Option (Int × SS)} {y : MethodName} {cy : ByteArray} {nLy hy ci index : Nat} {ret : Option FieldType} (C : Ctx l b V cc own nL h) (h0 : ER b V Γ d p r p0) (h1 : EI V Γ (d + 1) p0 e1 p1) (hM : MV_i l y cy nLy ret hy 0 ci F) (hY : YV y cy nLy ret 1 ci) (hl1 : Cond.methodLink own index y ∈ gtb) (hh : hy + 1 ≤ h) (hd8 : d ≤ 8) (hd : decode cc p1 = .ok (.invokevirtual index, 3)) {q9 : Nat} (hq : p1 + 3 = q9) : EI V Γ d p (caV_i ci F r e1) q9 := by
  subst hq
  intro L R σ st x σ' hdp he k
  obtain ⟨a, s0, ea, he⟩ := bn_inv he
  obtain ⟨x1, s1, ee1, he⟩ := bn_inv he
  obtain ⟨⟨c1, c2⟩, he⟩ := ite_inv he
  exact (h0 L R σ _ a s0 hdp ea (h1 L R s0 _ x1 s1 (by rw [dep_r]; omega) ee1 (fun hx1 => (by obtain ⟨hY1, hY2, hY3, q, hq1, hq2⟩ := hY; exact i_callV (As := [vI x1]) (st := st) C (hM a x1 s1 _ _ c1 c2 hx1 he) hY1 ⟨hY2, hY3⟩ hl1 hh rfl rfl c1 c2 hq1 hq2 (Nat.le_trans hdp hd8) hd (fun hr => k hr)))))
theorem e_caV_i_1 {l : Launch} {b : Nat} {V : VV} {cc : ByteArray} {own : String} {nL h : Nat} {Γ : GG} {d p p0 p1 : Nat} {r : XR} {e1 : XI} {F : Nat → Int → SS → Option (Int × SS)} {y : MethodName} {cy : ByteArray} {nLy hy ci index : Nat} {ret : Option FieldType} (C : Ctx l b V cc own nL h) (h0 : ER b V Γ d p r p0) (h1 : EI V Γ (d + 1) p0 e1 p1) (hM : MV_i l y cy nLy ret hy 1 ci F) (hY : YV y cy nLy ret 1 ci) (hl1 : Cond.methodLink own index y ∈ gtb) (hh : hy + 1 ≤ h) (hd8 : d ≤ 8) (hd : decode cc p1 = .ok (.invokevirtual index, 3)) {q9 : Nat} (hq : p1 + 3 = q9) : EL V Γ d p (caV_i ci F r e1) q9 := by
  subst hq
  intro L R σ st x σ' hdp he k
  obtain ⟨a, s0, ea, he⟩ := bn_inv he
  obtain ⟨x1, s1, ee1, he⟩ := bn_inv he
  obtain ⟨⟨c1, c2⟩, he⟩ := ite_inv he
  exact (h0 L R σ _ a s0 hdp ea (h1 L R s0 _ x1 s1 (by rw [dep_r]; omega) ee1 (fun hx1 => (by obtain ⟨hY1, hY2, hY3, q, hq1, hq2⟩ := hY; exact i_callV (As := [vI x1]) (st := st) C (hM a x1 s1 _ _ c1 c2 hx1 he) hY1 ⟨hY2, hY3⟩ hl1 hh rfl rfl c1 c2 hq1 hq2 (Nat.le_trans hdp hd8) hd (fun hr => k hr)))))
theorem e_caV_i_3 {l : Launch} {b : Nat} {V : VV} {cc : ByteArray} {own : String} {nL h : Nat} {Γ : GG} {d p p0 p1 : Nat} {r : XR} {e1 : XI} {F : Nat → Int → SS → Option (Int × SS)} {y : MethodName} {cy : ByteArray} {nLy hy ci index : Nat} {ret : Option FieldType} (C : Ctx l b V cc own nL h) (h0 : ER b V Γ d p r p0) (h1 : EI V Γ (d + 1) p0 e1 p1) (hM : MV_i l y cy nLy ret hy 3 ci F) (hY : YV y cy nLy ret 1 ci) (hl1 : Cond.methodLink own index y ∈ gtb) (hh : hy + 1 ≤ h) (hd8 : d ≤ 8) (hd : decode cc p1 = .ok (.invokevirtual index, 3)) {q9 : Nat} (hq : p1 + 3 = q9) : EI V Γ d p (caV_i ci F r e1) q9 := by
  subst hq
  intro L R σ st x σ' hdp he k
  obtain ⟨a, s0, ea, he⟩ := bn_inv he
  obtain ⟨x1, s1, ee1, he⟩ := bn_inv he
  obtain ⟨⟨c1, c2⟩, he⟩ := ite_inv he
  exact (h0 L R σ _ a s0 hdp ea (h1 L R s0 _ x1 s1 (by rw [dep_r]; omega) ee1 (fun hx1 => (by obtain ⟨hY1, hY2, hY3, q, hq1, hq2⟩ := hY; exact i_callV (As := [vI x1]) (st := st) C (hM a x1 s1 _ _ c1 c2 hx1 he) hY1 ⟨hY2, hY3⟩ hl1 hh rfl rfl c1 c2 hq1 hq2 (Nat.le_trans hdp hd8) hd (fun hr => k hr)))))
theorem e_caV_i_4 {l : Launch} {b : Nat} {V : VV} {cc : ByteArray} {own : String} {nL h : Nat} {Γ : GG} {d p p0 p1 : Nat} {r : XR} {e1 : XI} {F : Nat → Int → SS → Option (Int × SS)} {y : MethodName} {cy : ByteArray} {nLy hy ci index : Nat} {ret : Option FieldType} (C : Ctx l b V cc own nL h) (h0 : ER b V Γ d p r p0) (h1 : EI V Γ (d + 1) p0 e1 p1) (hM : MV_i l y cy nLy ret hy 4 ci F) (hY : YV y cy nLy ret 1 ci) (hl1 : Cond.methodLink own index y ∈ gtb) (hh : hy + 1 ≤ h) (hd8 : d ≤ 8) (hd : decode cc p1 = .ok (.invokevirtual index, 3)) {q9 : Nat} (hq : p1 + 3 = q9) : EV V Γ d p (caV_i ci F r e1) q9 := by
  subst hq
  intro L R σ st x σ' hdp he k
  obtain ⟨a, s0, ea, he⟩ := bn_inv he
  obtain ⟨x1, s1, ee1, he⟩ := bn_inv he
  obtain ⟨⟨c1, c2⟩, he⟩ := ite_inv he
  exact (h0 L R σ _ a s0 hdp ea (h1 L R s0 _ x1 s1 (by rw [dep_r]; omega) ee1 (fun hx1 => (by obtain ⟨hY1, hY2, hY3, q, hq1, hq2⟩ := hY; exact i_callV (As := [vI x1]) (st := st) C (hM a x1 s1 _ _ c1 c2 hx1 he) hY1 ⟨hY2, hY3⟩ hl1 hh rfl rfl c1 c2 hq1 hq2 (Nat.le_trans hdp hd8) hd (fun _ => k)))))
def caV_ii (ci : Nat) (F : Nat → Int → Int → SS → Option (Int × SS)) (r : XR) (e1 : XI) (e2 : XI) : XI := fun z => bn (r z) fun a s0 => bn (e1 (z.1, z.2.1, s0)) fun x1 s1 => bn (e2 (z.1, z.2.1, s1)) fun x2 s2 => if (sh a).1 = 1 ∧ (sh a).2.1 = ci then F a x1 x2 s2 else none
def MV_ii (l : Launch) (y : MethodName) (cc : ByteArray) (nL : Nat) (ret : Option FieldType) (h rk ci : Nat) (F : Nat → Int → Int → SS → Option (Int × SS)) : Prop := ∀ (a : Nat) (x1 : Int) (x2 : Int) (σ : SS) (r : Int) (σ' : SS), (sh a).1 = 1 → (sh a).2.1 = ci → inI x1 → inI x2 → F a x1 x2 σ = some (r, σ') → Mt l y cc nL ret h rk (fun b => [.ref (b + a), vI x1, vI x2]) σ r σ'
theorem e_caV_ii_0 {l : Launch} {b : Nat} {V : VV} {cc : ByteArray} {own : String} {nL h : Nat} {Γ : GG} {d p p0 p1 p2 : Nat} {r : XR} {e1 : XI} {e2 : XI} {F : Nat → Int → Int → SS → Option (Int × SS)} {y : MethodName} {cy : ByteArray} {nLy hy ci index : Nat} {ret : Option FieldType} (C : Ctx l b V cc own nL h) (h0 : ER b V Γ d p r p0) (h1 : EI V Γ (d + 1) p0 e1 p1) (h2 : EI V Γ (d + 2) p1 e2 p2) (hM : MV_ii l y cy nLy ret hy 0 ci F) (hY : YV y cy nLy ret 2 ci) (hl1 : Cond.methodLink own index y ∈ gtb) (hh : hy + 1 ≤ h) (hd8 : d ≤ 8) (hd : decode cc p2 = .ok (.invokevirtual index, 3)) {q9 : Nat} (hq : p2 + 3 = q9) : EI V Γ d p (caV_ii ci F r e1 e2) q9 := by
  subst hq
  intro L R σ st x σ' hdp he k
  obtain ⟨a, s0, ea, he⟩ := bn_inv he
  obtain ⟨x1, s1, ee1, he⟩ := bn_inv he
  obtain ⟨x2, s2, ee2, he⟩ := bn_inv he
  obtain ⟨⟨c1, c2⟩, he⟩ := ite_inv he
  exact (h0 L R σ _ a s0 hdp ea (h1 L R s0 _ x1 s1 (by rw [dep_r]; omega) ee1 (fun hx1 => (h2 L R s1 _ x2 s2 (by rw [dep_i, dep_r]; omega) ee2 (fun hx2 => (by obtain ⟨hY1, hY2, hY3, q, hq1, hq2⟩ := hY; exact i_callV (As := [vI x1, vI x2]) (st := st) C (hM a x1 x2 s2 _ _ c1 c2 hx1 hx2 he) hY1 ⟨hY2, hY3⟩ hl1 hh rfl rfl c1 c2 hq1 hq2 (Nat.le_trans hdp hd8) hd (fun hr => k hr)))))))
theorem e_caV_ii_1 {l : Launch} {b : Nat} {V : VV} {cc : ByteArray} {own : String} {nL h : Nat} {Γ : GG} {d p p0 p1 p2 : Nat} {r : XR} {e1 : XI} {e2 : XI} {F : Nat → Int → Int → SS → Option (Int × SS)} {y : MethodName} {cy : ByteArray} {nLy hy ci index : Nat} {ret : Option FieldType} (C : Ctx l b V cc own nL h) (h0 : ER b V Γ d p r p0) (h1 : EI V Γ (d + 1) p0 e1 p1) (h2 : EI V Γ (d + 2) p1 e2 p2) (hM : MV_ii l y cy nLy ret hy 1 ci F) (hY : YV y cy nLy ret 2 ci) (hl1 : Cond.methodLink own index y ∈ gtb) (hh : hy + 1 ≤ h) (hd8 : d ≤ 8) (hd : decode cc p2 = .ok (.invokevirtual index, 3)) {q9 : Nat} (hq : p2 + 3 = q9) : EL V Γ d p (caV_ii ci F r e1 e2) q9 := by
  subst hq
  intro L R σ st x σ' hdp he k
  obtain ⟨a, s0, ea, he⟩ := bn_inv he
  obtain ⟨x1, s1, ee1, he⟩ := bn_inv he
  obtain ⟨x2, s2, ee2, he⟩ := bn_inv he
  obtain ⟨⟨c1, c2⟩, he⟩ := ite_inv he
  exact (h0 L R σ _ a s0 hdp ea (h1 L R s0 _ x1 s1 (by rw [dep_r]; omega) ee1 (fun hx1 => (h2 L R s1 _ x2 s2 (by rw [dep_i, dep_r]; omega) ee2 (fun hx2 => (by obtain ⟨hY1, hY2, hY3, q, hq1, hq2⟩ := hY; exact i_callV (As := [vI x1, vI x2]) (st := st) C (hM a x1 x2 s2 _ _ c1 c2 hx1 hx2 he) hY1 ⟨hY2, hY3⟩ hl1 hh rfl rfl c1 c2 hq1 hq2 (Nat.le_trans hdp hd8) hd (fun hr => k hr)))))))
theorem e_caV_ii_3 {l : Launch} {b : Nat} {V : VV} {cc : ByteArray} {own : String} {nL h : Nat} {Γ : GG} {d p p0 p1 p2 : Nat} {r : XR} {e1 : XI} {e2 : XI} {F : Nat → Int → Int → SS → Option (Int × SS)} {y : MethodName} {cy : ByteArray} {nLy hy ci index : Nat} {ret : Option FieldType} (C : Ctx l b V cc own nL h) (h0 : ER b V Γ d p r p0) (h1 : EI V Γ (d + 1) p0 e1 p1) (h2 : EI V Γ (d + 2) p1 e2 p2) (hM : MV_ii l y cy nLy ret hy 3 ci F) (hY : YV y cy nLy ret 2 ci) (hl1 : Cond.methodLink own index y ∈ gtb) (hh : hy + 1 ≤ h) (hd8 : d ≤ 8) (hd : decode cc p2 = .ok (.invokevirtual index, 3)) {q9 : Nat} (hq : p2 + 3 = q9) : EI V Γ d p (caV_ii ci F r e1 e2) q9 := by
  subst hq
  intro L R σ st x σ' hdp he k
  obtain ⟨a, s0, ea, he⟩ := bn_inv he
  obtain ⟨x1, s1, ee1, he⟩ := bn_inv he
  obtain ⟨x2, s2, ee2, he⟩ := bn_inv he
  obtain ⟨⟨c1, c2⟩, he⟩ := ite_inv he
  exact (h0 L R σ _ a s0 hdp ea (h1 L R s0 _ x1 s1 (by rw [dep_r]; omega) ee1 (fun hx1 => (h2 L R s1 _ x2 s2 (by rw [dep_i, dep_r]; omega) ee2 (fun hx2 => (by obtain ⟨hY1, hY2, hY3, q, hq1, hq2⟩ := hY; exact i_callV (As := [vI x1, vI x2]) (st := st) C (hM a x1 x2 s2 _ _ c1 c2 hx1 hx2 he) hY1 ⟨hY2, hY3⟩ hl1 hh rfl rfl c1 c2 hq1 hq2 (Nat.le_trans hdp hd8) hd (fun hr => k hr)))))))
theorem e_caV_ii_4 {l : Launch} {b : Nat} {V : VV} {cc : ByteArray} {own : String} {nL h : Nat} {Γ : GG} {d p p0 p1 p2 : Nat} {r : XR} {e1 : XI} {e2 : XI} {F : Nat → Int → Int → SS → Option (Int × SS)} {y : MethodName} {cy : ByteArray} {nLy hy ci index : Nat} {ret : Option FieldType} (C : Ctx l b V cc own nL h) (h0 : ER b V Γ d p r p0) (h1 : EI V Γ (d + 1) p0 e1 p1) (h2 : EI V Γ (d + 2) p1 e2 p2) (hM : MV_ii l y cy nLy ret hy 4 ci F) (hY : YV y cy nLy ret 2 ci) (hl1 : Cond.methodLink own index y ∈ gtb) (hh : hy + 1 ≤ h) (hd8 : d ≤ 8) (hd : decode cc p2 = .ok (.invokevirtual index, 3)) {q9 : Nat} (hq : p2 + 3 = q9) : EV V Γ d p (caV_ii ci F r e1 e2) q9 := by
  subst hq
  intro L R σ st x σ' hdp he k
  obtain ⟨a, s0, ea, he⟩ := bn_inv he
  obtain ⟨x1, s1, ee1, he⟩ := bn_inv he
  obtain ⟨x2, s2, ee2, he⟩ := bn_inv he
  obtain ⟨⟨c1, c2⟩, he⟩ := ite_inv he
  exact (h0 L R σ _ a s0 hdp ea (h1 L R s0 _ x1 s1 (by rw [dep_r]; omega) ee1 (fun hx1 => (h2 L R s1 _ x2 s2 (by rw [dep_i, dep_r]; omega) ee2 (fun hx2 => (by obtain ⟨hY1, hY2, hY3, q, hq1, hq2⟩ := hY; exact i_callV (As := [vI x1, vI x2]) (st := st) C (hM a x1 x2 s2 _ _ c1 c2 hx1 hx2 he) hY1 ⟨hY2, hY3⟩ hl1 hh rfl rfl c1 c2 hq1 hq2 (Nat.le_trans hdp hd8) hd (fun _ => k)))))))
def caV_iii (ci : Nat) (F : Nat → Int → Int → Int → SS → Option (Int × SS)) (r : XR) (e1 : XI) (e2 : XI) (e3 : XI) : XI := fun z => bn (r z) fun a s0 => bn (e1 (z.1, z.2.1, s0)) fun x1 s1 => bn (e2 (z.1, z.2.1, s1)) fun x2 s2 => bn (e3 (z.1, z.2.1, s2)) fun x3 s3 => if (sh a).1 = 1 ∧ (sh a).2.1 = ci then F a x1 x2 x3 s3 else none
def MV_iii (l : Launch) (y : MethodName) (cc : ByteArray) (nL : Nat) (ret : Option FieldType) (h rk ci : Nat) (F : Nat → Int → Int → Int → SS → Option (Int × SS)) : Prop := ∀ (a : Nat) (x1 : Int) (x2 : Int) (x3 : Int) (σ : SS) (r : Int) (σ' : SS), (sh a).1 = 1 → (sh a).2.1 = ci → inI x1 → inI x2 → inI x3 → F a x1 x2 x3 σ = some (r, σ') → Mt l y cc nL ret h rk (fun b => [.ref (b + a), vI x1, vI x2, vI x3]) σ r σ'
theorem e_caV_iii_0 {l : Launch} {b : Nat} {V : VV} {cc : ByteArray} {own : String} {nL h : Nat} {Γ : GG} {d p p0 p1 p2 p3 : Nat} {r : XR} {e1 : XI} {e2 : XI} {e3 : XI} {F : Nat → Int → Int → Int → SS → Option (Int × SS)} {y : MethodName} {cy : ByteArray} {nLy hy ci index : Nat} {ret : Option FieldType} (C : Ctx l b V cc own nL h) (h0 : ER b V Γ d p r p0) (h1 : EI V Γ (d + 1) p0 e1 p1) (h2 : EI V Γ (d + 2) p1 e2 p2) (h3 : EI V Γ (d + 3) p2 e3 p3) (hM : MV_iii l y cy nLy ret hy 0 ci F) (hY : YV y cy nLy ret 3 ci) (hl1 : Cond.methodLink own index y ∈ gtb) (hh : hy + 1 ≤ h) (hd8 : d ≤ 8) (hd : decode cc p3 = .ok (.invokevirtual index, 3)) {q9 : Nat} (hq : p3 + 3 = q9) : EI V Γ d p (caV_iii ci F r e1 e2 e3) q9 := by
  subst hq
  intro L R σ st x σ' hdp he k
  obtain ⟨a, s0, ea, he⟩ := bn_inv he
  obtain ⟨x1, s1, ee1, he⟩ := bn_inv he
  obtain ⟨x2, s2, ee2, he⟩ := bn_inv he
  obtain ⟨x3, s3, ee3, he⟩ := bn_inv he
  obtain ⟨⟨c1, c2⟩, he⟩ := ite_inv he
  exact (h0 L R σ _ a s0 hdp ea (h1 L R s0 _ x1 s1 (by rw [dep_r]; omega) ee1 (fun hx1 => (h2 L R s1 _ x2 s2 (by rw [dep_i, dep_r]; omega) ee2 (fun hx2 => (h3 L R s2 _ x3 s3 (by rw [dep_i, dep_i, dep_r]; omega) ee3 (fun hx3 => (by obtain ⟨hY1, hY2, hY3, q, hq1, hq2⟩ := hY; exact i_callV (As := [vI x1, vI x2, vI x3]) (st := st) C (hM a x1 x2 x3 s3 _ _ c1 c2 hx1 hx2 hx3 he) hY1 ⟨hY2, hY3⟩ hl1 hh rfl rfl c1 c2 hq1 hq2 (Nat.le_trans hdp hd8) hd (fun hr => k hr)))))))))
theorem e_caV_iii_3 {l : Launch} {b : Nat} {V : VV} {cc : ByteArray} {own : String} {nL h : Nat} {Γ : GG} {d p p0 p1 p2 p3 : Nat} {r : XR} {e1 : XI} {e2 : XI} {e3 : XI} {F : Nat → Int → Int → Int → SS → Option (Int × SS)} {y : MethodName} {cy : ByteArray} {nLy hy ci index : Nat} {ret : Option FieldType} (C : Ctx l b V cc own nL h) (h0 : ER b V Γ d p r p0) (h1 : EI V Γ (d + 1) p0 e1 p1) (h2 : EI V Γ (d + 2) p1 e2 p2) (h3 : EI V Γ (d + 3) p2 e3 p3) (hM : MV_iii l y cy nLy ret hy 3 ci F) (hY : YV y cy nLy ret 3 ci) (hl1 : Cond.methodLink own index y ∈ gtb) (hh : hy + 1 ≤ h) (hd8 : d ≤ 8) (hd : decode cc p3 = .ok (.invokevirtual index, 3)) {q9 : Nat} (hq : p3 + 3 = q9) : EI V Γ d p (caV_iii ci F r e1 e2 e3) q9 := by
  subst hq
  intro L R σ st x σ' hdp he k
  obtain ⟨a, s0, ea, he⟩ := bn_inv he
  obtain ⟨x1, s1, ee1, he⟩ := bn_inv he
  obtain ⟨x2, s2, ee2, he⟩ := bn_inv he
  obtain ⟨x3, s3, ee3, he⟩ := bn_inv he
  obtain ⟨⟨c1, c2⟩, he⟩ := ite_inv he
  exact (h0 L R σ _ a s0 hdp ea (h1 L R s0 _ x1 s1 (by rw [dep_r]; omega) ee1 (fun hx1 => (h2 L R s1 _ x2 s2 (by rw [dep_i, dep_r]; omega) ee2 (fun hx2 => (h3 L R s2 _ x3 s3 (by rw [dep_i, dep_i, dep_r]; omega) ee3 (fun hx3 => (by obtain ⟨hY1, hY2, hY3, q, hq1, hq2⟩ := hY; exact i_callV (As := [vI x1, vI x2, vI x3]) (st := st) C (hM a x1 x2 x3 s3 _ _ c1 c2 hx1 hx2 hx3 he) hY1 ⟨hY2, hY3⟩ hl1 hh rfl rfl c1 c2 hq1 hq2 (Nat.le_trans hdp hd8) hd (fun hr => k hr)))))))))
theorem e_caV_iii_4 {l : Launch} {b : Nat} {V : VV} {cc : ByteArray} {own : String} {nL h : Nat} {Γ : GG} {d p p0 p1 p2 p3 : Nat} {r : XR} {e1 : XI} {e2 : XI} {e3 : XI} {F : Nat → Int → Int → Int → SS → Option (Int × SS)} {y : MethodName} {cy : ByteArray} {nLy hy ci index : Nat} {ret : Option FieldType} (C : Ctx l b V cc own nL h) (h0 : ER b V Γ d p r p0) (h1 : EI V Γ (d + 1) p0 e1 p1) (h2 : EI V Γ (d + 2) p1 e2 p2) (h3 : EI V Γ (d + 3) p2 e3 p3) (hM : MV_iii l y cy nLy ret hy 4 ci F) (hY : YV y cy nLy ret 3 ci) (hl1 : Cond.methodLink own index y ∈ gtb) (hh : hy + 1 ≤ h) (hd8 : d ≤ 8) (hd : decode cc p3 = .ok (.invokevirtual index, 3)) {q9 : Nat} (hq : p3 + 3 = q9) : EV V Γ d p (caV_iii ci F r e1 e2 e3) q9 := by
  subst hq
  intro L R σ st x σ' hdp he k
  obtain ⟨a, s0, ea, he⟩ := bn_inv he
  obtain ⟨x1, s1, ee1, he⟩ := bn_inv he
  obtain ⟨x2, s2, ee2, he⟩ := bn_inv he
  obtain ⟨x3, s3, ee3, he⟩ := bn_inv he
  obtain ⟨⟨c1, c2⟩, he⟩ := ite_inv he
  exact (h0 L R σ _ a s0 hdp ea (h1 L R s0 _ x1 s1 (by rw [dep_r]; omega) ee1 (fun hx1 => (h2 L R s1 _ x2 s2 (by rw [dep_i, dep_r]; omega) ee2 (fun hx2 => (h3 L R s2 _ x3 s3 (by rw [dep_i, dep_i, dep_r]; omega) ee3 (fun hx3 => (by obtain ⟨hY1, hY2, hY3, q, hq1, hq2⟩ := hY; exact i_callV (As := [vI x1, vI x2, vI x3]) (st := st) C (hM a x1 x2 x3 s3 _ _ c1 c2 hx1 hx2 hx3 he) hY1 ⟨hY2, hY3⟩ hl1 hh rfl rfl c1 c2 hq1 hq2 (Nat.le_trans hdp hd8) hd (fun _ => k)))))))))
def caV_iiii (ci : Nat) (F : Nat → Int → Int → Int → Int → SS → Option (Int × SS)) (r : XR) (e1 : XI) (e2 : XI) (e3 : XI) (e4 : XI) : XI := fun z => bn (r z) fun a s0 => bn (e1 (z.1, z.2.1, s0)) fun x1 s1 => bn (e2 (z.1, z.2.1, s1)) fun x2 s2 => bn (e3 (z.1, z.2.1, s2)) fun x3 s3 => bn (e4 (z.1, z.2.1, s3)) fun x4 s4 => if (sh a).1 = 1 ∧ (sh a).2.1 = ci then F a x1 x2 x3 x4 s4 else none
def MV_iiii (l : Launch) (y : MethodName) (cc : ByteArray) (nL : Nat) (ret : Option FieldType) (h rk ci : Nat) (F : Nat → Int → Int → Int → Int → SS → Option (Int × SS)) : Prop := ∀ (a : Nat) (x1 : Int) (x2 : Int) (x3 : Int) (x4 : Int) (σ : SS) (r : Int) (σ' : SS), (sh a).1 = 1 → (sh a).2.1 = ci → inI x1 → inI x2 → inI x3 → inI x4 → F a x1 x2 x3 x4 σ = some (r, σ') → Mt l y cc nL ret h rk (fun b => [.ref (b + a), vI x1, vI x2, vI x3, vI x4]) σ r σ'
theorem e_caV_iiii_0 {l : Launch} {b : Nat} {V : VV} {cc : ByteArray} {own : String} {nL h : Nat} {Γ : GG} {d p p0 p1 p2 p3 p4 : Nat} {r : XR} {e1 : XI} {e2 : XI} {e3 : XI} {e4 : XI} {F : Nat → Int → Int → Int → Int → SS → Option (Int × SS)} {y : MethodName} {cy : ByteArray} {nLy hy ci index : Nat} {ret : Option FieldType} (C : Ctx l b V cc own nL h) (h0 : ER b V Γ d p r p0) (h1 : EI V Γ (d + 1) p0 e1 p1) (h2 : EI V Γ (d + 2) p1 e2 p2) (h3 : EI V Γ (d + 3) p2 e3 p3) (h4 : EI V Γ (d + 4) p3 e4 p4) (hM : MV_iiii l y cy nLy ret hy 0 ci F) (hY : YV y cy nLy ret 4 ci) (hl1 : Cond.methodLink own index y ∈ gtb) (hh : hy + 1 ≤ h) (hd8 : d ≤ 8) (hd : decode cc p4 = .ok (.invokevirtual index, 3)) {q9 : Nat} (hq : p4 + 3 = q9) : EI V Γ d p (caV_iiii ci F r e1 e2 e3 e4) q9 := by
  subst hq
  intro L R σ st x σ' hdp he k
  obtain ⟨a, s0, ea, he⟩ := bn_inv he
  obtain ⟨x1, s1, ee1, he⟩ := bn_inv he
  obtain ⟨x2, s2, ee2, he⟩ := bn_inv he
  obtain ⟨x3, s3, ee3, he⟩ := bn_inv he
  obtain ⟨x4, s4, ee4, he⟩ := bn_inv he
  obtain ⟨⟨c1, c2⟩, he⟩ := ite_inv he
  exact (h0 L R σ _ a s0 hdp ea (h1 L R s0 _ x1 s1 (by rw [dep_r]; omega) ee1 (fun hx1 => (h2 L R s1 _ x2 s2 (by rw [dep_i, dep_r]; omega) ee2 (fun hx2 => (h3 L R s2 _ x3 s3 (by rw [dep_i, dep_i, dep_r]; omega) ee3 (fun hx3 => (h4 L R s3 _ x4 s4 (by rw [dep_i, dep_i, dep_i, dep_r]; omega) ee4 (fun hx4 => (by obtain ⟨hY1, hY2, hY3, q, hq1, hq2⟩ := hY; exact i_callV (As := [vI x1, vI x2, vI x3, vI x4]) (st := st) C (hM a x1 x2 x3 x4 s4 _ _ c1 c2 hx1 hx2 hx3 hx4 he) hY1 ⟨hY2, hY3⟩ hl1 hh rfl rfl c1 c2 hq1 hq2 (Nat.le_trans hdp hd8) hd (fun hr => k hr)))))))))))
theorem e_caV_iiii_3 {l : Launch} {b : Nat} {V : VV} {cc : ByteArray} {own : String} {nL h : Nat} {Γ : GG} {d p p0 p1 p2 p3 p4 : Nat} {r : XR} {e1 : XI} {e2 : XI} {e3 : XI} {e4 : XI} {F : Nat → Int → Int → Int → Int → SS → Option (Int × SS)} {y : MethodName} {cy : ByteArray} {nLy hy ci index : Nat} {ret : Option FieldType} (C : Ctx l b V cc own nL h) (h0 : ER b V Γ d p r p0) (h1 : EI V Γ (d + 1) p0 e1 p1) (h2 : EI V Γ (d + 2) p1 e2 p2) (h3 : EI V Γ (d + 3) p2 e3 p3) (h4 : EI V Γ (d + 4) p3 e4 p4) (hM : MV_iiii l y cy nLy ret hy 3 ci F) (hY : YV y cy nLy ret 4 ci) (hl1 : Cond.methodLink own index y ∈ gtb) (hh : hy + 1 ≤ h) (hd8 : d ≤ 8) (hd : decode cc p4 = .ok (.invokevirtual index, 3)) {q9 : Nat} (hq : p4 + 3 = q9) : EI V Γ d p (caV_iiii ci F r e1 e2 e3 e4) q9 := by
  subst hq
  intro L R σ st x σ' hdp he k
  obtain ⟨a, s0, ea, he⟩ := bn_inv he
  obtain ⟨x1, s1, ee1, he⟩ := bn_inv he
  obtain ⟨x2, s2, ee2, he⟩ := bn_inv he
  obtain ⟨x3, s3, ee3, he⟩ := bn_inv he
  obtain ⟨x4, s4, ee4, he⟩ := bn_inv he
  obtain ⟨⟨c1, c2⟩, he⟩ := ite_inv he
  exact (h0 L R σ _ a s0 hdp ea (h1 L R s0 _ x1 s1 (by rw [dep_r]; omega) ee1 (fun hx1 => (h2 L R s1 _ x2 s2 (by rw [dep_i, dep_r]; omega) ee2 (fun hx2 => (h3 L R s2 _ x3 s3 (by rw [dep_i, dep_i, dep_r]; omega) ee3 (fun hx3 => (h4 L R s3 _ x4 s4 (by rw [dep_i, dep_i, dep_i, dep_r]; omega) ee4 (fun hx4 => (by obtain ⟨hY1, hY2, hY3, q, hq1, hq2⟩ := hY; exact i_callV (As := [vI x1, vI x2, vI x3, vI x4]) (st := st) C (hM a x1 x2 x3 x4 s4 _ _ c1 c2 hx1 hx2 hx3 hx4 he) hY1 ⟨hY2, hY3⟩ hl1 hh rfl rfl c1 c2 hq1 hq2 (Nat.le_trans hdp hd8) hd (fun hr => k hr)))))))))))
def caV_iiiii (ci : Nat) (F : Nat → Int → Int → Int → Int → Int → SS → Option (Int × SS)) (r : XR) (e1 : XI) (e2 : XI) (e3 : XI) (e4 : XI) (e5 : XI) : XI := fun z => bn (r z) fun a s0 => bn (e1 (z.1, z.2.1, s0)) fun x1 s1 => bn (e2 (z.1, z.2.1, s1)) fun x2 s2 => bn (e3 (z.1, z.2.1, s2)) fun x3 s3 => bn (e4 (z.1, z.2.1, s3)) fun x4 s4 => bn (e5 (z.1, z.2.1, s4)) fun x5 s5 => if (sh a).1 = 1 ∧ (sh a).2.1 = ci then F a x1 x2 x3 x4 x5 s5 else none
def MV_iiiii (l : Launch) (y : MethodName) (cc : ByteArray) (nL : Nat) (ret : Option FieldType) (h rk ci : Nat) (F : Nat → Int → Int → Int → Int → Int → SS → Option (Int × SS)) : Prop := ∀ (a : Nat) (x1 : Int) (x2 : Int) (x3 : Int) (x4 : Int) (x5 : Int) (σ : SS) (r : Int) (σ' : SS), (sh a).1 = 1 → (sh a).2.1 = ci → inI x1 → inI x2 → inI x3 → inI x4 → inI x5 → F a x1 x2 x3 x4 x5 σ = some (r, σ') → Mt l y cc nL ret h rk (fun b => [.ref (b + a), vI x1, vI x2, vI x3, vI x4, vI x5]) σ r σ'
theorem e_caV_iiiii_0 {l : Launch} {b : Nat} {V : VV} {cc : ByteArray} {own : String} {nL h : Nat} {Γ : GG} {d p p0 p1 p2 p3 p4 p5 : Nat} {r : XR} {e1 : XI} {e2 : XI} {e3 : XI} {e4 : XI} {e5 : XI} {F : Nat → Int → Int → Int → Int → Int → SS → Option (Int × SS)} {y : MethodName} {cy : ByteArray} {nLy hy ci index : Nat} {ret : Option FieldType} (C : Ctx l b V cc own nL h) (h0 : ER b V Γ d p r p0) (h1 : EI V Γ (d + 1) p0 e1 p1) (h2 : EI V Γ (d + 2) p1 e2 p2) (h3 : EI V Γ (d + 3) p2 e3 p3) (h4 : EI V Γ (d + 4) p3 e4 p4) (h5 : EI V Γ (d + 5) p4 e5 p5) (hM : MV_iiiii l y cy nLy ret hy 0 ci F) (hY : YV y cy nLy ret 5 ci) (hl1 : Cond.methodLink own index y ∈ gtb) (hh : hy + 1 ≤ h) (hd8 : d ≤ 8) (hd : decode cc p5 = .ok (.invokevirtual index, 3)) {q9 : Nat} (hq : p5 + 3 = q9) : EI V Γ d p (caV_iiiii ci F r e1 e2 e3 e4 e5) q9 := by
  subst hq
  intro L R σ st x σ' hdp he k
  obtain ⟨a, s0, ea, he⟩ := bn_inv he
  obtain ⟨x1, s1, ee1, he⟩ := bn_inv he
  obtain ⟨x2, s2, ee2, he⟩ := bn_inv he
  obtain ⟨x3, s3, ee3, he⟩ := bn_inv he
  obtain ⟨x4, s4, ee4, he⟩ := bn_inv he
  obtain ⟨x5, s5, ee5, he⟩ := bn_inv he
  obtain ⟨⟨c1, c2⟩, he⟩ := ite_inv he
  exact (h0 L R σ _ a s0 hdp ea (h1 L R s0 _ x1 s1 (by rw [dep_r]; omega) ee1 (fun hx1 => (h2 L R s1 _ x2 s2 (by rw [dep_i, dep_r]; omega) ee2 (fun hx2 => (h3 L R s2 _ x3 s3 (by rw [dep_i, dep_i, dep_r]; omega) ee3 (fun hx3 => (h4 L R s3 _ x4 s4 (by rw [dep_i, dep_i, dep_i, dep_r]; omega) ee4 (fun hx4 => (h5 L R s4 _ x5 s5 (by rw [dep_i, dep_i, dep_i, dep_i, dep_r]; omega) ee5 (fun hx5 => (by obtain ⟨hY1, hY2, hY3, q, hq1, hq2⟩ := hY; exact i_callV (As := [vI x1, vI x2, vI x3, vI x4, vI x5]) (st := st) C (hM a x1 x2 x3 x4 x5 s5 _ _ c1 c2 hx1 hx2 hx3 hx4 hx5 he) hY1 ⟨hY2, hY3⟩ hl1 hh rfl rfl c1 c2 hq1 hq2 (Nat.le_trans hdp hd8) hd (fun hr => k hr)))))))))))))
def caV_iiri (ci : Nat) (F : Nat → Int → Int → Nat → Int → SS → Option (Int × SS)) (r : XR) (e1 : XI) (e2 : XI) (e3 : XR) (e4 : XI) : XI := fun z => bn (r z) fun a s0 => bn (e1 (z.1, z.2.1, s0)) fun x1 s1 => bn (e2 (z.1, z.2.1, s1)) fun x2 s2 => bn (e3 (z.1, z.2.1, s2)) fun x3 s3 => bn (e4 (z.1, z.2.1, s3)) fun x4 s4 => if (sh a).1 = 1 ∧ (sh a).2.1 = ci then F a x1 x2 x3 x4 s4 else none
def MV_iiri (l : Launch) (y : MethodName) (cc : ByteArray) (nL : Nat) (ret : Option FieldType) (h rk ci : Nat) (F : Nat → Int → Int → Nat → Int → SS → Option (Int × SS)) : Prop := ∀ (a : Nat) (x1 : Int) (x2 : Int) (x3 : Nat) (x4 : Int) (σ : SS) (r : Int) (σ' : SS), (sh a).1 = 1 → (sh a).2.1 = ci → inI x1 → inI x2 → inI x4 → F a x1 x2 x3 x4 σ = some (r, σ') → Mt l y cc nL ret h rk (fun b => [.ref (b + a), vI x1, vI x2, .ref (b + x3), vI x4]) σ r σ'
theorem e_caV_iiri_3 {l : Launch} {b : Nat} {V : VV} {cc : ByteArray} {own : String} {nL h : Nat} {Γ : GG} {d p p0 p1 p2 p3 p4 : Nat} {r : XR} {e1 : XI} {e2 : XI} {e3 : XR} {e4 : XI} {F : Nat → Int → Int → Nat → Int → SS → Option (Int × SS)} {y : MethodName} {cy : ByteArray} {nLy hy ci index : Nat} {ret : Option FieldType} (C : Ctx l b V cc own nL h) (h0 : ER b V Γ d p r p0) (h1 : EI V Γ (d + 1) p0 e1 p1) (h2 : EI V Γ (d + 2) p1 e2 p2) (h3 : ER b V Γ (d + 3) p2 e3 p3) (h4 : EI V Γ (d + 4) p3 e4 p4) (hM : MV_iiri l y cy nLy ret hy 3 ci F) (hY : YV y cy nLy ret 4 ci) (hl1 : Cond.methodLink own index y ∈ gtb) (hh : hy + 1 ≤ h) (hd8 : d ≤ 8) (hd : decode cc p4 = .ok (.invokevirtual index, 3)) {q9 : Nat} (hq : p4 + 3 = q9) : EI V Γ d p (caV_iiri ci F r e1 e2 e3 e4) q9 := by
  subst hq
  intro L R σ st x σ' hdp he k
  obtain ⟨a, s0, ea, he⟩ := bn_inv he
  obtain ⟨x1, s1, ee1, he⟩ := bn_inv he
  obtain ⟨x2, s2, ee2, he⟩ := bn_inv he
  obtain ⟨x3, s3, ee3, he⟩ := bn_inv he
  obtain ⟨x4, s4, ee4, he⟩ := bn_inv he
  obtain ⟨⟨c1, c2⟩, he⟩ := ite_inv he
  exact (h0 L R σ _ a s0 hdp ea (h1 L R s0 _ x1 s1 (by rw [dep_r]; omega) ee1 (fun hx1 => (h2 L R s1 _ x2 s2 (by rw [dep_i, dep_r]; omega) ee2 (fun hx2 => (h3 L R s2 _ x3 s3 (by rw [dep_i, dep_i, dep_r]; omega) ee3 (h4 L R s3 _ x4 s4 (by rw [dep_r, dep_i, dep_i, dep_r]; omega) ee4 (fun hx4 => (by obtain ⟨hY1, hY2, hY3, q, hq1, hq2⟩ := hY; exact i_callV (As := [vI x1, vI x2, .ref (b + x3), vI x4]) (st := st) C (hM a x1 x2 x3 x4 s4 _ _ c1 c2 hx1 hx2 hx4 he) hY1 ⟨hY2, hY3⟩ hl1 hh rfl rfl c1 c2 hq1 hq2 (Nat.le_trans hdp hd8) hd (fun hr => k hr))))))))))
def caV_il (ci : Nat) (F : Nat → Int → Int → SS → Option (Int × SS)) (r : XR) (e1 : XI) (e2 : XI) : XI := fun z => bn (r z) fun a s0 => bn (e1 (z.1, z.2.1, s0)) fun x1 s1 => bn (e2 (z.1, z.2.1, s1)) fun x2 s2 => if (sh a).1 = 1 ∧ (sh a).2.1 = ci then F a x1 x2 s2 else none
def MV_il (l : Launch) (y : MethodName) (cc : ByteArray) (nL : Nat) (ret : Option FieldType) (h rk ci : Nat) (F : Nat → Int → Int → SS → Option (Int × SS)) : Prop := ∀ (a : Nat) (x1 : Int) (x2 : Int) (σ : SS) (r : Int) (σ' : SS), (sh a).1 = 1 → (sh a).2.1 = ci → inI x1 → inL x2 → F a x1 x2 σ = some (r, σ') → Mt l y cc nL ret h rk (fun b => [.ref (b + a), vI x1, vL x2]) σ r σ'
theorem e_caV_il_4 {l : Launch} {b : Nat} {V : VV} {cc : ByteArray} {own : String} {nL h : Nat} {Γ : GG} {d p p0 p1 p2 : Nat} {r : XR} {e1 : XI} {e2 : XI} {F : Nat → Int → Int → SS → Option (Int × SS)} {y : MethodName} {cy : ByteArray} {nLy hy ci index : Nat} {ret : Option FieldType} (C : Ctx l b V cc own nL h) (h0 : ER b V Γ d p r p0) (h1 : EI V Γ (d + 1) p0 e1 p1) (h2 : EL V Γ (d + 2) p1 e2 p2) (hM : MV_il l y cy nLy ret hy 4 ci F) (hY : YV y cy nLy ret 2 ci) (hl1 : Cond.methodLink own index y ∈ gtb) (hh : hy + 1 ≤ h) (hd8 : d ≤ 8) (hd : decode cc p2 = .ok (.invokevirtual index, 3)) {q9 : Nat} (hq : p2 + 3 = q9) : EV V Γ d p (caV_il ci F r e1 e2) q9 := by
  subst hq
  intro L R σ st x σ' hdp he k
  obtain ⟨a, s0, ea, he⟩ := bn_inv he
  obtain ⟨x1, s1, ee1, he⟩ := bn_inv he
  obtain ⟨x2, s2, ee2, he⟩ := bn_inv he
  obtain ⟨⟨c1, c2⟩, he⟩ := ite_inv he
  exact (h0 L R σ _ a s0 hdp ea (h1 L R s0 _ x1 s1 (by rw [dep_r]; omega) ee1 (fun hx1 => (h2 L R s1 _ x2 s2 (by rw [dep_i, dep_r]; omega) ee2 (fun hx2 => (by obtain ⟨hY1, hY2, hY3, q, hq1, hq2⟩ := hY; exact i_callV (As := [vI x1, vL x2]) (st := st) C (hM a x1 x2 s2 _ _ c1 c2 hx1 hx2 he) hY1 ⟨hY2, hY3⟩ hl1 hh rfl rfl c1 c2 hq1 hq2 (Nat.le_trans hdp hd8) hd (fun _ => k)))))))
def caV_ir (ci : Nat) (F : Nat → Int → Nat → SS → Option (Int × SS)) (r : XR) (e1 : XI) (e2 : XR) : XI := fun z => bn (r z) fun a s0 => bn (e1 (z.1, z.2.1, s0)) fun x1 s1 => bn (e2 (z.1, z.2.1, s1)) fun x2 s2 => if (sh a).1 = 1 ∧ (sh a).2.1 = ci then F a x1 x2 s2 else none
def MV_ir (l : Launch) (y : MethodName) (cc : ByteArray) (nL : Nat) (ret : Option FieldType) (h rk ci : Nat) (F : Nat → Int → Nat → SS → Option (Int × SS)) : Prop := ∀ (a : Nat) (x1 : Int) (x2 : Nat) (σ : SS) (r : Int) (σ' : SS), (sh a).1 = 1 → (sh a).2.1 = ci → inI x1 → F a x1 x2 σ = some (r, σ') → Mt l y cc nL ret h rk (fun b => [.ref (b + a), vI x1, .ref (b + x2)]) σ r σ'
theorem e_caV_ir_4 {l : Launch} {b : Nat} {V : VV} {cc : ByteArray} {own : String} {nL h : Nat} {Γ : GG} {d p p0 p1 p2 : Nat} {r : XR} {e1 : XI} {e2 : XR} {F : Nat → Int → Nat → SS → Option (Int × SS)} {y : MethodName} {cy : ByteArray} {nLy hy ci index : Nat} {ret : Option FieldType} (C : Ctx l b V cc own nL h) (h0 : ER b V Γ d p r p0) (h1 : EI V Γ (d + 1) p0 e1 p1) (h2 : ER b V Γ (d + 2) p1 e2 p2) (hM : MV_ir l y cy nLy ret hy 4 ci F) (hY : YV y cy nLy ret 2 ci) (hl1 : Cond.methodLink own index y ∈ gtb) (hh : hy + 1 ≤ h) (hd8 : d ≤ 8) (hd : decode cc p2 = .ok (.invokevirtual index, 3)) {q9 : Nat} (hq : p2 + 3 = q9) : EV V Γ d p (caV_ir ci F r e1 e2) q9 := by
  subst hq
  intro L R σ st x σ' hdp he k
  obtain ⟨a, s0, ea, he⟩ := bn_inv he
  obtain ⟨x1, s1, ee1, he⟩ := bn_inv he
  obtain ⟨x2, s2, ee2, he⟩ := bn_inv he
  obtain ⟨⟨c1, c2⟩, he⟩ := ite_inv he
  exact (h0 L R σ _ a s0 hdp ea (h1 L R s0 _ x1 s1 (by rw [dep_r]; omega) ee1 (fun hx1 => (h2 L R s1 _ x2 s2 (by rw [dep_i, dep_r]; omega) ee2 (by obtain ⟨hY1, hY2, hY3, q, hq1, hq2⟩ := hY; exact i_callV (As := [vI x1, .ref (b + x2)]) (st := st) C (hM a x1 x2 s2 _ _ c1 c2 hx1 he) hY1 ⟨hY2, hY3⟩ hl1 hh rfl rfl c1 c2 hq1 hq2 (Nat.le_trans hdp hd8) hd (fun _ => k))))))
def caV_iri (ci : Nat) (F : Nat → Int → Nat → Int → SS → Option (Int × SS)) (r : XR) (e1 : XI) (e2 : XR) (e3 : XI) : XI := fun z => bn (r z) fun a s0 => bn (e1 (z.1, z.2.1, s0)) fun x1 s1 => bn (e2 (z.1, z.2.1, s1)) fun x2 s2 => bn (e3 (z.1, z.2.1, s2)) fun x3 s3 => if (sh a).1 = 1 ∧ (sh a).2.1 = ci then F a x1 x2 x3 s3 else none
def MV_iri (l : Launch) (y : MethodName) (cc : ByteArray) (nL : Nat) (ret : Option FieldType) (h rk ci : Nat) (F : Nat → Int → Nat → Int → SS → Option (Int × SS)) : Prop := ∀ (a : Nat) (x1 : Int) (x2 : Nat) (x3 : Int) (σ : SS) (r : Int) (σ' : SS), (sh a).1 = 1 → (sh a).2.1 = ci → inI x1 → inI x3 → F a x1 x2 x3 σ = some (r, σ') → Mt l y cc nL ret h rk (fun b => [.ref (b + a), vI x1, .ref (b + x2), vI x3]) σ r σ'
theorem e_caV_iri_0 {l : Launch} {b : Nat} {V : VV} {cc : ByteArray} {own : String} {nL h : Nat} {Γ : GG} {d p p0 p1 p2 p3 : Nat} {r : XR} {e1 : XI} {e2 : XR} {e3 : XI} {F : Nat → Int → Nat → Int → SS → Option (Int × SS)} {y : MethodName} {cy : ByteArray} {nLy hy ci index : Nat} {ret : Option FieldType} (C : Ctx l b V cc own nL h) (h0 : ER b V Γ d p r p0) (h1 : EI V Γ (d + 1) p0 e1 p1) (h2 : ER b V Γ (d + 2) p1 e2 p2) (h3 : EI V Γ (d + 3) p2 e3 p3) (hM : MV_iri l y cy nLy ret hy 0 ci F) (hY : YV y cy nLy ret 3 ci) (hl1 : Cond.methodLink own index y ∈ gtb) (hh : hy + 1 ≤ h) (hd8 : d ≤ 8) (hd : decode cc p3 = .ok (.invokevirtual index, 3)) {q9 : Nat} (hq : p3 + 3 = q9) : EI V Γ d p (caV_iri ci F r e1 e2 e3) q9 := by
  subst hq
  intro L R σ st x σ' hdp he k
  obtain ⟨a, s0, ea, he⟩ := bn_inv he
  obtain ⟨x1, s1, ee1, he⟩ := bn_inv he
  obtain ⟨x2, s2, ee2, he⟩ := bn_inv he
  obtain ⟨x3, s3, ee3, he⟩ := bn_inv he
  obtain ⟨⟨c1, c2⟩, he⟩ := ite_inv he
  exact (h0 L R σ _ a s0 hdp ea (h1 L R s0 _ x1 s1 (by rw [dep_r]; omega) ee1 (fun hx1 => (h2 L R s1 _ x2 s2 (by rw [dep_i, dep_r]; omega) ee2 (h3 L R s2 _ x3 s3 (by rw [dep_r, dep_i, dep_r]; omega) ee3 (fun hx3 => (by obtain ⟨hY1, hY2, hY3, q, hq1, hq2⟩ := hY; exact i_callV (As := [vI x1, .ref (b + x2), vI x3]) (st := st) C (hM a x1 x2 x3 s3 _ _ c1 c2 hx1 hx3 he) hY1 ⟨hY2, hY3⟩ hl1 hh rfl rfl c1 c2 hq1 hq2 (Nat.le_trans hdp hd8) hd (fun hr => k hr))))))))
def caV_l (ci : Nat) (F : Nat → Int → SS → Option (Int × SS)) (r : XR) (e1 : XI) : XI := fun z => bn (r z) fun a s0 => bn (e1 (z.1, z.2.1, s0)) fun x1 s1 => if (sh a).1 = 1 ∧ (sh a).2.1 = ci then F a x1 s1 else none
def MV_l (l : Launch) (y : MethodName) (cc : ByteArray) (nL : Nat) (ret : Option FieldType) (h rk ci : Nat) (F : Nat → Int → SS → Option (Int × SS)) : Prop := ∀ (a : Nat) (x1 : Int) (σ : SS) (r : Int) (σ' : SS), (sh a).1 = 1 → (sh a).2.1 = ci → inL x1 → F a x1 σ = some (r, σ') → Mt l y cc nL ret h rk (fun b => [.ref (b + a), vL x1]) σ r σ'
theorem e_caV_l_0 {l : Launch} {b : Nat} {V : VV} {cc : ByteArray} {own : String} {nL h : Nat} {Γ : GG} {d p p0 p1 : Nat} {r : XR} {e1 : XI} {F : Nat → Int → SS → Option (Int × SS)} {y : MethodName} {cy : ByteArray} {nLy hy ci index : Nat} {ret : Option FieldType} (C : Ctx l b V cc own nL h) (h0 : ER b V Γ d p r p0) (h1 : EL V Γ (d + 1) p0 e1 p1) (hM : MV_l l y cy nLy ret hy 0 ci F) (hY : YV y cy nLy ret 1 ci) (hl1 : Cond.methodLink own index y ∈ gtb) (hh : hy + 1 ≤ h) (hd8 : d ≤ 8) (hd : decode cc p1 = .ok (.invokevirtual index, 3)) {q9 : Nat} (hq : p1 + 3 = q9) : EI V Γ d p (caV_l ci F r e1) q9 := by
  subst hq
  intro L R σ st x σ' hdp he k
  obtain ⟨a, s0, ea, he⟩ := bn_inv he
  obtain ⟨x1, s1, ee1, he⟩ := bn_inv he
  obtain ⟨⟨c1, c2⟩, he⟩ := ite_inv he
  exact (h0 L R σ _ a s0 hdp ea (h1 L R s0 _ x1 s1 (by rw [dep_r]; omega) ee1 (fun hx1 => (by obtain ⟨hY1, hY2, hY3, q, hq1, hq2⟩ := hY; exact i_callV (As := [vL x1]) (st := st) C (hM a x1 s1 _ _ c1 c2 hx1 he) hY1 ⟨hY2, hY3⟩ hl1 hh rfl rfl c1 c2 hq1 hq2 (Nat.le_trans hdp hd8) hd (fun hr => k hr)))))
theorem e_caV_l_1 {l : Launch} {b : Nat} {V : VV} {cc : ByteArray} {own : String} {nL h : Nat} {Γ : GG} {d p p0 p1 : Nat} {r : XR} {e1 : XI} {F : Nat → Int → SS → Option (Int × SS)} {y : MethodName} {cy : ByteArray} {nLy hy ci index : Nat} {ret : Option FieldType} (C : Ctx l b V cc own nL h) (h0 : ER b V Γ d p r p0) (h1 : EL V Γ (d + 1) p0 e1 p1) (hM : MV_l l y cy nLy ret hy 1 ci F) (hY : YV y cy nLy ret 1 ci) (hl1 : Cond.methodLink own index y ∈ gtb) (hh : hy + 1 ≤ h) (hd8 : d ≤ 8) (hd : decode cc p1 = .ok (.invokevirtual index, 3)) {q9 : Nat} (hq : p1 + 3 = q9) : EL V Γ d p (caV_l ci F r e1) q9 := by
  subst hq
  intro L R σ st x σ' hdp he k
  obtain ⟨a, s0, ea, he⟩ := bn_inv he
  obtain ⟨x1, s1, ee1, he⟩ := bn_inv he
  obtain ⟨⟨c1, c2⟩, he⟩ := ite_inv he
  exact (h0 L R σ _ a s0 hdp ea (h1 L R s0 _ x1 s1 (by rw [dep_r]; omega) ee1 (fun hx1 => (by obtain ⟨hY1, hY2, hY3, q, hq1, hq2⟩ := hY; exact i_callV (As := [vL x1]) (st := st) C (hM a x1 s1 _ _ c1 c2 hx1 he) hY1 ⟨hY2, hY3⟩ hl1 hh rfl rfl c1 c2 hq1 hq2 (Nat.le_trans hdp hd8) hd (fun hr => k hr)))))
theorem e_caV_l_3 {l : Launch} {b : Nat} {V : VV} {cc : ByteArray} {own : String} {nL h : Nat} {Γ : GG} {d p p0 p1 : Nat} {r : XR} {e1 : XI} {F : Nat → Int → SS → Option (Int × SS)} {y : MethodName} {cy : ByteArray} {nLy hy ci index : Nat} {ret : Option FieldType} (C : Ctx l b V cc own nL h) (h0 : ER b V Γ d p r p0) (h1 : EL V Γ (d + 1) p0 e1 p1) (hM : MV_l l y cy nLy ret hy 3 ci F) (hY : YV y cy nLy ret 1 ci) (hl1 : Cond.methodLink own index y ∈ gtb) (hh : hy + 1 ≤ h) (hd8 : d ≤ 8) (hd : decode cc p1 = .ok (.invokevirtual index, 3)) {q9 : Nat} (hq : p1 + 3 = q9) : EI V Γ d p (caV_l ci F r e1) q9 := by
  subst hq
  intro L R σ st x σ' hdp he k
  obtain ⟨a, s0, ea, he⟩ := bn_inv he
  obtain ⟨x1, s1, ee1, he⟩ := bn_inv he
  obtain ⟨⟨c1, c2⟩, he⟩ := ite_inv he
  exact (h0 L R σ _ a s0 hdp ea (h1 L R s0 _ x1 s1 (by rw [dep_r]; omega) ee1 (fun hx1 => (by obtain ⟨hY1, hY2, hY3, q, hq1, hq2⟩ := hY; exact i_callV (As := [vL x1]) (st := st) C (hM a x1 s1 _ _ c1 c2 hx1 he) hY1 ⟨hY2, hY3⟩ hl1 hh rfl rfl c1 c2 hq1 hq2 (Nat.le_trans hdp hd8) hd (fun hr => k hr)))))
def caV_ll (ci : Nat) (F : Nat → Int → Int → SS → Option (Int × SS)) (r : XR) (e1 : XI) (e2 : XI) : XI := fun z => bn (r z) fun a s0 => bn (e1 (z.1, z.2.1, s0)) fun x1 s1 => bn (e2 (z.1, z.2.1, s1)) fun x2 s2 => if (sh a).1 = 1 ∧ (sh a).2.1 = ci then F a x1 x2 s2 else none
def MV_ll (l : Launch) (y : MethodName) (cc : ByteArray) (nL : Nat) (ret : Option FieldType) (h rk ci : Nat) (F : Nat → Int → Int → SS → Option (Int × SS)) : Prop := ∀ (a : Nat) (x1 : Int) (x2 : Int) (σ : SS) (r : Int) (σ' : SS), (sh a).1 = 1 → (sh a).2.1 = ci → inL x1 → inL x2 → F a x1 x2 σ = some (r, σ') → Mt l y cc nL ret h rk (fun b => [.ref (b + a), vL x1, vL x2]) σ r σ'
theorem e_caV_ll_3 {l : Launch} {b : Nat} {V : VV} {cc : ByteArray} {own : String} {nL h : Nat} {Γ : GG} {d p p0 p1 p2 : Nat} {r : XR} {e1 : XI} {e2 : XI} {F : Nat → Int → Int → SS → Option (Int × SS)} {y : MethodName} {cy : ByteArray} {nLy hy ci index : Nat} {ret : Option FieldType} (C : Ctx l b V cc own nL h) (h0 : ER b V Γ d p r p0) (h1 : EL V Γ (d + 1) p0 e1 p1) (h2 : EL V Γ (d + 3) p1 e2 p2) (hM : MV_ll l y cy nLy ret hy 3 ci F) (hY : YV y cy nLy ret 2 ci) (hl1 : Cond.methodLink own index y ∈ gtb) (hh : hy + 1 ≤ h) (hd8 : d ≤ 8) (hd : decode cc p2 = .ok (.invokevirtual index, 3)) {q9 : Nat} (hq : p2 + 3 = q9) : EI V Γ d p (caV_ll ci F r e1 e2) q9 := by
  subst hq
  intro L R σ st x σ' hdp he k
  obtain ⟨a, s0, ea, he⟩ := bn_inv he
  obtain ⟨x1, s1, ee1, he⟩ := bn_inv he
  obtain ⟨x2, s2, ee2, he⟩ := bn_inv he
  obtain ⟨⟨c1, c2⟩, he⟩ := ite_inv he
  exact (h0 L R σ _ a s0 hdp ea (h1 L R s0 _ x1 s1 (by rw [dep_r]; omega) ee1 (fun hx1 => (h2 L R s1 _ x2 s2 (by rw [dep_l, dep_r]; omega) ee2 (fun hx2 => (by obtain ⟨hY1, hY2, hY3, q, hq1, hq2⟩ := hY; exact i_callV (As := [vL x1, vL x2]) (st := st) C (hM a x1 x2 s2 _ _ c1 c2 hx1 hx2 he) hY1 ⟨hY2, hY3⟩ hl1 hh rfl rfl c1 c2 hq1 hq2 (Nat.le_trans hdp hd8) hd (fun hr => k hr)))))))
def caV_r (ci : Nat) (F : Nat → Nat → SS → Option (Int × SS)) (r : XR) (e1 : XR) : XI := fun z => bn (r z) fun a s0 => bn (e1 (z.1, z.2.1, s0)) fun x1 s1 => if (sh a).1 = 1 ∧ (sh a).2.1 = ci then F a x1 s1 else none
def MV_r (l : Launch) (y : MethodName) (cc : ByteArray) (nL : Nat) (ret : Option FieldType) (h rk ci : Nat) (F : Nat → Nat → SS → Option (Int × SS)) : Prop := ∀ (a : Nat) (x1 : Nat) (σ : SS) (r : Int) (σ' : SS), (sh a).1 = 1 → (sh a).2.1 = ci → F a x1 σ = some (r, σ') → Mt l y cc nL ret h rk (fun b => [.ref (b + a), .ref (b + x1)]) σ r σ'
theorem e_caV_r_0 {l : Launch} {b : Nat} {V : VV} {cc : ByteArray} {own : String} {nL h : Nat} {Γ : GG} {d p p0 p1 : Nat} {r : XR} {e1 : XR} {F : Nat → Nat → SS → Option (Int × SS)} {y : MethodName} {cy : ByteArray} {nLy hy ci index : Nat} {ret : Option FieldType} (C : Ctx l b V cc own nL h) (h0 : ER b V Γ d p r p0) (h1 : ER b V Γ (d + 1) p0 e1 p1) (hM : MV_r l y cy nLy ret hy 0 ci F) (hY : YV y cy nLy ret 1 ci) (hl1 : Cond.methodLink own index y ∈ gtb) (hh : hy + 1 ≤ h) (hd8 : d ≤ 8) (hd : decode cc p1 = .ok (.invokevirtual index, 3)) {q9 : Nat} (hq : p1 + 3 = q9) : EI V Γ d p (caV_r ci F r e1) q9 := by
  subst hq
  intro L R σ st x σ' hdp he k
  obtain ⟨a, s0, ea, he⟩ := bn_inv he
  obtain ⟨x1, s1, ee1, he⟩ := bn_inv he
  obtain ⟨⟨c1, c2⟩, he⟩ := ite_inv he
  exact (h0 L R σ _ a s0 hdp ea (h1 L R s0 _ x1 s1 (by rw [dep_r]; omega) ee1 (by obtain ⟨hY1, hY2, hY3, q, hq1, hq2⟩ := hY; exact i_callV (As := [.ref (b + x1)]) (st := st) C (hM a x1 s1 _ _ c1 c2 he) hY1 ⟨hY2, hY3⟩ hl1 hh rfl rfl c1 c2 hq1 hq2 (Nat.le_trans hdp hd8) hd (fun hr => k hr))))
theorem e_caV_r_4 {l : Launch} {b : Nat} {V : VV} {cc : ByteArray} {own : String} {nL h : Nat} {Γ : GG} {d p p0 p1 : Nat} {r : XR} {e1 : XR} {F : Nat → Nat → SS → Option (Int × SS)} {y : MethodName} {cy : ByteArray} {nLy hy ci index : Nat} {ret : Option FieldType} (C : Ctx l b V cc own nL h) (h0 : ER b V Γ d p r p0) (h1 : ER b V Γ (d + 1) p0 e1 p1) (hM : MV_r l y cy nLy ret hy 4 ci F) (hY : YV y cy nLy ret 1 ci) (hl1 : Cond.methodLink own index y ∈ gtb) (hh : hy + 1 ≤ h) (hd8 : d ≤ 8) (hd : decode cc p1 = .ok (.invokevirtual index, 3)) {q9 : Nat} (hq : p1 + 3 = q9) : EV V Γ d p (caV_r ci F r e1) q9 := by
  subst hq
  intro L R σ st x σ' hdp he k
  obtain ⟨a, s0, ea, he⟩ := bn_inv he
  obtain ⟨x1, s1, ee1, he⟩ := bn_inv he
  obtain ⟨⟨c1, c2⟩, he⟩ := ite_inv he
  exact (h0 L R σ _ a s0 hdp ea (h1 L R s0 _ x1 s1 (by rw [dep_r]; omega) ee1 (by obtain ⟨hY1, hY2, hY3, q, hq1, hq2⟩ := hY; exact i_callV (As := [.ref (b + x1)]) (st := st) C (hM a x1 s1 _ _ c1 c2 he) hY1 ⟨hY2, hY3⟩ hl1 hh rfl rfl c1 c2 hq1 hq2 (Nat.le_trans hdp hd8) hd (fun _ => k))))
def caV_ri (ci : Nat) (F : Nat → Nat → Int → SS → Option (Int × SS)) (r : XR) (e1 : XR) (e2 : XI) : XI := fun z => bn (r z) fun a s0 => bn (e1 (z.1, z.2.1, s0)) fun x1 s1 => bn (e2 (z.1, z.2.1, s1)) fun x2 s2 => if (sh a).1 = 1 ∧ (sh a).2.1 = ci then F a x1 x2 s2 else none
def MV_ri (l : Launch) (y : MethodName) (cc : ByteArray) (nL : Nat) (ret : Option FieldType) (h rk ci : Nat) (F : Nat → Nat → Int → SS → Option (Int × SS)) : Prop := ∀ (a : Nat) (x1 : Nat) (x2 : Int) (σ : SS) (r : Int) (σ' : SS), (sh a).1 = 1 → (sh a).2.1 = ci → inI x2 → F a x1 x2 σ = some (r, σ') → Mt l y cc nL ret h rk (fun b => [.ref (b + a), .ref (b + x1), vI x2]) σ r σ'
theorem e_caV_ri_0 {l : Launch} {b : Nat} {V : VV} {cc : ByteArray} {own : String} {nL h : Nat} {Γ : GG} {d p p0 p1 p2 : Nat} {r : XR} {e1 : XR} {e2 : XI} {F : Nat → Nat → Int → SS → Option (Int × SS)} {y : MethodName} {cy : ByteArray} {nLy hy ci index : Nat} {ret : Option FieldType} (C : Ctx l b V cc own nL h) (h0 : ER b V Γ d p r p0) (h1 : ER b V Γ (d + 1) p0 e1 p1) (h2 : EI V Γ (d + 2) p1 e2 p2) (hM : MV_ri l y cy nLy ret hy 0 ci F) (hY : YV y cy nLy ret 2 ci) (hl1 : Cond.methodLink own index y ∈ gtb) (hh : hy + 1 ≤ h) (hd8 : d ≤ 8) (hd : decode cc p2 = .ok (.invokevirtual index, 3)) {q9 : Nat} (hq : p2 + 3 = q9) : EI V Γ d p (caV_ri ci F r e1 e2) q9 := by
  subst hq
  intro L R σ st x σ' hdp he k
  obtain ⟨a, s0, ea, he⟩ := bn_inv he
  obtain ⟨x1, s1, ee1, he⟩ := bn_inv he
  obtain ⟨x2, s2, ee2, he⟩ := bn_inv he
  obtain ⟨⟨c1, c2⟩, he⟩ := ite_inv he
  exact (h0 L R σ _ a s0 hdp ea (h1 L R s0 _ x1 s1 (by rw [dep_r]; omega) ee1 (h2 L R s1 _ x2 s2 (by rw [dep_r, dep_r]; omega) ee2 (fun hx2 => (by obtain ⟨hY1, hY2, hY3, q, hq1, hq2⟩ := hY; exact i_callV (As := [.ref (b + x1), vI x2]) (st := st) C (hM a x1 x2 s2 _ _ c1 c2 hx2 he) hY1 ⟨hY2, hY3⟩ hl1 hh rfl rfl c1 c2 hq1 hq2 (Nat.le_trans hdp hd8) hd (fun hr => k hr))))))
theorem e_caV_ri_3 {l : Launch} {b : Nat} {V : VV} {cc : ByteArray} {own : String} {nL h : Nat} {Γ : GG} {d p p0 p1 p2 : Nat} {r : XR} {e1 : XR} {e2 : XI} {F : Nat → Nat → Int → SS → Option (Int × SS)} {y : MethodName} {cy : ByteArray} {nLy hy ci index : Nat} {ret : Option FieldType} (C : Ctx l b V cc own nL h) (h0 : ER b V Γ d p r p0) (h1 : ER b V Γ (d + 1) p0 e1 p1) (h2 : EI V Γ (d + 2) p1 e2 p2) (hM : MV_ri l y cy nLy ret hy 3 ci F) (hY : YV y cy nLy ret 2 ci) (hl1 : Cond.methodLink own index y ∈ gtb) (hh : hy + 1 ≤ h) (hd8 : d ≤ 8) (hd : decode cc p2 = .ok (.invokevirtual index, 3)) {q9 : Nat} (hq : p2 + 3 = q9) : EI V Γ d p (caV_ri ci F r e1 e2) q9 := by
  subst hq
  intro L R σ st x σ' hdp he k
  obtain ⟨a, s0, ea, he⟩ := bn_inv he
  obtain ⟨x1, s1, ee1, he⟩ := bn_inv he
  obtain ⟨x2, s2, ee2, he⟩ := bn_inv he
  obtain ⟨⟨c1, c2⟩, he⟩ := ite_inv he
  exact (h0 L R σ _ a s0 hdp ea (h1 L R s0 _ x1 s1 (by rw [dep_r]; omega) ee1 (h2 L R s1 _ x2 s2 (by rw [dep_r, dep_r]; omega) ee2 (fun hx2 => (by obtain ⟨hY1, hY2, hY3, q, hq1, hq2⟩ := hY; exact i_callV (As := [.ref (b + x1), vI x2]) (st := st) C (hM a x1 x2 s2 _ _ c1 c2 hx2 he) hY1 ⟨hY2, hY3⟩ hl1 hh rfl rfl c1 c2 hq1 hq2 (Nat.le_trans hdp hd8) hd (fun hr => k hr))))))
def caV_rii (ci : Nat) (F : Nat → Nat → Int → Int → SS → Option (Int × SS)) (r : XR) (e1 : XR) (e2 : XI) (e3 : XI) : XI := fun z => bn (r z) fun a s0 => bn (e1 (z.1, z.2.1, s0)) fun x1 s1 => bn (e2 (z.1, z.2.1, s1)) fun x2 s2 => bn (e3 (z.1, z.2.1, s2)) fun x3 s3 => if (sh a).1 = 1 ∧ (sh a).2.1 = ci then F a x1 x2 x3 s3 else none
def MV_rii (l : Launch) (y : MethodName) (cc : ByteArray) (nL : Nat) (ret : Option FieldType) (h rk ci : Nat) (F : Nat → Nat → Int → Int → SS → Option (Int × SS)) : Prop := ∀ (a : Nat) (x1 : Nat) (x2 : Int) (x3 : Int) (σ : SS) (r : Int) (σ' : SS), (sh a).1 = 1 → (sh a).2.1 = ci → inI x2 → inI x3 → F a x1 x2 x3 σ = some (r, σ') → Mt l y cc nL ret h rk (fun b => [.ref (b + a), .ref (b + x1), vI x2, vI x3]) σ r σ'
theorem e_caV_rii_0 {l : Launch} {b : Nat} {V : VV} {cc : ByteArray} {own : String} {nL h : Nat} {Γ : GG} {d p p0 p1 p2 p3 : Nat} {r : XR} {e1 : XR} {e2 : XI} {e3 : XI} {F : Nat → Nat → Int → Int → SS → Option (Int × SS)} {y : MethodName} {cy : ByteArray} {nLy hy ci index : Nat} {ret : Option FieldType} (C : Ctx l b V cc own nL h) (h0 : ER b V Γ d p r p0) (h1 : ER b V Γ (d + 1) p0 e1 p1) (h2 : EI V Γ (d + 2) p1 e2 p2) (h3 : EI V Γ (d + 3) p2 e3 p3) (hM : MV_rii l y cy nLy ret hy 0 ci F) (hY : YV y cy nLy ret 3 ci) (hl1 : Cond.methodLink own index y ∈ gtb) (hh : hy + 1 ≤ h) (hd8 : d ≤ 8) (hd : decode cc p3 = .ok (.invokevirtual index, 3)) {q9 : Nat} (hq : p3 + 3 = q9) : EI V Γ d p (caV_rii ci F r e1 e2 e3) q9 := by
  subst hq
  intro L R σ st x σ' hdp he k
  obtain ⟨a, s0, ea, he⟩ := bn_inv he
  obtain ⟨x1, s1, ee1, he⟩ := bn_inv he
  obtain ⟨x2, s2, ee2, he⟩ := bn_inv he
  obtain ⟨x3, s3, ee3, he⟩ := bn_inv he
  obtain ⟨⟨c1, c2⟩, he⟩ := ite_inv he
  exact (h0 L R σ _ a s0 hdp ea (h1 L R s0 _ x1 s1 (by rw [dep_r]; omega) ee1 (h2 L R s1 _ x2 s2 (by rw [dep_r, dep_r]; omega) ee2 (fun hx2 => (h3 L R s2 _ x3 s3 (by rw [dep_i, dep_r, dep_r]; omega) ee3 (fun hx3 => (by obtain ⟨hY1, hY2, hY3, q, hq1, hq2⟩ := hY; exact i_callV (As := [.ref (b + x1), vI x2, vI x3]) (st := st) C (hM a x1 x2 x3 s3 _ _ c1 c2 hx2 hx3 he) hY1 ⟨hY2, hY3⟩ hl1 hh rfl rfl c1 c2 hq1 hq2 (Nat.le_trans hdp hd8) hd (fun hr => k hr))))))))
theorem e_caV_rii_4 {l : Launch} {b : Nat} {V : VV} {cc : ByteArray} {own : String} {nL h : Nat} {Γ : GG} {d p p0 p1 p2 p3 : Nat} {r : XR} {e1 : XR} {e2 : XI} {e3 : XI} {F : Nat → Nat → Int → Int → SS → Option (Int × SS)} {y : MethodName} {cy : ByteArray} {nLy hy ci index : Nat} {ret : Option FieldType} (C : Ctx l b V cc own nL h) (h0 : ER b V Γ d p r p0) (h1 : ER b V Γ (d + 1) p0 e1 p1) (h2 : EI V Γ (d + 2) p1 e2 p2) (h3 : EI V Γ (d + 3) p2 e3 p3) (hM : MV_rii l y cy nLy ret hy 4 ci F) (hY : YV y cy nLy ret 3 ci) (hl1 : Cond.methodLink own index y ∈ gtb) (hh : hy + 1 ≤ h) (hd8 : d ≤ 8) (hd : decode cc p3 = .ok (.invokevirtual index, 3)) {q9 : Nat} (hq : p3 + 3 = q9) : EV V Γ d p (caV_rii ci F r e1 e2 e3) q9 := by
  subst hq
  intro L R σ st x σ' hdp he k
  obtain ⟨a, s0, ea, he⟩ := bn_inv he
  obtain ⟨x1, s1, ee1, he⟩ := bn_inv he
  obtain ⟨x2, s2, ee2, he⟩ := bn_inv he
  obtain ⟨x3, s3, ee3, he⟩ := bn_inv he
  obtain ⟨⟨c1, c2⟩, he⟩ := ite_inv he
  exact (h0 L R σ _ a s0 hdp ea (h1 L R s0 _ x1 s1 (by rw [dep_r]; omega) ee1 (h2 L R s1 _ x2 s2 (by rw [dep_r, dep_r]; omega) ee2 (fun hx2 => (h3 L R s2 _ x3 s3 (by rw [dep_i, dep_r, dep_r]; omega) ee3 (fun hx3 => (by obtain ⟨hY1, hY2, hY3, q, hq1, hq2⟩ := hY; exact i_callV (As := [.ref (b + x1), vI x2, vI x3]) (st := st) C (hM a x1 x2 x3 s3 _ _ c1 c2 hx2 hx3 he) hY1 ⟨hY2, hY3⟩ hl1 hh rfl rfl c1 c2 hq1 hq2 (Nat.le_trans hdp hd8) hd (fun _ => k))))))))
def caV_riii (ci : Nat) (F : Nat → Nat → Int → Int → Int → SS → Option (Int × SS)) (r : XR) (e1 : XR) (e2 : XI) (e3 : XI) (e4 : XI) : XI := fun z => bn (r z) fun a s0 => bn (e1 (z.1, z.2.1, s0)) fun x1 s1 => bn (e2 (z.1, z.2.1, s1)) fun x2 s2 => bn (e3 (z.1, z.2.1, s2)) fun x3 s3 => bn (e4 (z.1, z.2.1, s3)) fun x4 s4 => if (sh a).1 = 1 ∧ (sh a).2.1 = ci then F a x1 x2 x3 x4 s4 else none
def MV_riii (l : Launch) (y : MethodName) (cc : ByteArray) (nL : Nat) (ret : Option FieldType) (h rk ci : Nat) (F : Nat → Nat → Int → Int → Int → SS → Option (Int × SS)) : Prop := ∀ (a : Nat) (x1 : Nat) (x2 : Int) (x3 : Int) (x4 : Int) (σ : SS) (r : Int) (σ' : SS), (sh a).1 = 1 → (sh a).2.1 = ci → inI x2 → inI x3 → inI x4 → F a x1 x2 x3 x4 σ = some (r, σ') → Mt l y cc nL ret h rk (fun b => [.ref (b + a), .ref (b + x1), vI x2, vI x3, vI x4]) σ r σ'
theorem e_caV_riii_0 {l : Launch} {b : Nat} {V : VV} {cc : ByteArray} {own : String} {nL h : Nat} {Γ : GG} {d p p0 p1 p2 p3 p4 : Nat} {r : XR} {e1 : XR} {e2 : XI} {e3 : XI} {e4 : XI} {F : Nat → Nat → Int → Int → Int → SS → Option (Int × SS)} {y : MethodName} {cy : ByteArray} {nLy hy ci index : Nat} {ret : Option FieldType} (C : Ctx l b V cc own nL h) (h0 : ER b V Γ d p r p0) (h1 : ER b V Γ (d + 1) p0 e1 p1) (h2 : EI V Γ (d + 2) p1 e2 p2) (h3 : EI V Γ (d + 3) p2 e3 p3) (h4 : EI V Γ (d + 4) p3 e4 p4) (hM : MV_riii l y cy nLy ret hy 0 ci F) (hY : YV y cy nLy ret 4 ci) (hl1 : Cond.methodLink own index y ∈ gtb) (hh : hy + 1 ≤ h) (hd8 : d ≤ 8) (hd : decode cc p4 = .ok (.invokevirtual index, 3)) {q9 : Nat} (hq : p4 + 3 = q9) : EI V Γ d p (caV_riii ci F r e1 e2 e3 e4) q9 := by
  subst hq
  intro L R σ st x σ' hdp he k
  obtain ⟨a, s0, ea, he⟩ := bn_inv he
  obtain ⟨x1, s1, ee1, he⟩ := bn_inv he
  obtain ⟨x2, s2, ee2, he⟩ := bn_inv he
  obtain ⟨x3, s3, ee3, he⟩ := bn_inv he
  obtain ⟨x4, s4, ee4, he⟩ := bn_inv he
  obtain ⟨⟨c1, c2⟩, he⟩ := ite_inv he
  exact (h0 L R σ _ a s0 hdp ea (h1 L R s0 _ x1 s1 (by rw [dep_r]; omega) ee1 (h2 L R s1 _ x2 s2 (by rw [dep_r, dep_r]; omega) ee2 (fun hx2 => (h3 L R s2 _ x3 s3 (by rw [dep_i, dep_r, dep_r]; omega) ee3 (fun hx3 => (h4 L R s3 _ x4 s4 (by rw [dep_i, dep_i, dep_r, dep_r]; omega) ee4 (fun hx4 => (by obtain ⟨hY1, hY2, hY3, q, hq1, hq2⟩ := hY; exact i_callV (As := [.ref (b + x1), vI x2, vI x3, vI x4]) (st := st) C (hM a x1 x2 x3 x4 s4 _ _ c1 c2 hx2 hx3 hx4 he) hY1 ⟨hY2, hY3⟩ hl1 hh rfl rfl c1 c2 hq1 hq2 (Nat.le_trans hdp hd8) hd (fun hr => k hr))))))))))
def caV_riiii (ci : Nat) (F : Nat → Nat → Int → Int → Int → Int → SS → Option (Int × SS)) (r : XR) (e1 : XR) (e2 : XI) (e3 : XI) (e4 : XI) (e5 : XI) : XI := fun z => bn (r z) fun a s0 => bn (e1 (z.1, z.2.1, s0)) fun x1 s1 => bn (e2 (z.1, z.2.1, s1)) fun x2 s2 => bn (e3 (z.1, z.2.1, s2)) fun x3 s3 => bn (e4 (z.1, z.2.1, s3)) fun x4 s4 => bn (e5 (z.1, z.2.1, s4)) fun x5 s5 => if (sh a).1 = 1 ∧ (sh a).2.1 = ci then F a x1 x2 x3 x4 x5 s5 else none
def MV_riiii (l : Launch) (y : MethodName) (cc : ByteArray) (nL : Nat) (ret : Option FieldType) (h rk ci : Nat) (F : Nat → Nat → Int → Int → Int → Int → SS → Option (Int × SS)) : Prop := ∀ (a : Nat) (x1 : Nat) (x2 : Int) (x3 : Int) (x4 : Int) (x5 : Int) (σ : SS) (r : Int) (σ' : SS), (sh a).1 = 1 → (sh a).2.1 = ci → inI x2 → inI x3 → inI x4 → inI x5 → F a x1 x2 x3 x4 x5 σ = some (r, σ') → Mt l y cc nL ret h rk (fun b => [.ref (b + a), .ref (b + x1), vI x2, vI x3, vI x4, vI x5]) σ r σ'
theorem e_caV_riiii_0 {l : Launch} {b : Nat} {V : VV} {cc : ByteArray} {own : String} {nL h : Nat} {Γ : GG} {d p p0 p1 p2 p3 p4 p5 : Nat} {r : XR} {e1 : XR} {e2 : XI} {e3 : XI} {e4 : XI} {e5 : XI} {F : Nat → Nat → Int → Int → Int → Int → SS → Option (Int × SS)} {y : MethodName} {cy : ByteArray} {nLy hy ci index : Nat} {ret : Option FieldType} (C : Ctx l b V cc own nL h) (h0 : ER b V Γ d p r p0) (h1 : ER b V Γ (d + 1) p0 e1 p1) (h2 : EI V Γ (d + 2) p1 e2 p2) (h3 : EI V Γ (d + 3) p2 e3 p3) (h4 : EI V Γ (d + 4) p3 e4 p4) (h5 : EI V Γ (d + 5) p4 e5 p5) (hM : MV_riiii l y cy nLy ret hy 0 ci F) (hY : YV y cy nLy ret 5 ci) (hl1 : Cond.methodLink own index y ∈ gtb) (hh : hy + 1 ≤ h) (hd8 : d ≤ 8) (hd : decode cc p5 = .ok (.invokevirtual index, 3)) {q9 : Nat} (hq : p5 + 3 = q9) : EI V Γ d p (caV_riiii ci F r e1 e2 e3 e4 e5) q9 := by
  subst hq
  intro L R σ st x σ' hdp he k
  obtain ⟨a, s0, ea, he⟩ := bn_inv he
  obtain ⟨x1, s1, ee1, he⟩ := bn_inv he
  obtain ⟨x2, s2, ee2, he⟩ := bn_inv he
  obtain ⟨x3, s3, ee3, he⟩ := bn_inv he
  obtain ⟨x4, s4, ee4, he⟩ := bn_inv he
  obtain ⟨x5, s5, ee5, he⟩ := bn_inv he
  obtain ⟨⟨c1, c2⟩, he⟩ := ite_inv he
  exact (h0 L R σ _ a s0 hdp ea (h1 L R s0 _ x1 s1 (by rw [dep_r]; omega) ee1 (h2 L R s1 _ x2 s2 (by rw [dep_r, dep_r]; omega) ee2 (fun hx2 => (h3 L R s2 _ x3 s3 (by rw [dep_i, dep_r, dep_r]; omega) ee3 (fun hx3 => (h4 L R s3 _ x4 s4 (by rw [dep_i, dep_i, dep_r, dep_r]; omega) ee4 (fun hx4 => (h5 L R s4 _ x5 s5 (by rw [dep_i, dep_i, dep_i, dep_r, dep_r]; omega) ee5 (fun hx5 => (by obtain ⟨hY1, hY2, hY3, q, hq1, hq2⟩ := hY; exact i_callV (As := [.ref (b + x1), vI x2, vI x3, vI x4, vI x5]) (st := st) C (hM a x1 x2 x3 x4 x5 s5 _ _ c1 c2 hx2 hx3 hx4 hx5 he) hY1 ⟨hY2, hY3⟩ hl1 hh rfl rfl c1 c2 hq1 hq2 (Nat.le_trans hdp hd8) hd (fun hr => k hr))))))))))))
