/-! calls, by the kinds of what is handed over -/
def caV_iil (ci : Nat) (F : Nat → Int → Int → Int → SS → Option (Int × SS)) (r : XR) (e1 : XI) (e2 : XI) (e3 : XI) : XI := fun z => bn (r z) fun a s0 => bn (e1 (z.1, z.2.1, s0)) fun x1 s1 => bn (e2 (z.1, z.2.1, s1)) fun x2 s2 => bn (e3 (z.1, z.2.1, s2)) fun x3 s3 => if (sh a).1 = 1 ∧ (sh a).2.1 = ci then F a x1 x2 x3 s3 else none
def MV_iil (l : Launch) (y : MethodName) (cc : ByteArray) (nL : Nat) (ret : Option FieldType) (h rk ci : Nat) (F : Nat → Int → Int → Int → SS → Option (Int × SS)) : Prop := ∀ (a : Nat) (x1 : Int) (x2 : Int) (x3 : Int) (σ : SS) (r : Int) (σ' : SS), (sh a).1 = 1 → (sh a).2.1 = ci → inI x1 → inI x2 → inL x3 → F a x1 x2 x3 σ = some (r, σ') → Mt l y cc nL ret h rk (fun b => [.ref (b + a), vI x1, vI x2, vL x3]) σ r σ'
theorem e_caV_iil_3 {l : Launch} {b : Nat} {V : VV} {cc : ByteArray} {own : String} {nL h : Nat} {Γ : GG} {d p p0 p1 p2 p3 : Nat} {r : XR} {e1 : XI} {e2 : XI} {e3 : XI} {F : Nat → Int → Int → Int → SS → Option (Int × SS)} {y : MethodName} {cy : ByteArray} {nLy hy ci index : Nat} {ret : Option FieldType} (C : Ctx l b V cc own nL h) (h0 : ER b V Γ d p r p0) (h1 : EI V Γ (d + 1) p0 e1 p1) (h2 : EI V Γ (d + 2) p1 e2 p2) (h3 : EL V Γ (d + 3) p2 e3 p3) (hM : MV_iil l y cy nLy ret hy 3 ci F) (hY : YV y cy nLy ret 3 ci) (hl1 : Cond.methodLink own index y ∈ gtb) (hh : hy + 1 ≤ h) (hd8 : d ≤ 8) (hd : decode cc p3 = .ok (.invokevirtual index, 3)) {q9 : Nat} (hq : p3 + 3 = q9) : EI V Γ d p (caV_iil ci F r e1 e2 e3) q9 := by
  subst hq
  intro L R σ st x σ' hdp he k
  obtain ⟨a, s0, ea, he⟩ := bn_inv he
  obtain ⟨x1, s1, ee1, he⟩ := bn_inv he
  obtain ⟨x2, s2, ee2, he⟩ := bn_inv he
  obtain ⟨x3, s3, ee3, he⟩ := bn_inv he
  obtain ⟨⟨c1, c2⟩, he⟩ := ite_inv he
  exact (h0 L R σ _ a s0 hdp ea (h1 L R s0 _ x1 s1 (by rw [dep_r]; omega) ee1 (fun hx1 => (h2 L R s1 _ x2 s2 (by rw [dep_i, dep_r]; omega) ee2 (fun hx2 => (h3 L R s2 _ x3 s3 (by rw [dep_i, dep_i, dep_r]; omega) ee3 (fun hx3 => (by obtain ⟨hY1, hY2, hY3, q, hq1, hq2⟩ := hY; exact i_callV (As := [vI x1, vI x2, vL x3]) (st := st) C (hM a x1 x2 x3 s3 _ _ c1 c2 hx1 hx2 hx3 he) hY1 ⟨hY2, hY3⟩ hl1 hh rfl rfl c1 c2 hq1 hq2 (Nat.le_trans hdp hd8) hd (fun hr => k hr)))))))))
