/-! the pieces of source, applied -/
theorem v_asI {k : Nat} {e : XI} {z : ZZ} : asI k e z = bn (e z) fun x s => some (.inl 0, (z.1.set k x, z.2.1, s)) := Eq.trans rfl rfl
theorem v_asR {k : Nat} {e : XR} {z : ZZ} : asR k e z = bn (e z) fun x s => some (.inl 0, (z.1, z.2.1.set k x, s)) := Eq.trans rfl rfl
theorem v_inc {k : Nat} {n : Int} {z : ZZ} : inc k n z = some (.inl 0, (z.1.set k (wI (z.1.getD k 0 + n)), z.2.1, z.2.2)) := Eq.trans rfl rfl
theorem v_pfI {ci k : Nat} {r : XR} {e : XI} {z : ZZ} : pfI ci k r e z = bn (r z) fun a s => bn (e (z.1, z.2.1, s)) fun x s2 => if (sh a).1 = 1 ∧ (sh a).2.1 = ci then some (.inl 0, (z.1, z.2.1, ups s2 a k x)) else none := Eq.trans rfl rfl
theorem v_pfZ {ci k : Nat} {r : XR} {e : XI} {z : ZZ} : pfZ ci k r e z = bn (r z) fun a s => bn (e (z.1, z.2.1, s)) fun x s2 => if ((sh a).1 = 1 ∧ (sh a).2.1 = ci) ∧ (x = 0 ∨ x = 1) then some (.inl 0, (z.1, z.2.1, ups s2 a k x)) else none := Eq.trans rfl rfl
theorem v_pfO {ci k : Nat} {f : Int → Int → Option Int} {r : XR} {e : XI} {z : ZZ} : pfO ci k f r e z = bn (r z) fun a s => if (sh a).1 = 1 ∧ (sh a).2.1 = ci then bn (e (z.1, z.2.1, s)) fun y s2 => (f (s a k) y).map fun v => (.inl 0, (z.1, z.2.1, ups s2 a k v)) else none := Eq.trans rfl rfl
theorem v_paI {tag : Nat} {r : XR} {i e : XI} {z : ZZ} : paI tag r i e z = bn (r z) fun a s => bn (i (z.1, z.2.1, s)) fun x s2 => bn (e (z.1, z.2.1, s2)) fun y s3 => if (sh a).1 = tag ∧ 0 ≤ x ∧ x < (sh a).2.2 then some (.inl 0, (z.1, z.2.1, ups s3 a x.toNat (stO tag y))) else none := Eq.trans rfl rfl
theorem v_paO {tag : Nat} {f : Int → Int → Option Int} {r : XR} {i e : XI} {z : ZZ} : paO tag f r i e z = bn (r z) fun a s => bn (i (z.1, z.2.1, s)) fun x s2 => if (sh a).1 = tag ∧ 0 ≤ x ∧ x < (sh a).2.2 then bn (e (z.1, z.2.1, s2)) fun y s3 => (f (s2 a x.toNat) y).map fun v => (.inl 0, (z.1, z.2.1, ups s3 a x.toNat v)) else none := Eq.trans rfl rfl
theorem v_exI {e : XI} {z : ZZ} : exI e z = bn (e z) fun _ s => some (.inl 0, (z.1, z.2.1, s)) := Eq.trans rfl rfl
theorem v_iff {c : XC} {f g : XS} {z : ZZ} : iff c f g z = bn (c z) fun y s => if y = true then f (z.1, z.2.1, s) else g (z.1, z.2.1, s) := Eq.trans rfl rfl
theorem v_rtI {e : XI} {z : ZZ} : rtI e z = bn (e z) fun x s => some (.inr x, (z.1, z.2.1, s)) := Eq.trans rfl rfl
theorem v_rtZ {e : XI} {z : ZZ} : rtZ e z = bn (e z) fun x s => if x = 0 ∨ x = 1 then some (.inr x, (z.1, z.2.1, s)) else none := Eq.trans rfl rfl
theorem v_rtV  {z : ZZ} : rtV z = some (.inr 0, z) := Eq.trans rfl rfl
theorem v_sk  {z : ZZ} : sk z = some (.inl 0, z) := Eq.trans rfl rfl
theorem v_brk  {z : ZZ} : brk z = some (.inl 1, z) := Eq.trans rfl rfl
theorem v_cnt  {z : ZZ} : cnt z = some (.inl 2, z) := Eq.trans rfl rfl
theorem v_lI {k : Nat} {z : ZZ} : lI k z = some (z.1.getD k 0, z.2.2) := Eq.trans rfl rfl
theorem v_lR {k : Nat} {z : ZZ} : lR k z = some (z.2.1.getD k 0, z.2.2) := Eq.trans rfl rfl
theorem v_cI {n : Int} {z : ZZ} : cI n z = some (n, z.2.2) := Eq.trans rfl rfl
theorem v_gI {ci k : Nat} {r : XR} {z : ZZ} : gI ci k r z = bn (r z) fun a s => if (sh a).1 = 1 ∧ (sh a).2.1 = ci then some (s a k, s) else none := Eq.trans rfl rfl
theorem v_gR {ci k : Nat} {r : XR} {z : ZZ} : gR ci k r z = bn (r z) fun a s => if (sh a).1 = 1 ∧ (sh a).2.1 = ci then some (rf a k, s) else none := Eq.trans rfl rfl
theorem v_op1 {f : Int → Option Int} {a : XI} {z : ZZ} : op1 f a z = bn (a z) fun x s => (f x).map fun v => (v, s) := Eq.trans rfl rfl
theorem v_op2 {f : Int → Int → Option Int} {a b : XI} {z : ZZ} : op2 f a b z = bn (a z) fun x s => bn (b (z.1, z.2.1, s)) fun y s2 => (f x y).map fun v => (v, s2) := Eq.trans rfl rfl
theorem v_arI {tag : Nat} {r : XR} {i : XI} {z : ZZ} : arI tag r i z = bn (r z) fun a s => bn (i (z.1, z.2.1, s)) fun x s2 => if (sh a).1 = tag ∧ 0 ≤ x ∧ x < (sh a).2.2 then some (s2 a x.toNat, s2) else none := Eq.trans rfl rfl
theorem v_arR {t : Nat} {r : XR} {i : XI} {z : ZZ} : arR t r i z = bn (r z) fun a s => bn (i (z.1, z.2.1, s)) fun x s2 => if ((sh a).1 = 6 ∧ (sh a).2.1 = t) ∧ 0 ≤ x ∧ x < (sh a).2.2 then some (rf a x.toNat, s2) else none := Eq.trans rfl rfl
theorem v_alen {tag : Nat} {r : XR} {z : ZZ} : alen tag r z = bn (r z) fun a s => if (sh a).1 = tag then some (((sh a).2.2 : Int), s) else none := Eq.trans rfl rfl
theorem v_tern {c : XC} {a b : XI} {z : ZZ} : tern c a b z = bn (c z) fun y s => if y = true then a (z.1, z.2.1, s) else b (z.1, z.2.1, s) := Eq.trans rfl rfl
theorem v_cmp1 {f : Int → Bool} {a : XI} {z : ZZ} : cmp1 f a z = bn (a z) fun x s => some (f x, s) := Eq.trans rfl rfl
theorem v_cmp2 {f : Int → Int → Bool} {a b : XI} {z : ZZ} : cmp2 f a b z = bn (a z) fun x s => bn (b (z.1, z.2.1, s)) fun y s2 => some (f x y, s2) := Eq.trans rfl rfl
theorem v_cAnd {a b : XC} {z : ZZ} : cAnd a b z = bn (a z) fun y s => if y = true then b (z.1, z.2.1, s) else some (false, s) := Eq.trans rfl rfl
theorem v_cOr {a b : XC} {z : ZZ} : cOr a b z = bn (a z) fun y s => if y = true then some (true, s) else b (z.1, z.2.1, s) := Eq.trans rfl rfl
theorem v_cNot {a : XC} {z : ZZ} : cNot a z = bn (a z) fun y s => some (!y, s) := Eq.trans rfl rfl
theorem v_cTern {c a e : XC} {z : ZZ} : cTern c a e z = bn (c z) fun y s => if y = true then a (z.1, z.2.1, s) else e (z.1, z.2.1, s) := Eq.trans rfl rfl
theorem v_caS_i {F : Int → SS → Option (Int × SS)} {e1 : XI} {z : ZZ} : caS_i F e1 z = bn (e1 z) fun x1 s1 => F x1 s1 := Eq.trans rfl rfl
theorem v_caS_ii {F : Int → Int → SS → Option (Int × SS)} {e1 : XI} {e2 : XI} {z : ZZ} : caS_ii F e1 e2 z = bn (e1 z) fun x1 s1 => bn (e2 (z.1, z.2.1, s1)) fun x2 s2 => F x1 x2 s2 := Eq.trans rfl rfl
theorem v_caS_iii {F : Int → Int → Int → SS → Option (Int × SS)} {e1 : XI} {e2 : XI} {e3 : XI} {z : ZZ} : caS_iii F e1 e2 e3 z = bn (e1 z) fun x1 s1 => bn (e2 (z.1, z.2.1, s1)) fun x2 s2 => bn (e3 (z.1, z.2.1, s2)) fun x3 s3 => F x1 x2 x3 s3 := Eq.trans rfl rfl
theorem v_caS_iiii {F : Int → Int → Int → Int → SS → Option (Int × SS)} {e1 : XI} {e2 : XI} {e3 : XI} {e4 : XI} {z : ZZ} : caS_iiii F e1 e2 e3 e4 z = bn (e1 z) fun x1 s1 => bn (e2 (z.1, z.2.1, s1)) fun x2 s2 => bn (e3 (z.1, z.2.1, s2)) fun x3 s3 => bn (e4 (z.1, z.2.1, s3)) fun x4 s4 => F x1 x2 x3 x4 s4 := Eq.trans rfl rfl
theorem v_caS_iiiiii {F : Int → Int → Int → Int → Int → Int → SS → Option (Int × SS)} {e1 : XI} {e2 : XI} {e3 : XI} {e4 : XI} {e5 : XI} {e6 : XI} {z : ZZ} : caS_iiiiii F e1 e2 e3 e4 e5 e6 z = bn (e1 z) fun x1 s1 => bn (e2 (z.1, z.2.1, s1)) fun x2 s2 => bn (e3 (z.1, z.2.1, s2)) fun x3 s3 => bn (e4 (z.1, z.2.1, s3)) fun x4 s4 => bn (e5 (z.1, z.2.1, s4)) fun x5 s5 => bn (e6 (z.1, z.2.1, s5)) fun x6 s6 => F x1 x2 x3 x4 x5 x6 s6 := Eq.trans rfl rfl
theorem v_caS_il {F : Int → Int → SS → Option (Int × SS)} {e1 : XI} {e2 : XI} {z : ZZ} : caS_il F e1 e2 z = bn (e1 z) fun x1 s1 => bn (e2 (z.1, z.2.1, s1)) fun x2 s2 => F x1 x2 s2 := Eq.trans rfl rfl
theorem v_caS_li {F : Int → Int → SS → Option (Int × SS)} {e1 : XI} {e2 : XI} {z : ZZ} : caS_li F e1 e2 z = bn (e1 z) fun x1 s1 => bn (e2 (z.1, z.2.1, s1)) fun x2 s2 => F x1 x2 s2 := Eq.trans rfl rfl
theorem v_caS_ll {F : Int → Int → SS → Option (Int × SS)} {e1 : XI} {e2 : XI} {z : ZZ} : caS_ll F e1 e2 z = bn (e1 z) fun x1 s1 => bn (e2 (z.1, z.2.1, s1)) fun x2 s2 => F x1 x2 s2 := Eq.trans rfl rfl
theorem v_caS_lll {F : Int → Int → Int → SS → Option (Int × SS)} {e1 : XI} {e2 : XI} {e3 : XI} {z : ZZ} : caS_lll F e1 e2 e3 z = bn (e1 z) fun x1 s1 => bn (e2 (z.1, z.2.1, s1)) fun x2 s2 => bn (e3 (z.1, z.2.1, s2)) fun x3 s3 => F x1 x2 x3 s3 := Eq.trans rfl rfl
theorem v_caS_ri {F : Nat → Int → SS → Option (Int × SS)} {e1 : XR} {e2 : XI} {z : ZZ} : caS_ri F e1 e2 z = bn (e1 z) fun x1 s1 => bn (e2 (z.1, z.2.1, s1)) fun x2 s2 => F x1 x2 s2 := Eq.trans rfl rfl
theorem v_caS_riii {F : Nat → Int → Int → Int → SS → Option (Int × SS)} {e1 : XR} {e2 : XI} {e3 : XI} {e4 : XI} {z : ZZ} : caS_riii F e1 e2 e3 e4 z = bn (e1 z) fun x1 s1 => bn (e2 (z.1, z.2.1, s1)) fun x2 s2 => bn (e3 (z.1, z.2.1, s2)) fun x3 s3 => bn (e4 (z.1, z.2.1, s3)) fun x4 s4 => F x1 x2 x3 x4 s4 := Eq.trans rfl rfl
theorem v_caS_rriiii {F : Nat → Nat → Int → Int → Int → Int → SS → Option (Int × SS)} {e1 : XR} {e2 : XR} {e3 : XI} {e4 : XI} {e5 : XI} {e6 : XI} {z : ZZ} : caS_rriiii F e1 e2 e3 e4 e5 e6 z = bn (e1 z) fun x1 s1 => bn (e2 (z.1, z.2.1, s1)) fun x2 s2 => bn (e3 (z.1, z.2.1, s2)) fun x3 s3 => bn (e4 (z.1, z.2.1, s3)) fun x4 s4 => bn (e5 (z.1, z.2.1, s4)) fun x5 s5 => bn (e6 (z.1, z.2.1, s5)) fun x6 s6 => F x1 x2 x3 x4 x5 x6 s6 := Eq.trans rfl rfl
theorem v_caV_ {ci : Nat} {F : Nat → SS → Option (Int × SS)} {r : XR} {z : ZZ} : caV_ ci F r z = bn (r z) fun a s0 => if (sh a).1 = 1 ∧ (sh a).2.1 = ci then F a  s0 else none := Eq.trans rfl rfl
theorem v_caV_i {ci : Nat} {F : Nat → Int → SS → Option (Int × SS)} {r : XR} {e1 : XI} {z : ZZ} : caV_i ci F r e1 z = bn (r z) fun a s0 => bn (e1 (z.1, z.2.1, s0)) fun x1 s1 => if (sh a).1 = 1 ∧ (sh a).2.1 = ci then F a x1 s1 else none := Eq.trans rfl rfl
theorem v_caV_ii {ci : Nat} {F : Nat → Int → Int → SS → Option (Int × SS)} {r : XR} {e1 : XI} {e2 : XI} {z : ZZ} : caV_ii ci F r e1 e2 z = bn (r z) fun a s0 => bn (e1 (z.1, z.2.1, s0)) fun x1 s1 => bn (e2 (z.1, z.2.1, s1)) fun x2 s2 => if (sh a).1 = 1 ∧ (sh a).2.1 = ci then F a x1 x2 s2 else none := Eq.trans rfl rfl
theorem v_caV_iii {ci : Nat} {F : Nat → Int → Int → Int → SS → Option (Int × SS)} {r : XR} {e1 : XI} {e2 : XI} {e3 : XI} {z : ZZ} : caV_iii ci F r e1 e2 e3 z = bn (r z) fun a s0 => bn (e1 (z.1, z.2.1, s0)) fun x1 s1 => bn (e2 (z.1, z.2.1, s1)) fun x2 s2 => bn (e3 (z.1, z.2.1, s2)) fun x3 s3 => if (sh a).1 = 1 ∧ (sh a).2.1 = ci then F a x1 x2 x3 s3 else none := Eq.trans rfl rfl
theorem v_caV_iiii {ci : Nat} {F : Nat → Int → Int → Int → Int → SS → Option (Int × SS)} {r : XR} {e1 : XI} {e2 : XI} {e3 : XI} {e4 : XI} {z : ZZ} : caV_iiii ci F r e1 e2 e3 e4 z = bn (r z) fun a s0 => bn (e1 (z.1, z.2.1, s0)) fun x1 s1 => bn (e2 (z.1, z.2.1, s1)) fun x2 s2 => bn (e3 (z.1, z.2.1, s2)) fun x3 s3 => bn (e4 (z.1, z.2.1, s3)) fun x4 s4 => if (sh a).1 = 1 ∧ (sh a).2.1 = ci then F a x1 x2 x3 x4 s4 else none := Eq.trans rfl rfl
theorem v_caV_iiiii {ci : Nat} {F : Nat → Int → Int → Int → Int → Int → SS → Option (Int × SS)} {r : XR} {e1 : XI} {e2 : XI} {e3 : XI} {e4 : XI} {e5 : XI} {z : ZZ} : caV_iiiii ci F r e1 e2 e3 e4 e5 z = bn (r z) fun a s0 => bn (e1 (z.1, z.2.1, s0)) fun x1 s1 => bn (e2 (z.1, z.2.1, s1)) fun x2 s2 => bn (e3 (z.1, z.2.1, s2)) fun x3 s3 => bn (e4 (z.1, z.2.1, s3)) fun x4 s4 => bn (e5 (z.1, z.2.1, s4)) fun x5 s5 => if (sh a).1 = 1 ∧ (sh a).2.1 = ci then F a x1 x2 x3 x4 x5 s5 else none := Eq.trans rfl rfl
theorem v_caV_iiri {ci : Nat} {F : Nat → Int → Int → Nat → Int → SS → Option (Int × SS)} {r : XR} {e1 : XI} {e2 : XI} {e3 : XR} {e4 : XI} {z : ZZ} : caV_iiri ci F r e1 e2 e3 e4 z = bn (r z) fun a s0 => bn (e1 (z.1, z.2.1, s0)) fun x1 s1 => bn (e2 (z.1, z.2.1, s1)) fun x2 s2 => bn (e3 (z.1, z.2.1, s2)) fun x3 s3 => bn (e4 (z.1, z.2.1, s3)) fun x4 s4 => if (sh a).1 = 1 ∧ (sh a).2.1 = ci then F a x1 x2 x3 x4 s4 else none := Eq.trans rfl rfl
theorem v_caV_il {ci : Nat} {F : Nat → Int → Int → SS → Option (Int × SS)} {r : XR} {e1 : XI} {e2 : XI} {z : ZZ} : caV_il ci F r e1 e2 z = bn (r z) fun a s0 => bn (e1 (z.1, z.2.1, s0)) fun x1 s1 => bn (e2 (z.1, z.2.1, s1)) fun x2 s2 => if (sh a).1 = 1 ∧ (sh a).2.1 = ci then F a x1 x2 s2 else none := Eq.trans rfl rfl
theorem v_caV_ir {ci : Nat} {F : Nat → Int → Nat → SS → Option (Int × SS)} {r : XR} {e1 : XI} {e2 : XR} {z : ZZ} : caV_ir ci F r e1 e2 z = bn (r z) fun a s0 => bn (e1 (z.1, z.2.1, s0)) fun x1 s1 => bn (e2 (z.1, z.2.1, s1)) fun x2 s2 => if (sh a).1 = 1 ∧ (sh a).2.1 = ci then F a x1 x2 s2 else none := Eq.trans rfl rfl
theorem v_caV_iri {ci : Nat} {F : Nat → Int → Nat → Int → SS → Option (Int × SS)} {r : XR} {e1 : XI} {e2 : XR} {e3 : XI} {z : ZZ} : caV_iri ci F r e1 e2 e3 z = bn (r z) fun a s0 => bn (e1 (z.1, z.2.1, s0)) fun x1 s1 => bn (e2 (z.1, z.2.1, s1)) fun x2 s2 => bn (e3 (z.1, z.2.1, s2)) fun x3 s3 => if (sh a).1 = 1 ∧ (sh a).2.1 = ci then F a x1 x2 x3 s3 else none := Eq.trans rfl rfl
theorem v_caV_l {ci : Nat} {F : Nat → Int → SS → Option (Int × SS)} {r : XR} {e1 : XI} {z : ZZ} : caV_l ci F r e1 z = bn (r z) fun a s0 => bn (e1 (z.1, z.2.1, s0)) fun x1 s1 => if (sh a).1 = 1 ∧ (sh a).2.1 = ci then F a x1 s1 else none := Eq.trans rfl rfl
theorem v_caV_ll {ci : Nat} {F : Nat → Int → Int → SS → Option (Int × SS)} {r : XR} {e1 : XI} {e2 : XI} {z : ZZ} : caV_ll ci F r e1 e2 z = bn (r z) fun a s0 => bn (e1 (z.1, z.2.1, s0)) fun x1 s1 => bn (e2 (z.1, z.2.1, s1)) fun x2 s2 => if (sh a).1 = 1 ∧ (sh a).2.1 = ci then F a x1 x2 s2 else none := Eq.trans rfl rfl
theorem v_caV_r {ci : Nat} {F : Nat → Nat → SS → Option (Int × SS)} {r : XR} {e1 : XR} {z : ZZ} : caV_r ci F r e1 z = bn (r z) fun a s0 => bn (e1 (z.1, z.2.1, s0)) fun x1 s1 => if (sh a).1 = 1 ∧ (sh a).2.1 = ci then F a x1 s1 else none := Eq.trans rfl rfl
theorem v_caV_ri {ci : Nat} {F : Nat → Nat → Int → SS → Option (Int × SS)} {r : XR} {e1 : XR} {e2 : XI} {z : ZZ} : caV_ri ci F r e1 e2 z = bn (r z) fun a s0 => bn (e1 (z.1, z.2.1, s0)) fun x1 s1 => bn (e2 (z.1, z.2.1, s1)) fun x2 s2 => if (sh a).1 = 1 ∧ (sh a).2.1 = ci then F a x1 x2 s2 else none := Eq.trans rfl rfl
theorem v_caV_rii {ci : Nat} {F : Nat → Nat → Int → Int → SS → Option (Int × SS)} {r : XR} {e1 : XR} {e2 : XI} {e3 : XI} {z : ZZ} : caV_rii ci F r e1 e2 e3 z = bn (r z) fun a s0 => bn (e1 (z.1, z.2.1, s0)) fun x1 s1 => bn (e2 (z.1, z.2.1, s1)) fun x2 s2 => bn (e3 (z.1, z.2.1, s2)) fun x3 s3 => if (sh a).1 = 1 ∧ (sh a).2.1 = ci then F a x1 x2 x3 s3 else none := Eq.trans rfl rfl
theorem v_caV_riii {ci : Nat} {F : Nat → Nat → Int → Int → Int → SS → Option (Int × SS)} {r : XR} {e1 : XR} {e2 : XI} {e3 : XI} {e4 : XI} {z : ZZ} : caV_riii ci F r e1 e2 e3 e4 z = bn (r z) fun a s0 => bn (e1 (z.1, z.2.1, s0)) fun x1 s1 => bn (e2 (z.1, z.2.1, s1)) fun x2 s2 => bn (e3 (z.1, z.2.1, s2)) fun x3 s3 => bn (e4 (z.1, z.2.1, s3)) fun x4 s4 => if (sh a).1 = 1 ∧ (sh a).2.1 = ci then F a x1 x2 x3 x4 s4 else none := Eq.trans rfl rfl
theorem v_caV_riiii {ci : Nat} {F : Nat → Nat → Int → Int → Int → Int → SS → Option (Int × SS)} {r : XR} {e1 : XR} {e2 : XI} {e3 : XI} {e4 : XI} {e5 : XI} {z : ZZ} : caV_riiii ci F r e1 e2 e3 e4 e5 z = bn (r z) fun a s0 => bn (e1 (z.1, z.2.1, s0)) fun x1 s1 => bn (e2 (z.1, z.2.1, s1)) fun x2 s2 => bn (e3 (z.1, z.2.1, s2)) fun x3 s3 => bn (e4 (z.1, z.2.1, s3)) fun x4 s4 => bn (e5 (z.1, z.2.1, s4)) fun x5 s5 => if (sh a).1 = 1 ∧ (sh a).2.1 = ci then F a x1 x2 x3 x4 x5 s5 else none := Eq.trans rfl rfl
theorem v_caV_iil {ci : Nat} {F : Nat → Int → Int → Int → SS → Option (Int × SS)} {r : XR} {e1 : XI} {e2 : XI} {e3 : XI} {z : ZZ} : caV_iil ci F r e1 e2 e3 z = bn (r z) fun a s0 => bn (e1 (z.1, z.2.1, s0)) fun x1 s1 => bn (e2 (z.1, z.2.1, s1)) fun x2 s2 => bn (e3 (z.1, z.2.1, s2)) fun x3 s3 => if (sh a).1 = 1 ∧ (sh a).2.1 = ci then F a x1 x2 x3 s3 else none := Eq.trans rfl rfl
theorem v_sq_eq {f g : XS} {z : ZZ} : sq f g z = sqM (f z) g := Eq.trans rfl rfl
theorem v_sqM_0 {z : ZZ} {g : XS} : sqM (some (.inl 0, z)) g = g z := Eq.trans rfl rfl
theorem v_sqM_r {v : Int} {z : ZZ} {g : XS} : sqM (some (.inr v, z)) g = some (.inr v, z) := Eq.trans rfl rfl
theorem v_sqM_b {k : Nat} {z : ZZ} {g : XS} : sqM (some (.inl (k + 1), z)) g = some (.inl (k + 1), z) := Eq.trans rfl rfl
theorem v_sqM_n {g : XS} : sqM none g = none := Eq.trans rfl rfl
theorem v_bn_some {α β : Type} {x : α} {s : SS} {f : α → SS → Option β} : bn (some (x, s)) f = f x s := Eq.trans rfl rfl
theorem v_bn_none {α β : Type} {f : α → SS → Option β} : bn none f = none := Eq.trans rfl rfl
theorem v_outV_r {v : Int} {z : ZZ} : outV (some (.inr v, z)) = some (v, z.2.2) := Eq.trans rfl rfl
theorem v_outV_0 {k : Nat} {z : ZZ} : outV (some (.inl k, z)) = none := Eq.trans rfl rfl
theorem v_outV_n : outV none = none := Eq.trans rfl rfl
theorem v_blk_eq {n : Nat} {f : XS} {z : ZZ} : blk n f z = blkM n z (f z) := Eq.trans rfl rfl
theorem v_blkM_some {n : Nat} {z : ZZ} {o : OO} {z1 : ZZ} : blkM n z (some (o, z1)) = some (o, (z1.1.take n ++ z.1.drop n, z1.2.1.take n ++ z.2.1.drop n, z1.2.2)) := Eq.trans rfl rfl
theorem v_sw_eq {e : XI} {f : Int → XS} {z : ZZ} : sw e f z = bn (e z) fun x s => swM (f x (z.1, z.2.1, s)) := Eq.trans rfl rfl
theorem v_swM_0 {z : ZZ} : swM (some (.inl 0, z)) = some (.inl 0, z) := Eq.trans rfl rfl
theorem v_swM_1 {z : ZZ} : swM (some (.inl 1, z)) = some (.inl 0, z) := Eq.trans rfl rfl
theorem v_swM_r {v : Int} {z : ZZ} : swM (some (.inr v, z)) = some (.inr v, z) := Eq.trans rfl rfl
theorem v_swM_n : swM none = none := Eq.trans rfl rfl
theorem v_kS_0 {g : XS} {Q : OO → ZZ → Prop} {z : ZZ} : kS g Q (.inl 0) z = Wd (g z) Q := Eq.trans rfl rfl
theorem v_kS_b {g : XS} {Q : OO → ZZ → Prop} {k : Nat} {z : ZZ} : kS g Q (.inl (k + 1)) z = Q (.inl (k + 1)) z := Eq.trans rfl rfl
theorem v_kS_r {g : XS} {Q : OO → ZZ → Prop} {v : Int} {z : ZZ} : kS g Q (.inr v) z = Q (.inr v) z := Eq.trans rfl rfl
theorem v_kO_r {Q : Int → SS → Prop} {v : Int} {z : ZZ} : kO Q (.inr v) z = Q v z.2.2 := Eq.trans rfl rfl
theorem v_kW_0 {Q : OO → ZZ → Prop} {z : ZZ} : kW Q (.inl 0) z = Q (.inl 0) z := Eq.trans rfl rfl
theorem v_kW_1 {Q : OO → ZZ → Prop} {z : ZZ} : kW Q (.inl 1) z = Q (.inl 0) z := Eq.trans rfl rfl
theorem v_kW_2 {Q : OO → ZZ → Prop} {k : Nat} {z : ZZ} : kW Q (.inl (k + 2)) z = Q (.inl (k + 2)) z := Eq.trans rfl rfl
theorem v_kW_r {Q : OO → ZZ → Prop} {v : Int} {z : ZZ} : kW Q (.inr v) z = Q (.inr v) z := Eq.trans rfl rfl
theorem v_kU_0 {P : ZZ → Prop} {z : ZZ} : kU P (.inl 0) z = P z := Eq.trans rfl rfl
theorem v_kL_0 {u : XS} {P : ZZ → Prop} {Q : OO → ZZ → Prop} {z : ZZ} : kL u P Q (.inl 0) z = Wd (u z) (kU P) := Eq.trans rfl rfl
theorem v_kL_1 {u : XS} {P : ZZ → Prop} {Q : OO → ZZ → Prop} {z : ZZ} : kL u P Q (.inl 1) z = Q (.inl 0) z := Eq.trans rfl rfl
theorem v_kL_2 {u : XS} {P : ZZ → Prop} {Q : OO → ZZ → Prop} {z : ZZ} : kL u P Q (.inl 2) z = Wd (u z) (kU P) := Eq.trans rfl rfl
theorem v_kL_r {u : XS} {P : ZZ → Prop} {Q : OO → ZZ → Prop} {v : Int} {z : ZZ} : kL u P Q (.inr v) z = Q (.inr v) z := Eq.trans rfl rfl
