/-! evaluating -/
def sqM (o : Option (OO × ZZ)) (g : XS) : Option (OO × ZZ) := match o with
  | some (.inl 0, z1) => g z1
  | r => r
theorem sq_eq (f g : XS) (z : ZZ) : sq f g z = sqM (f z) g := rfl
theorem sqM_0 (z : ZZ) (g : XS) : sqM (some (.inl 0, z)) g = g z := rfl
theorem sqM_r (v : Int) (z : ZZ) (g : XS) : sqM (some (.inr v, z)) g = some (.inr v, z) := rfl
theorem sqM_b (k : Nat) (z : ZZ) (g : XS) : sqM (some (.inl (k + 1), z)) g = some (.inl (k + 1), z) := rfl
theorem sqM_n (g : XS) : sqM none g = none := rfl
theorem sqM_ite {c : Prop} [Decidable c] (a b : Option (OO × ZZ)) (g : XS) : sqM (if c then a else b) g = if c then sqM a g else sqM b g := by split <;> rfl
theorem bn_none {α β : Type} (f : α → SS → Option β) : bn none f = none := rfl
theorem bn_ite {α β : Type} {c : Prop} [Decidable c] (a b : Option (α × SS)) (f : α → SS → Option β) : bn (if c then a else b) f = if c then bn a f else bn b f := by split <;> rfl
theorem outV_r (v : Int) (z : ZZ) : outV (some (.inr v, z)) = some (v, z.2.2) := rfl
theorem outV_0 (k : Nat) (z : ZZ) : outV (some (.inl k, z)) = none := rfl
theorem outV_n : outV none = none := rfl
theorem outV_ite {c : Prop} [Decidable c] (a b : Option (OO × ZZ)) : outV (if c then a else b) = if c then outV a else outV b := by split <;> rfl
def blkM (n : Nat) (z : ZZ) (o : Option (OO × ZZ)) : Option (OO × ZZ) := match o with
  | some (o, z1) => some (o, (z1.1.take n ++ z.1.drop n, z1.2.1.take n ++ z.2.1.drop n, z1.2.2))
  | none => none
theorem blk_eq (n : Nat) (f : XS) (z : ZZ) : blk n f z = blkM n z (f z) := rfl
theorem blkM_some (n : Nat) (z : ZZ) (o : OO) (z1 : ZZ) : blkM n z (some (o, z1)) = some (o, (z1.1.take n ++ z.1.drop n, z1.2.1.take n ++ z.2.1.drop n, z1.2.2)) := rfl
theorem blkM_ite {c : Prop} [Decidable c] (n : Nat) (z : ZZ) (a b : Option (OO × ZZ)) : blkM n z (if c then a else b) = if c then blkM n z a else blkM n z b := by split <;> rfl
def swM (o : Option (OO × ZZ)) : Option (OO × ZZ) := match o with
  | some (.inl 1, z1) => some (.inl 0, z1)
  | r => r
theorem sw_eq (e : XI) (f : Int → XS) (z : ZZ) : sw e f z = bn (e z) fun x s => swM (f x (z.1, z.2.1, s)) := rfl
theorem swM_0 (z : ZZ) : swM (some (.inl 0, z)) = some (.inl 0, z) := rfl
theorem swM_1 (z : ZZ) : swM (some (.inl 1, z)) = some (.inl 0, z) := rfl
theorem swM_r (v : Int) (z : ZZ) : swM (some (.inr v, z)) = some (.inr v, z) := rfl
theorem swM_n : swM none = none := rfl
theorem swM_ite {c : Prop} [Decidable c] (a b : Option (OO × ZZ)) : swM (if c then a else b) = if c then swM a else swM b := by split <;> rfl
theorem app_ite {c : Prop} [Decidable c] (f g : XS) (z : ZZ) : (if c then f else g) z = if c then f z else g z := by split <;> rfl
/-- a counted loop -/
theorem lpN_for {c : XC} {f u : XS} (S T : Nat → ZZ) (n : Nat) (hc : ∀ i, i < n → c (S i) = some (true, (S i).2.2)) (hf : ∀ i, i < n → (f (S i) = some (.inl 0, T i) ∨ f (S i) = some (.inl 2, T i))) (hu : ∀ i, i < n → u (T i) = some (.inl 0, S (i + 1))) (he : c (S n) = some (false, (S n).2.2)) : ∀ k i, i + k = n → lpN c f u (k + 1) (S i) = some (.inl 0, S n)
  | 0, i, h => by
    have h : i = n := by omega
    subst h
    unfold lpN
    rw [he, bn_some, if_neg (by decide)]
  | k + 1, i, h => by
    have hi : i < n := by omega
    unfold lpN
    rw [hc i hi, bn_some, if_pos rfl]
    have e1 : ((S i).1, (S i).2.1, (S i).2.2) = S i := rfl
    rw [e1]
    rcases hf i hi with q | q
    · rw [q]
      simp only
      rw [hu i hi]
      exact lpN_for S T n hc hf hu he k (i + 1) (by omega)
    · rw [q]
      simp only
      rw [hu i hi]
      exact lpN_for S T n hc hf hu he k (i + 1) (by omega)
theorem lp_for {c : XC} {f u : XS} (S T : Nat → ZZ) (n : Nat) (hc : ∀ i, i < n → c (S i) = some (true, (S i).2.2)) (hf : ∀ i, i < n → (f (S i) = some (.inl 0, T i) ∨ f (S i) = some (.inl 2, T i))) (hu : ∀ i, i < n → u (T i) = some (.inl 0, S (i + 1))) (he : c (S n) = some (false, (S n).2.2)) : lp c f u (S 0) = some (.inl 0, S n) :=
  lp_of (lpN_for S T n hc hf hu he n 0 (by omega))
/-- a counted loop that answers in its turn m -/
theorem lpN_ret {c : XC} {f u : XS} (S T : Nat → ZZ) (n : Nat) (v : Int) (w : ZZ) (hc : ∀ i, i ≤ n → c (S i) = some (true, (S i).2.2)) (hf : ∀ i, i < n → (f (S i) = some (.inl 0, T i) ∨ f (S i) = some (.inl 2, T i))) (hu : ∀ i, i < n → u (T i) = some (.inl 0, S (i + 1))) (he : f (S n) = some (.inr v, w)) : ∀ k i, i + k = n → lpN c f u (k + 1) (S i) = some (.inr v, w)
  | 0, i, h => by
    have h : i = n := by omega
    subst h
    unfold lpN
    rw [hc _ (Nat.le_refl _), bn_some, if_pos rfl]
    have e1 : ((S i).1, (S i).2.1, (S i).2.2) = S i := rfl
    rw [e1, he]
  | k + 1, i, h => by
    have hi : i < n := by omega
    unfold lpN
    rw [hc i (by omega), bn_some, if_pos rfl]
    have e1 : ((S i).1, (S i).2.1, (S i).2.2) = S i := rfl
    rw [e1]
    rcases hf i hi with q | q
    · rw [q]
      simp only
      rw [hu i hi]
      exact lpN_ret S T n v w hc hf hu he k (i + 1) (by omega)
    · rw [q]
      simp only
      rw [hu i hi]
      exact lpN_ret S T n v w hc hf hu he k (i + 1) (by omega)
theorem lp_ret {c : XC} {f u : XS} (S T : Nat → ZZ) (n : Nat) (v : Int) (w : ZZ) (hc : ∀ i, i ≤ n → c (S i) = some (true, (S i).2.2)) (hf : ∀ i, i < n → (f (S i) = some (.inl 0, T i) ∨ f (S i) = some (.inl 2, T i))) (hu : ∀ i, i < n → u (T i) = some (.inl 0, S (i + 1))) (he : f (S n) = some (.inr v, w)) : lp c f u (S 0) = some (.inr v, w) :=
  lp_of (lpN_ret S T n v w hc hf hu he n 0 (by omega))
/-- one turn of a loop -/
theorem lp_step {c : XC} {f u : XS} {z z1 z2 : ZZ} {s : SS} {r : OO × ZZ} (hc : c z = some (true, s)) (hf : f (z.1, z.2.1, s) = some (.inl 0, z1) ∨ f (z.1, z.2.1, s) = some (.inl 2, z1)) (hu : u z1 = some (.inl 0, z2)) (hr : lp c f u z2 = some r) : lp c f u z = some r := by
  obtain ⟨n, hn⟩ := lp_inv hr
  refine lp_of (n := n + 1) ?_
  unfold lpN
  rw [hc, bn_some, if_pos rfl]
  rcases hf with q | q
  · rw [q]
    simp only
    rw [hu]
    exact hn
  · rw [q]
    simp only
    rw [hu]
    exact hn
theorem lp_end {c : XC} {f u : XS} {z : ZZ} {s : SS} (hc : c z = some (false, s)) : lp c f u z = some (.inl 0, (z.1, z.2.1, s)) := by
  refine lp_of (n := 1) ?_
  unfold lpN
  rw [hc, bn_some, if_neg (by decide)]
/-- a whole row of a cell anew -/
def upA (σ : SS) (a : Nat) (f : Nat → Int) : SS := fun a' => if a' = a then f else σ a'
theorem upA_same (σ : SS) (a : Nat) (f : Nat → Int) : upA σ a f a = f := if_pos rfl
theorem upA_ne {σ : SS} {a a' : Nat} {f : Nat → Int} (h : a' ≠ a) : upA σ a f a' = σ a' := if_neg h
theorem upA_id (σ : SS) (a : Nat) : upA σ a (σ a) = σ := by
  funext a'
  unfold upA
  split
  · rename_i h; rw [h]
  · rfl
theorem ups_upA (σ : SS) (a k : Nat) (v : Int) : ups σ a k v = upA σ a (fun j => if j = k then v else σ a j) := by
  funext a' k'
  unfold ups upA
  by_cases h : a' = a
  · subst h
    by_cases h2 : k' = k <;> simp [h2]
  · simp [h]
theorem upA_upA (σ : SS) (a : Nat) (f g : Nat → Int) : upA (upA σ a f) a g = upA σ a g := by
  funext a'
  unfold upA
  split <;> rfl
theorem sh_0 : sh 0 = (1, 11, 16) := by decide +kernel
theorem sh_1 : sh 1 = (6, 4, 4) := by decide +kernel
theorem sh_2 : sh 2 = (1, 8, 12) := by decide +kernel
theorem sh_3 : sh 3 = (4, 0, 900) := by decide +kernel
theorem sh_4 : sh 4 = (3, 0, 30) := by decide +kernel
theorem sh_5 : sh 5 = (1, 7, 12) := by decide +kernel
theorem sh_6 : sh 6 = (1, 3, 15) := by decide +kernel
theorem sh_7 : sh 7 = (5, 0, 30) := by decide +kernel
theorem sh_8 : sh 8 = (6, 6, 6) := by decide +kernel
theorem sh_9 : sh 9 = (6, 7, 6) := by decide +kernel
theorem sh_10 : sh 10 = (1, 1, 8) := by decide +kernel
theorem sh_11 : sh 11 = (2, 0, 30) := by decide +kernel
theorem sh_12 : sh 12 = (2, 0, 30) := by decide +kernel
theorem sh_13 : sh 13 = (2, 0, 30) := by decide +kernel
theorem sh_14 : sh 14 = (2, 0, 30) := by decide +kernel
theorem sh_15 : sh 15 = (2, 0, 30) := by decide +kernel
theorem sh_16 : sh 16 = (2, 0, 30) := by decide +kernel
theorem sh_17 : sh 17 = (1, 10, 4) := by decide +kernel
theorem sh_18 : sh 18 = (1, 10, 4) := by decide +kernel
theorem sh_19 : sh 19 = (1, 10, 4) := by decide +kernel
theorem sh_20 : sh 20 = (1, 10, 4) := by decide +kernel
theorem sh_21 : sh 21 = (1, 10, 4) := by decide +kernel
theorem sh_22 : sh 22 = (1, 10, 4) := by decide +kernel
theorem sh_23 : sh 23 = (1, 0, 9) := by decide +kernel
theorem sh_24 : sh 24 = (2, 0, 6) := by decide +kernel
theorem sh_25 : sh 25 = (1, 0, 9) := by decide +kernel
theorem sh_26 : sh 26 = (2, 0, 6) := by decide +kernel
theorem sh_27 : sh 27 = (1, 0, 9) := by decide +kernel
theorem sh_28 : sh 28 = (2, 0, 6) := by decide +kernel
theorem sh_29 : sh 29 = (1, 0, 9) := by decide +kernel
theorem sh_30 : sh 30 = (2, 0, 6) := by decide +kernel
theorem sh_31 : sh 31 = (1, 0, 9) := by decide +kernel
theorem sh_32 : sh 32 = (2, 0, 6) := by decide +kernel
theorem sh_33 : sh 33 = (1, 0, 9) := by decide +kernel
theorem sh_34 : sh 34 = (2, 0, 6) := by decide +kernel
theorem sh_35 : sh 35 = (1, 6, 6) := by decide +kernel
theorem sh_36 : sh 36 = (6, 8, 6) := by decide +kernel
theorem sh_37 : sh 37 = (2, 0, 30) := by decide +kernel
theorem sh_38 : sh 38 = (2, 0, 30) := by decide +kernel
theorem sh_39 : sh 39 = (2, 0, 30) := by decide +kernel
theorem sh_40 : sh 40 = (2, 0, 30) := by decide +kernel
theorem sh_41 : sh 41 = (2, 0, 30) := by decide +kernel
theorem sh_42 : sh 42 = (2, 0, 30) := by decide +kernel
theorem sh_43 : sh 43 = (2, 0, 64) := by decide +kernel
theorem sh_44 : sh 44 = (2, 0, 384) := by decide +kernel
theorem sh_45 : sh 45 = (2, 0, 384) := by decide +kernel
theorem sh_46 : sh 46 = (2, 0, 6) := by decide +kernel
theorem sh_47 : sh 47 = (1, 4, 3) := by decide +kernel
theorem sh_48 : sh 48 = (1, 3, 15) := by decide +kernel
theorem sh_49 : sh 49 = (5, 0, 30) := by decide +kernel
theorem sh_50 : sh 50 = (6, 6, 6) := by decide +kernel
theorem sh_51 : sh 51 = (6, 7, 6) := by decide +kernel
theorem sh_52 : sh 52 = (1, 1, 8) := by decide +kernel
theorem sh_53 : sh 53 = (2, 0, 30) := by decide +kernel
theorem sh_54 : sh 54 = (2, 0, 30) := by decide +kernel
theorem sh_55 : sh 55 = (2, 0, 30) := by decide +kernel
theorem sh_56 : sh 56 = (2, 0, 30) := by decide +kernel
theorem sh_57 : sh 57 = (2, 0, 30) := by decide +kernel
theorem sh_58 : sh 58 = (2, 0, 30) := by decide +kernel
theorem sh_59 : sh 59 = (1, 10, 4) := by decide +kernel
theorem sh_60 : sh 60 = (1, 10, 4) := by decide +kernel
theorem sh_61 : sh 61 = (1, 10, 4) := by decide +kernel
theorem sh_62 : sh 62 = (1, 10, 4) := by decide +kernel
theorem sh_63 : sh 63 = (1, 10, 4) := by decide +kernel
theorem sh_64 : sh 64 = (1, 10, 4) := by decide +kernel
theorem sh_65 : sh 65 = (1, 0, 9) := by decide +kernel
theorem sh_66 : sh 66 = (2, 0, 6) := by decide +kernel
theorem sh_67 : sh 67 = (1, 0, 9) := by decide +kernel
theorem sh_68 : sh 68 = (2, 0, 6) := by decide +kernel
theorem sh_69 : sh 69 = (1, 0, 9) := by decide +kernel
theorem sh_70 : sh 70 = (2, 0, 6) := by decide +kernel
theorem sh_71 : sh 71 = (1, 0, 9) := by decide +kernel
theorem sh_72 : sh 72 = (2, 0, 6) := by decide +kernel
theorem sh_73 : sh 73 = (1, 0, 9) := by decide +kernel
theorem sh_74 : sh 74 = (2, 0, 6) := by decide +kernel
theorem sh_75 : sh 75 = (1, 0, 9) := by decide +kernel
theorem sh_76 : sh 76 = (2, 0, 6) := by decide +kernel
theorem sh_77 : sh 77 = (1, 2, 5) := by decide +kernel
theorem sh_78 : sh 78 = (1, 1, 8) := by decide +kernel
theorem sh_79 : sh 79 = (2, 0, 30) := by decide +kernel
theorem sh_80 : sh 80 = (2, 0, 30) := by decide +kernel
theorem sh_81 : sh 81 = (2, 0, 30) := by decide +kernel
theorem sh_82 : sh 82 = (2, 0, 30) := by decide +kernel
theorem sh_83 : sh 83 = (2, 0, 30) := by decide +kernel
theorem sh_84 : sh 84 = (2, 0, 30) := by decide +kernel
theorem sh_85 : sh 85 = (2, 0, 3) := by decide +kernel
theorem sh_86 : sh 86 = (1, 7, 12) := by decide +kernel
theorem sh_87 : sh 87 = (1, 3, 15) := by decide +kernel
theorem sh_88 : sh 88 = (5, 0, 30) := by decide +kernel
theorem sh_89 : sh 89 = (6, 6, 6) := by decide +kernel
theorem sh_90 : sh 90 = (6, 7, 6) := by decide +kernel
theorem sh_91 : sh 91 = (1, 1, 8) := by decide +kernel
theorem sh_92 : sh 92 = (2, 0, 30) := by decide +kernel
theorem sh_93 : sh 93 = (2, 0, 30) := by decide +kernel
theorem sh_94 : sh 94 = (2, 0, 30) := by decide +kernel
theorem sh_95 : sh 95 = (2, 0, 30) := by decide +kernel
theorem sh_96 : sh 96 = (2, 0, 30) := by decide +kernel
theorem sh_97 : sh 97 = (2, 0, 30) := by decide +kernel
theorem sh_98 : sh 98 = (1, 10, 4) := by decide +kernel
theorem sh_99 : sh 99 = (1, 10, 4) := by decide +kernel
theorem sh_100 : sh 100 = (1, 10, 4) := by decide +kernel
theorem sh_101 : sh 101 = (1, 10, 4) := by decide +kernel
theorem sh_102 : sh 102 = (1, 10, 4) := by decide +kernel
theorem sh_103 : sh 103 = (1, 10, 4) := by decide +kernel
theorem sh_104 : sh 104 = (1, 0, 9) := by decide +kernel
theorem sh_105 : sh 105 = (2, 0, 6) := by decide +kernel
theorem sh_106 : sh 106 = (1, 0, 9) := by decide +kernel
theorem sh_107 : sh 107 = (2, 0, 6) := by decide +kernel
theorem sh_108 : sh 108 = (1, 0, 9) := by decide +kernel
theorem sh_109 : sh 109 = (2, 0, 6) := by decide +kernel
theorem sh_110 : sh 110 = (1, 0, 9) := by decide +kernel
theorem sh_111 : sh 111 = (2, 0, 6) := by decide +kernel
theorem sh_112 : sh 112 = (1, 0, 9) := by decide +kernel
theorem sh_113 : sh 113 = (2, 0, 6) := by decide +kernel
theorem sh_114 : sh 114 = (1, 0, 9) := by decide +kernel
theorem sh_115 : sh 115 = (2, 0, 6) := by decide +kernel
theorem sh_116 : sh 116 = (1, 6, 6) := by decide +kernel
theorem sh_117 : sh 117 = (6, 8, 6) := by decide +kernel
theorem sh_118 : sh 118 = (2, 0, 30) := by decide +kernel
theorem sh_119 : sh 119 = (2, 0, 30) := by decide +kernel
theorem sh_120 : sh 120 = (2, 0, 30) := by decide +kernel
theorem sh_121 : sh 121 = (2, 0, 30) := by decide +kernel
theorem sh_122 : sh 122 = (2, 0, 30) := by decide +kernel
theorem sh_123 : sh 123 = (2, 0, 30) := by decide +kernel
theorem sh_124 : sh 124 = (2, 0, 64) := by decide +kernel
theorem sh_125 : sh 125 = (2, 0, 384) := by decide +kernel
theorem sh_126 : sh 126 = (2, 0, 384) := by decide +kernel
theorem sh_127 : sh 127 = (2, 0, 6) := by decide +kernel
theorem sh_128 : sh 128 = (1, 5, 8) := by decide +kernel
theorem sh_129 : sh 129 = (2, 0, 4) := by decide +kernel
theorem sh_130 : sh 130 = (2, 0, 4) := by decide +kernel
theorem sh_131 : sh 131 = (2, 0, 7) := by decide +kernel
theorem sh_132 : sh 132 = (6, 8, 5) := by decide +kernel
theorem sh_133 : sh 133 = (2, 0, 100) := by decide +kernel
theorem sh_134 : sh 134 = (2, 0, 100) := by decide +kernel
theorem sh_135 : sh 135 = (2, 0, 100) := by decide +kernel
theorem sh_136 : sh 136 = (2, 0, 100) := by decide +kernel
theorem sh_137 : sh 137 = (2, 0, 100) := by decide +kernel
theorem sh_138 : sh 138 = (2, 0, 6) := by decide +kernel
theorem sh_139 : sh 139 = (2, 0, 30) := by decide +kernel
theorem sh_140 : sh 140 = (2, 0, 30) := by decide +kernel
theorem sh_141 : sh 141 = (2, 0, 30) := by decide +kernel
theorem sh_142 : sh 142 = (6, 5, 3) := by decide +kernel
theorem sh_143 : sh 143 = (2, 0, 5) := by decide +kernel
theorem sh_144 : sh 144 = (1, 9, 4) := by decide +kernel
theorem sh_145 : sh 145 = (3, 0, 60) := by decide +kernel
theorem sh_146 : sh 146 = (1, 9, 4) := by decide +kernel
theorem sh_147 : sh 147 = (3, 0, 60) := by decide +kernel
theorem sh_148 : sh 148 = (1, 9, 4) := by decide +kernel
theorem sh_149 : sh 149 = (3, 0, 60) := by decide +kernel
theorem sh_150 : sh 150 = (1, 9, 4) := by decide +kernel
theorem sh_151 : sh 151 = (3, 0, 60) := by decide +kernel
theorem sh_152 : sh 152 = (1, 3, 15) := by decide +kernel
theorem sh_153 : sh 153 = (5, 0, 30) := by decide +kernel
theorem sh_154 : sh 154 = (6, 6, 6) := by decide +kernel
theorem sh_155 : sh 155 = (6, 7, 6) := by decide +kernel
theorem sh_156 : sh 156 = (1, 1, 8) := by decide +kernel
theorem sh_157 : sh 157 = (2, 0, 30) := by decide +kernel
theorem sh_158 : sh 158 = (2, 0, 30) := by decide +kernel
theorem sh_159 : sh 159 = (2, 0, 30) := by decide +kernel
theorem sh_160 : sh 160 = (2, 0, 30) := by decide +kernel
theorem sh_161 : sh 161 = (2, 0, 30) := by decide +kernel
theorem sh_162 : sh 162 = (2, 0, 30) := by decide +kernel
theorem sh_163 : sh 163 = (1, 10, 4) := by decide +kernel
theorem sh_164 : sh 164 = (1, 10, 4) := by decide +kernel
theorem sh_165 : sh 165 = (1, 10, 4) := by decide +kernel
theorem sh_166 : sh 166 = (1, 10, 4) := by decide +kernel
theorem sh_167 : sh 167 = (1, 10, 4) := by decide +kernel
theorem sh_168 : sh 168 = (1, 10, 4) := by decide +kernel
theorem sh_169 : sh 169 = (1, 0, 9) := by decide +kernel
theorem sh_170 : sh 170 = (2, 0, 6) := by decide +kernel
theorem sh_171 : sh 171 = (1, 0, 9) := by decide +kernel
theorem sh_172 : sh 172 = (2, 0, 6) := by decide +kernel
theorem sh_173 : sh 173 = (1, 0, 9) := by decide +kernel
theorem sh_174 : sh 174 = (2, 0, 6) := by decide +kernel
theorem sh_175 : sh 175 = (1, 0, 9) := by decide +kernel
theorem sh_176 : sh 176 = (2, 0, 6) := by decide +kernel
theorem sh_177 : sh 177 = (1, 0, 9) := by decide +kernel
theorem sh_178 : sh 178 = (2, 0, 6) := by decide +kernel
theorem sh_179 : sh 179 = (1, 0, 9) := by decide +kernel
theorem sh_180 : sh 180 = (2, 0, 6) := by decide +kernel
theorem sh_181 : sh 181 = (1, 3, 15) := by decide +kernel
theorem sh_182 : sh 182 = (5, 0, 30) := by decide +kernel
theorem sh_183 : sh 183 = (6, 6, 6) := by decide +kernel
theorem sh_184 : sh 184 = (6, 7, 6) := by decide +kernel
theorem sh_185 : sh 185 = (1, 1, 8) := by decide +kernel
theorem sh_186 : sh 186 = (2, 0, 30) := by decide +kernel
theorem sh_187 : sh 187 = (2, 0, 30) := by decide +kernel
theorem sh_188 : sh 188 = (2, 0, 30) := by decide +kernel
theorem sh_189 : sh 189 = (2, 0, 30) := by decide +kernel
theorem sh_190 : sh 190 = (2, 0, 30) := by decide +kernel
theorem sh_191 : sh 191 = (2, 0, 30) := by decide +kernel
theorem sh_192 : sh 192 = (1, 10, 4) := by decide +kernel
theorem sh_193 : sh 193 = (1, 10, 4) := by decide +kernel
theorem sh_194 : sh 194 = (1, 10, 4) := by decide +kernel
theorem sh_195 : sh 195 = (1, 10, 4) := by decide +kernel
theorem sh_196 : sh 196 = (1, 10, 4) := by decide +kernel
theorem sh_197 : sh 197 = (1, 10, 4) := by decide +kernel
theorem sh_198 : sh 198 = (1, 0, 9) := by decide +kernel
theorem sh_199 : sh 199 = (2, 0, 6) := by decide +kernel
theorem sh_200 : sh 200 = (1, 0, 9) := by decide +kernel
theorem sh_201 : sh 201 = (2, 0, 6) := by decide +kernel
theorem sh_202 : sh 202 = (1, 0, 9) := by decide +kernel
theorem sh_203 : sh 203 = (2, 0, 6) := by decide +kernel
theorem sh_204 : sh 204 = (1, 0, 9) := by decide +kernel
theorem sh_205 : sh 205 = (2, 0, 6) := by decide +kernel
theorem sh_206 : sh 206 = (1, 0, 9) := by decide +kernel
theorem sh_207 : sh 207 = (2, 0, 6) := by decide +kernel
theorem sh_208 : sh 208 = (1, 0, 9) := by decide +kernel
theorem sh_209 : sh 209 = (2, 0, 6) := by decide +kernel
theorem sh_210 : sh 210 = (1, 3, 15) := by decide +kernel
theorem sh_211 : sh 211 = (5, 0, 30) := by decide +kernel
theorem sh_212 : sh 212 = (6, 6, 6) := by decide +kernel
theorem sh_213 : sh 213 = (6, 7, 6) := by decide +kernel
theorem sh_214 : sh 214 = (1, 1, 8) := by decide +kernel
theorem sh_215 : sh 215 = (2, 0, 30) := by decide +kernel
theorem sh_216 : sh 216 = (2, 0, 30) := by decide +kernel
theorem sh_217 : sh 217 = (2, 0, 30) := by decide +kernel
theorem sh_218 : sh 218 = (2, 0, 30) := by decide +kernel
theorem sh_219 : sh 219 = (2, 0, 30) := by decide +kernel
theorem sh_220 : sh 220 = (2, 0, 30) := by decide +kernel
theorem sh_221 : sh 221 = (1, 10, 4) := by decide +kernel
theorem sh_222 : sh 222 = (1, 10, 4) := by decide +kernel
theorem sh_223 : sh 223 = (1, 10, 4) := by decide +kernel
theorem sh_224 : sh 224 = (1, 10, 4) := by decide +kernel
theorem sh_225 : sh 225 = (1, 10, 4) := by decide +kernel
theorem sh_226 : sh 226 = (1, 10, 4) := by decide +kernel
theorem sh_227 : sh 227 = (1, 0, 9) := by decide +kernel
theorem sh_228 : sh 228 = (2, 0, 6) := by decide +kernel
theorem sh_229 : sh 229 = (1, 0, 9) := by decide +kernel
theorem sh_230 : sh 230 = (2, 0, 6) := by decide +kernel
theorem sh_231 : sh 231 = (1, 0, 9) := by decide +kernel
theorem sh_232 : sh 232 = (2, 0, 6) := by decide +kernel
theorem sh_233 : sh 233 = (1, 0, 9) := by decide +kernel
theorem sh_234 : sh 234 = (2, 0, 6) := by decide +kernel
theorem sh_235 : sh 235 = (1, 0, 9) := by decide +kernel
theorem sh_236 : sh 236 = (2, 0, 6) := by decide +kernel
theorem sh_237 : sh 237 = (1, 0, 9) := by decide +kernel
theorem sh_238 : sh 238 = (2, 0, 6) := by decide +kernel
theorem sh_239 : sh 239 = (1, 12, 45) := by decide +kernel
theorem sh_240 : sh 240 = (2, 0, 4) := by decide +kernel
theorem sh_241 : sh 241 = (2, 0, 4) := by decide +kernel
theorem sh_242 : sh 242 = (3, 0, 240) := by decide +kernel
theorem sh_243 : sh 243 = (4, 0, 900) := by decide +kernel
theorem sh_244 : sh 244 = (2, 0, 2040) := by decide +kernel
theorem sh_245 : sh 245 = (2, 0, 136) := by decide +kernel
theorem sh_246 : sh 246 = (2, 0, 136) := by decide +kernel
theorem sh_247 : sh 247 = (3, 0, 60) := by decide +kernel
theorem sh_248 : sh 248 = (2, 0, 6) := by decide +kernel
theorem sh_249 : sh 249 = (2, 0, 6) := by decide +kernel
theorem sh_250 : sh 250 = (2, 0, 30) := by decide +kernel
theorem sh_251 : sh 251 = (2, 0, 30) := by decide +kernel
theorem sh_252 : sh 252 = (3, 0, 13) := by decide +kernel
theorem sh_253 : sh 253 = (2, 0, 5) := by decide +kernel
theorem rf_0_0 : rf 0 0 = 1 := by decide +kernel
theorem rf_0_1 : rf 0 1 = 2 := by decide +kernel
theorem rf_0_2 : rf 0 2 = 5 := by decide +kernel
theorem rf_0_3 : rf 0 3 = 47 := by decide +kernel
theorem rf_0_4 : rf 0 4 = 77 := by decide +kernel
theorem rf_0_5 : rf 0 5 = 86 := by decide +kernel
theorem rf_0_6 : rf 0 6 = 128 := by decide +kernel
theorem rf_0_7 : rf 0 7 = 142 := by decide +kernel
theorem rf_0_8 : rf 0 8 = 143 := by decide +kernel
theorem rf_1_0 : rf 1 0 = 144 := by decide +kernel
theorem rf_1_1 : rf 1 1 = 146 := by decide +kernel
theorem rf_1_2 : rf 1 2 = 148 := by decide +kernel
theorem rf_1_3 : rf 1 3 = 150 := by decide +kernel
theorem rf_2_0 : rf 2 0 = 3 := by decide +kernel
theorem rf_2_4 : rf 2 4 = 4 := by decide +kernel
theorem rf_5_0 : rf 5 0 = 6 := by decide +kernel
theorem rf_5_1 : rf 5 1 = 35 := by decide +kernel
theorem rf_5_2 : rf 5 2 = 46 := by decide +kernel
theorem rf_6_8 : rf 6 8 = 7 := by decide +kernel
theorem rf_6_10 : rf 6 10 = 8 := by decide +kernel
theorem rf_6_12 : rf 6 12 = 9 := by decide +kernel
theorem rf_6_13 : rf 6 13 = 10 := by decide +kernel
theorem rf_8_0 : rf 8 0 = 17 := by decide +kernel
theorem rf_8_1 : rf 8 1 = 18 := by decide +kernel
theorem rf_8_2 : rf 8 2 = 19 := by decide +kernel
theorem rf_8_3 : rf 8 3 = 20 := by decide +kernel
theorem rf_8_4 : rf 8 4 = 21 := by decide +kernel
theorem rf_8_5 : rf 8 5 = 22 := by decide +kernel
theorem rf_9_0 : rf 9 0 = 23 := by decide +kernel
theorem rf_9_1 : rf 9 1 = 25 := by decide +kernel
theorem rf_9_2 : rf 9 2 = 27 := by decide +kernel
theorem rf_9_3 : rf 9 3 = 29 := by decide +kernel
theorem rf_9_4 : rf 9 4 = 31 := by decide +kernel
theorem rf_9_5 : rf 9 5 = 33 := by decide +kernel
theorem rf_10_2 : rf 10 2 = 11 := by decide +kernel
theorem rf_10_3 : rf 10 3 = 12 := by decide +kernel
theorem rf_10_4 : rf 10 4 = 13 := by decide +kernel
theorem rf_10_5 : rf 10 5 = 14 := by decide +kernel
theorem rf_10_6 : rf 10 6 = 15 := by decide +kernel
theorem rf_10_7 : rf 10 7 = 16 := by decide +kernel
theorem rf_23_8 : rf 23 8 = 24 := by decide +kernel
theorem rf_25_8 : rf 25 8 = 26 := by decide +kernel
theorem rf_27_8 : rf 27 8 = 28 := by decide +kernel
theorem rf_29_8 : rf 29 8 = 30 := by decide +kernel
theorem rf_31_8 : rf 31 8 = 32 := by decide +kernel
theorem rf_33_8 : rf 33 8 = 34 := by decide +kernel
theorem rf_35_0 : rf 35 0 = 6 := by decide +kernel
theorem rf_35_1 : rf 35 1 = 36 := by decide +kernel
theorem rf_35_2 : rf 35 2 = 43 := by decide +kernel
theorem rf_35_3 : rf 35 3 = 44 := by decide +kernel
theorem rf_35_4 : rf 35 4 = 45 := by decide +kernel
theorem rf_36_0 : rf 36 0 = 37 := by decide +kernel
theorem rf_36_1 : rf 36 1 = 38 := by decide +kernel
theorem rf_36_2 : rf 36 2 = 39 := by decide +kernel
theorem rf_36_3 : rf 36 3 = 40 := by decide +kernel
theorem rf_36_4 : rf 36 4 = 41 := by decide +kernel
theorem rf_36_5 : rf 36 5 = 42 := by decide +kernel
theorem rf_47_0 : rf 47 0 = 48 := by decide +kernel
theorem rf_47_1 : rf 47 1 = 2 := by decide +kernel
theorem rf_48_8 : rf 48 8 = 49 := by decide +kernel
theorem rf_48_10 : rf 48 10 = 50 := by decide +kernel
theorem rf_48_12 : rf 48 12 = 51 := by decide +kernel
theorem rf_48_13 : rf 48 13 = 52 := by decide +kernel
theorem rf_50_0 : rf 50 0 = 59 := by decide +kernel
theorem rf_50_1 : rf 50 1 = 60 := by decide +kernel
theorem rf_50_2 : rf 50 2 = 61 := by decide +kernel
theorem rf_50_3 : rf 50 3 = 62 := by decide +kernel
theorem rf_50_4 : rf 50 4 = 63 := by decide +kernel
theorem rf_50_5 : rf 50 5 = 64 := by decide +kernel
theorem rf_51_0 : rf 51 0 = 65 := by decide +kernel
theorem rf_51_1 : rf 51 1 = 67 := by decide +kernel
theorem rf_51_2 : rf 51 2 = 69 := by decide +kernel
theorem rf_51_3 : rf 51 3 = 71 := by decide +kernel
theorem rf_51_4 : rf 51 4 = 73 := by decide +kernel
theorem rf_51_5 : rf 51 5 = 75 := by decide +kernel
theorem rf_52_2 : rf 52 2 = 53 := by decide +kernel
theorem rf_52_3 : rf 52 3 = 54 := by decide +kernel
theorem rf_52_4 : rf 52 4 = 55 := by decide +kernel
theorem rf_52_5 : rf 52 5 = 56 := by decide +kernel
theorem rf_52_6 : rf 52 6 = 57 := by decide +kernel
theorem rf_52_7 : rf 52 7 = 58 := by decide +kernel
theorem rf_65_8 : rf 65 8 = 66 := by decide +kernel
theorem rf_67_8 : rf 67 8 = 68 := by decide +kernel
theorem rf_69_8 : rf 69 8 = 70 := by decide +kernel
theorem rf_71_8 : rf 71 8 = 72 := by decide +kernel
theorem rf_73_8 : rf 73 8 = 74 := by decide +kernel
theorem rf_75_8 : rf 75 8 = 76 := by decide +kernel
theorem rf_77_0 : rf 77 0 = 78 := by decide +kernel
theorem rf_77_1 : rf 77 1 = 85 := by decide +kernel
theorem rf_77_2 : rf 77 2 = 2 := by decide +kernel
theorem rf_77_3 : rf 77 3 = 6 := by decide +kernel
theorem rf_78_2 : rf 78 2 = 79 := by decide +kernel
theorem rf_78_3 : rf 78 3 = 80 := by decide +kernel
theorem rf_78_4 : rf 78 4 = 81 := by decide +kernel
theorem rf_78_5 : rf 78 5 = 82 := by decide +kernel
theorem rf_78_6 : rf 78 6 = 83 := by decide +kernel
theorem rf_78_7 : rf 78 7 = 84 := by decide +kernel
theorem rf_86_0 : rf 86 0 = 87 := by decide +kernel
theorem rf_86_1 : rf 86 1 = 116 := by decide +kernel
theorem rf_86_2 : rf 86 2 = 127 := by decide +kernel
theorem rf_87_8 : rf 87 8 = 88 := by decide +kernel
theorem rf_87_10 : rf 87 10 = 89 := by decide +kernel
theorem rf_87_12 : rf 87 12 = 90 := by decide +kernel
theorem rf_87_13 : rf 87 13 = 91 := by decide +kernel
theorem rf_89_0 : rf 89 0 = 98 := by decide +kernel
theorem rf_89_1 : rf 89 1 = 99 := by decide +kernel
theorem rf_89_2 : rf 89 2 = 100 := by decide +kernel
theorem rf_89_3 : rf 89 3 = 101 := by decide +kernel
theorem rf_89_4 : rf 89 4 = 102 := by decide +kernel
theorem rf_89_5 : rf 89 5 = 103 := by decide +kernel
theorem rf_90_0 : rf 90 0 = 104 := by decide +kernel
theorem rf_90_1 : rf 90 1 = 106 := by decide +kernel
theorem rf_90_2 : rf 90 2 = 108 := by decide +kernel
theorem rf_90_3 : rf 90 3 = 110 := by decide +kernel
theorem rf_90_4 : rf 90 4 = 112 := by decide +kernel
theorem rf_90_5 : rf 90 5 = 114 := by decide +kernel
theorem rf_91_2 : rf 91 2 = 92 := by decide +kernel
theorem rf_91_3 : rf 91 3 = 93 := by decide +kernel
theorem rf_91_4 : rf 91 4 = 94 := by decide +kernel
theorem rf_91_5 : rf 91 5 = 95 := by decide +kernel
theorem rf_91_6 : rf 91 6 = 96 := by decide +kernel
theorem rf_91_7 : rf 91 7 = 97 := by decide +kernel
theorem rf_104_8 : rf 104 8 = 105 := by decide +kernel
theorem rf_106_8 : rf 106 8 = 107 := by decide +kernel
theorem rf_108_8 : rf 108 8 = 109 := by decide +kernel
theorem rf_110_8 : rf 110 8 = 111 := by decide +kernel
theorem rf_112_8 : rf 112 8 = 113 := by decide +kernel
theorem rf_114_8 : rf 114 8 = 115 := by decide +kernel
theorem rf_116_0 : rf 116 0 = 87 := by decide +kernel
theorem rf_116_1 : rf 116 1 = 117 := by decide +kernel
theorem rf_116_2 : rf 116 2 = 124 := by decide +kernel
theorem rf_116_3 : rf 116 3 = 125 := by decide +kernel
theorem rf_116_4 : rf 116 4 = 126 := by decide +kernel
theorem rf_117_0 : rf 117 0 = 118 := by decide +kernel
theorem rf_117_1 : rf 117 1 = 119 := by decide +kernel
theorem rf_117_2 : rf 117 2 = 120 := by decide +kernel
theorem rf_117_3 : rf 117 3 = 121 := by decide +kernel
theorem rf_117_4 : rf 117 4 = 122 := by decide +kernel
theorem rf_117_5 : rf 117 5 = 123 := by decide +kernel
theorem rf_128_0 : rf 128 0 = 129 := by decide +kernel
theorem rf_128_1 : rf 128 1 = 130 := by decide +kernel
theorem rf_128_2 : rf 128 2 = 131 := by decide +kernel
theorem rf_128_3 : rf 128 3 = 132 := by decide +kernel
theorem rf_128_4 : rf 128 4 = 138 := by decide +kernel
theorem rf_128_5 : rf 128 5 = 139 := by decide +kernel
theorem rf_128_6 : rf 128 6 = 140 := by decide +kernel
theorem rf_128_7 : rf 128 7 = 141 := by decide +kernel
theorem rf_132_0 : rf 132 0 = 133 := by decide +kernel
theorem rf_132_1 : rf 132 1 = 134 := by decide +kernel
theorem rf_132_2 : rf 132 2 = 135 := by decide +kernel
theorem rf_132_3 : rf 132 3 = 136 := by decide +kernel
theorem rf_132_4 : rf 132 4 = 137 := by decide +kernel
theorem rf_142_0 : rf 142 0 = 152 := by decide +kernel
theorem rf_142_1 : rf 142 1 = 181 := by decide +kernel
theorem rf_142_2 : rf 142 2 = 210 := by decide +kernel
theorem rf_144_3 : rf 144 3 = 145 := by decide +kernel
theorem rf_146_3 : rf 146 3 = 147 := by decide +kernel
theorem rf_148_3 : rf 148 3 = 149 := by decide +kernel
theorem rf_150_3 : rf 150 3 = 151 := by decide +kernel
theorem rf_152_8 : rf 152 8 = 153 := by decide +kernel
theorem rf_152_10 : rf 152 10 = 154 := by decide +kernel
theorem rf_152_12 : rf 152 12 = 155 := by decide +kernel
theorem rf_152_13 : rf 152 13 = 156 := by decide +kernel
theorem rf_154_0 : rf 154 0 = 163 := by decide +kernel
theorem rf_154_1 : rf 154 1 = 164 := by decide +kernel
theorem rf_154_2 : rf 154 2 = 165 := by decide +kernel
theorem rf_154_3 : rf 154 3 = 166 := by decide +kernel
theorem rf_154_4 : rf 154 4 = 167 := by decide +kernel
theorem rf_154_5 : rf 154 5 = 168 := by decide +kernel
theorem rf_155_0 : rf 155 0 = 169 := by decide +kernel
theorem rf_155_1 : rf 155 1 = 171 := by decide +kernel
theorem rf_155_2 : rf 155 2 = 173 := by decide +kernel
theorem rf_155_3 : rf 155 3 = 175 := by decide +kernel
theorem rf_155_4 : rf 155 4 = 177 := by decide +kernel
theorem rf_155_5 : rf 155 5 = 179 := by decide +kernel
theorem rf_156_2 : rf 156 2 = 157 := by decide +kernel
theorem rf_156_3 : rf 156 3 = 158 := by decide +kernel
theorem rf_156_4 : rf 156 4 = 159 := by decide +kernel
theorem rf_156_5 : rf 156 5 = 160 := by decide +kernel
theorem rf_156_6 : rf 156 6 = 161 := by decide +kernel
theorem rf_156_7 : rf 156 7 = 162 := by decide +kernel
theorem rf_169_8 : rf 169 8 = 170 := by decide +kernel
theorem rf_171_8 : rf 171 8 = 172 := by decide +kernel
theorem rf_173_8 : rf 173 8 = 174 := by decide +kernel
theorem rf_175_8 : rf 175 8 = 176 := by decide +kernel
theorem rf_177_8 : rf 177 8 = 178 := by decide +kernel
theorem rf_179_8 : rf 179 8 = 180 := by decide +kernel
theorem rf_181_8 : rf 181 8 = 182 := by decide +kernel
theorem rf_181_10 : rf 181 10 = 183 := by decide +kernel
theorem rf_181_12 : rf 181 12 = 184 := by decide +kernel
theorem rf_181_13 : rf 181 13 = 185 := by decide +kernel
theorem rf_183_0 : rf 183 0 = 192 := by decide +kernel
theorem rf_183_1 : rf 183 1 = 193 := by decide +kernel
theorem rf_183_2 : rf 183 2 = 194 := by decide +kernel
theorem rf_183_3 : rf 183 3 = 195 := by decide +kernel
theorem rf_183_4 : rf 183 4 = 196 := by decide +kernel
theorem rf_183_5 : rf 183 5 = 197 := by decide +kernel
theorem rf_184_0 : rf 184 0 = 198 := by decide +kernel
theorem rf_184_1 : rf 184 1 = 200 := by decide +kernel
theorem rf_184_2 : rf 184 2 = 202 := by decide +kernel
theorem rf_184_3 : rf 184 3 = 204 := by decide +kernel
theorem rf_184_4 : rf 184 4 = 206 := by decide +kernel
theorem rf_184_5 : rf 184 5 = 208 := by decide +kernel
theorem rf_185_2 : rf 185 2 = 186 := by decide +kernel
theorem rf_185_3 : rf 185 3 = 187 := by decide +kernel
theorem rf_185_4 : rf 185 4 = 188 := by decide +kernel
theorem rf_185_5 : rf 185 5 = 189 := by decide +kernel
theorem rf_185_6 : rf 185 6 = 190 := by decide +kernel
theorem rf_185_7 : rf 185 7 = 191 := by decide +kernel
theorem rf_198_8 : rf 198 8 = 199 := by decide +kernel
theorem rf_200_8 : rf 200 8 = 201 := by decide +kernel
theorem rf_202_8 : rf 202 8 = 203 := by decide +kernel
theorem rf_204_8 : rf 204 8 = 205 := by decide +kernel
theorem rf_206_8 : rf 206 8 = 207 := by decide +kernel
theorem rf_208_8 : rf 208 8 = 209 := by decide +kernel
theorem rf_210_8 : rf 210 8 = 211 := by decide +kernel
theorem rf_210_10 : rf 210 10 = 212 := by decide +kernel
theorem rf_210_12 : rf 210 12 = 213 := by decide +kernel
theorem rf_210_13 : rf 210 13 = 214 := by decide +kernel
theorem rf_212_0 : rf 212 0 = 221 := by decide +kernel
theorem rf_212_1 : rf 212 1 = 222 := by decide +kernel
theorem rf_212_2 : rf 212 2 = 223 := by decide +kernel
theorem rf_212_3 : rf 212 3 = 224 := by decide +kernel
theorem rf_212_4 : rf 212 4 = 225 := by decide +kernel
theorem rf_212_5 : rf 212 5 = 226 := by decide +kernel
theorem rf_213_0 : rf 213 0 = 227 := by decide +kernel
theorem rf_213_1 : rf 213 1 = 229 := by decide +kernel
theorem rf_213_2 : rf 213 2 = 231 := by decide +kernel
theorem rf_213_3 : rf 213 3 = 233 := by decide +kernel
theorem rf_213_4 : rf 213 4 = 235 := by decide +kernel
theorem rf_213_5 : rf 213 5 = 237 := by decide +kernel
theorem rf_214_2 : rf 214 2 = 215 := by decide +kernel
theorem rf_214_3 : rf 214 3 = 216 := by decide +kernel
theorem rf_214_4 : rf 214 4 = 217 := by decide +kernel
theorem rf_214_5 : rf 214 5 = 218 := by decide +kernel
theorem rf_214_6 : rf 214 6 = 219 := by decide +kernel
theorem rf_214_7 : rf 214 7 = 220 := by decide +kernel
theorem rf_227_8 : rf 227 8 = 228 := by decide +kernel
theorem rf_229_8 : rf 229 8 = 230 := by decide +kernel
theorem rf_231_8 : rf 231 8 = 232 := by decide +kernel
theorem rf_233_8 : rf 233 8 = 234 := by decide +kernel
theorem rf_235_8 : rf 235 8 = 236 := by decide +kernel
theorem rf_237_8 : rf 237 8 = 238 := by decide +kernel
theorem rf_239_4 : rf 239 4 = 240 := by decide +kernel
theorem rf_239_5 : rf 239 5 = 241 := by decide +kernel
theorem rf_239_6 : rf 239 6 = 242 := by decide +kernel
theorem rf_239_7 : rf 239 7 = 243 := by decide +kernel
theorem rf_239_20 : rf 239 20 = 244 := by decide +kernel
theorem rf_239_21 : rf 239 21 = 245 := by decide +kernel
theorem rf_239_22 : rf 239 22 = 246 := by decide +kernel
theorem rf_239_23 : rf 239 23 = 247 := by decide +kernel
theorem rf_239_27 : rf 239 27 = 248 := by decide +kernel
theorem rf_239_28 : rf 239 28 = 249 := by decide +kernel
theorem rf_239_32 : rf 239 32 = 250 := by decide +kernel
theorem rf_239_33 : rf 239 33 = 251 := by decide +kernel
theorem rf_239_34 : rf 239 34 = 252 := by decide +kernel
theorem rf_239_35 : rf 239 35 = 253 := by decide +kernel
