/-! the string of keywords, the links among nest mates: outside of the cells, unchanged -/
def kwT : String := "park by fade rest odds pond tune loud toll beats band at strength lips plays hush hour wind calm rain dry set any when holds tired raining loop end stop "
def lenK : List Nat := [153]
def bytK : List (List Int32) := [[112, 97, 114, 107, 32, 98, 121, 32, 102, 97, 100, 101, 32, 114, 101, 115, 116, 32, 111, 100, 100, 115, 32, 112, 111, 110, 100, 32, 116, 117, 110, 101, 32, 108, 111, 117, 100, 32, 116, 111, 108, 108, 32, 98, 101, 97, 116, 115, 32, 98, 97, 110, 100, 32, 97, 116, 32, 115, 116, 114, 101, 110, 103, 116, 104, 32, 108, 105, 112, 115, 32, 112, 108, 97, 121, 115, 32, 104, 117, 115, 104, 32, 104, 111, 117, 114, 32, 119, 105, 110, 100, 32, 99, 97, 108, 109, 32, 114, 97, 105, 110, 32, 100, 114, 121, 32, 115, 101, 116, 32, 97, 110, 121, 32, 119, 104, 101, 110, 32, 104, 111, 108, 100, 115, 32, 116, 105, 114, 101, 100, 32, 114, 97, 105, 110, 105, 110, 103, 32, 108, 111, 111, 112, 32, 101, 110, 100, 32, 115, 116, 111, 112, 32]]
def XX (b : Nat) (ad : Nat × Nat) (U : State) : Prop := (∀ q ∈ nestL, va_Nw (.methodLinkNest q.1 q.2.1 q.2.2.1 q.2.2.2) U) ∧ vk_S 1 lenK bytK (fun _ => ad.1) (fun _ => ad.2) (fun q => b ≤ q) U U.heap ∧ vk_R RX8 51 kwT ad.1 U ∧
  va_Z "java/lang/String" "COMPACT_STRINGS" "Z" (.int 1) (fun q => b ≤ q) U U.heap ∧ va_Zq "jdk/internal/util/Preconditions" "SIOOBE_FORMATTER" "Ljava/util/function/BiFunction;" (fun q => b ≤ q) U U.heap
theorem XX.go {b : Nat} {ad : Nat × Nat} {s U : State} {H : Heap} {locs : List Loc} (h : XX b ad s) (hS : va_S (fun q => b ≤ q) s.heap H locs) (hU : U.heap = H) (hW : s.WarmedH U.vm) : XX b ad U := by
  obtain ⟨h1, h2, h3, h4, h5⟩ := h
  subst hU
  exact ⟨fun q hq => va_Nw.warmM hW (h1 q hq), (h2.moved hW.alike).kept hS.2.1, vk_R.warm hW h3, (h4.moved hW.alike).kept hS.2.1, (h5.moved hW.alike).kept hS.2.1⟩
theorem XX.calling {b : Nat} {ad : Nat × Nat} {U : State} {g : JFrame} {mk : MethodId} {a : Array Value} (h : XX b ad U) : XX b ad (U.calling g mk a) := by
  obtain ⟨h1, h2, h3, h4, h5⟩ := h
  exact ⟨fun q hq => va_Nw.same rfl rfl (h1 q hq), h2.moved (U := U.calling g mk a) (Vm.Alike.refl U.vm), vk_R.same rfl h3, h4.moved (U := U.calling g mk a) (Vm.Alike.refl U.vm), h5.moved (U := U.calling g mk a) (Vm.Alike.refl U.vm)⟩
