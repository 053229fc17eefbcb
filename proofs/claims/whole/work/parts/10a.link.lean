/-! the words that link fields and methods -/
theorem gq_1 {w : Cond} (i : Nat) (hi : tables_1_1[i]? = some w) (hg : goodWord w = true) : w ∈ gtb := by
  have h : w ∈ tables_1_1 := List.mem_of_getElem? hi
  have h2 : w ∈ tables_1 := List.mem_append_left _ (h)
  exact List.mem_filter.mpr ⟨List.mem_append_right _ h2, hg⟩
theorem gq_2 {w : Cond} (i : Nat) (hi : tables_1_2[i]? = some w) (hg : goodWord w = true) : w ∈ gtb := by
  have h : w ∈ tables_1_2 := List.mem_of_getElem? hi
  have h2 : w ∈ tables_1 := List.mem_append_right _ (List.mem_append_left _ (h))
  exact List.mem_filter.mpr ⟨List.mem_append_right _ h2, hg⟩
theorem gq_3 {w : Cond} (i : Nat) (hi : tables_1_3[i]? = some w) (hg : goodWord w = true) : w ∈ gtb := by
  have h : w ∈ tables_1_3 := List.mem_of_getElem? hi
  have h2 : w ∈ tables_1 := List.mem_append_right _ (List.mem_append_right _ (List.mem_append_left _ (h)))
  exact List.mem_filter.mpr ⟨List.mem_append_right _ h2, hg⟩
theorem gq_4 {w : Cond} (i : Nat) (hi : tables_1_4[i]? = some w) (hg : goodWord w = true) : w ∈ gtb := by
  have h : w ∈ tables_1_4 := List.mem_of_getElem? hi
  have h2 : w ∈ tables_1 := List.mem_append_right _ (List.mem_append_right _ (List.mem_append_right _ (List.mem_append_left _ (h))))
  exact List.mem_filter.mpr ⟨List.mem_append_right _ h2, hg⟩
theorem gq_5 {w : Cond} (i : Nat) (hi : tables_1_5[i]? = some w) (hg : goodWord w = true) : w ∈ gtb := by
  have h : w ∈ tables_1_5 := List.mem_of_getElem? hi
  have h2 : w ∈ tables_1 := List.mem_append_right _ (List.mem_append_right _ (List.mem_append_right _ (List.mem_append_right _ (List.mem_append_left _ (h)))))
  exact List.mem_filter.mpr ⟨List.mem_append_right _ h2, hg⟩
theorem gq_6 {w : Cond} (i : Nat) (hi : tables_1_6[i]? = some w) (hg : goodWord w = true) : w ∈ gtb := by
  have h : w ∈ tables_1_6 := List.mem_of_getElem? hi
  have h2 : w ∈ tables_1 := List.mem_append_right _ (List.mem_append_right _ (List.mem_append_right _ (List.mem_append_right _ (List.mem_append_right _ (List.mem_append_left _ (h))))))
  exact List.mem_filter.mpr ⟨List.mem_append_right _ h2, hg⟩
theorem gq_7 {w : Cond} (i : Nat) (hi : tables_1_7[i]? = some w) (hg : goodWord w = true) : w ∈ gtb := by
  have h : w ∈ tables_1_7 := List.mem_of_getElem? hi
  have h2 : w ∈ tables_1 := List.mem_append_right _ (List.mem_append_right _ (List.mem_append_right _ (List.mem_append_right _ (List.mem_append_right _ (List.mem_append_right _ (List.mem_append_left _ (h)))))))
  exact List.mem_filter.mpr ⟨List.mem_append_right _ h2, hg⟩
theorem gq_8 {w : Cond} (i : Nat) (hi : tables_1_8[i]? = some w) (hg : goodWord w = true) : w ∈ gtb := by
  have h : w ∈ tables_1_8 := List.mem_of_getElem? hi
  have h2 : w ∈ tables_1 := List.mem_append_right _ (List.mem_append_right _ (List.mem_append_right _ (List.mem_append_right _ (List.mem_append_right _ (List.mem_append_right _ (List.mem_append_right _ (List.mem_append_left _ (h))))))))
  exact List.mem_filter.mpr ⟨List.mem_append_right _ h2, hg⟩
theorem gq_9 {w : Cond} (i : Nat) (hi : tables_1_9[i]? = some w) (hg : goodWord w = true) : w ∈ gtb := by
  have h : w ∈ tables_1_9 := List.mem_of_getElem? hi
  have h2 : w ∈ tables_1 := List.mem_append_right _ (List.mem_append_right _ (List.mem_append_right _ (List.mem_append_right _ (List.mem_append_right _ (List.mem_append_right _ (List.mem_append_right _ (List.mem_append_right _ (List.mem_append_left _ (h)))))))))
  exact List.mem_filter.mpr ⟨List.mem_append_right _ h2, hg⟩
theorem gq_10 {w : Cond} (i : Nat) (hi : tables_1_10[i]? = some w) (hg : goodWord w = true) : w ∈ gtb := by
  have h : w ∈ tables_1_10 := List.mem_of_getElem? hi
  have h2 : w ∈ tables_1 := List.mem_append_right _ (List.mem_append_right _ (List.mem_append_right _ (List.mem_append_right _ (List.mem_append_right _ (List.mem_append_right _ (List.mem_append_right _ (List.mem_append_right _ (List.mem_append_right _ (h)))))))))
  exact List.mem_filter.mpr ⟨List.mem_append_right _ h2, hg⟩
theorem gp_1 {w : Cond} (i : Nat) (hi : (k2_sels lw_privs_1)[i]? = some w) (hg : goodWord w = true) : w ∈ gtb := by
  obtain ⟨q, h, rfl⟩ := List.mem_map.mp (List.mem_of_getElem? hi)
  have h2 : q ∈ lw_privs := List.mem_append_left _ (h)
  exact List.mem_filter.mpr ⟨List.mem_append_left _ (List.mem_map.mpr ⟨q, h2, rfl⟩), hg⟩
theorem gp_2 {w : Cond} (i : Nat) (hi : (k2_sels lw_privs_2)[i]? = some w) (hg : goodWord w = true) : w ∈ gtb := by
  obtain ⟨q, h, rfl⟩ := List.mem_map.mp (List.mem_of_getElem? hi)
  have h2 : q ∈ lw_privs := List.mem_append_right _ (List.mem_append_left _ (h))
  exact List.mem_filter.mpr ⟨List.mem_append_left _ (List.mem_map.mpr ⟨q, h2, rfl⟩), hg⟩
theorem gp_3 {w : Cond} (i : Nat) (hi : (k2_sels lw_privs_3)[i]? = some w) (hg : goodWord w = true) : w ∈ gtb := by
  obtain ⟨q, h, rfl⟩ := List.mem_map.mp (List.mem_of_getElem? hi)
  have h2 : q ∈ lw_privs := List.mem_append_right _ (List.mem_append_right _ (List.mem_append_left _ (h)))
  exact List.mem_filter.mpr ⟨List.mem_append_left _ (List.mem_map.mpr ⟨q, h2, rfl⟩), hg⟩
theorem gp_4 {w : Cond} (i : Nat) (hi : (k2_sels lw_privs_4)[i]? = some w) (hg : goodWord w = true) : w ∈ gtb := by
  obtain ⟨q, h, rfl⟩ := List.mem_map.mp (List.mem_of_getElem? hi)
  have h2 : q ∈ lw_privs := List.mem_append_right _ (List.mem_append_right _ (List.mem_append_right _ (List.mem_append_left _ (h))))
  exact List.mem_filter.mpr ⟨List.mem_append_left _ (List.mem_map.mpr ⟨q, h2, rfl⟩), hg⟩
theorem gp_5 {w : Cond} (i : Nat) (hi : (k2_sels lw_privs_5)[i]? = some w) (hg : goodWord w = true) : w ∈ gtb := by
  obtain ⟨q, h, rfl⟩ := List.mem_map.mp (List.mem_of_getElem? hi)
  have h2 : q ∈ lw_privs := List.mem_append_right _ (List.mem_append_right _ (List.mem_append_right _ (List.mem_append_right _ (List.mem_append_left _ (h)))))
  exact List.mem_filter.mpr ⟨List.mem_append_left _ (List.mem_map.mpr ⟨q, h2, rfl⟩), hg⟩
theorem gp_6 {w : Cond} (i : Nat) (hi : (k2_sels lw_privs_6)[i]? = some w) (hg : goodWord w = true) : w ∈ gtb := by
  obtain ⟨q, h, rfl⟩ := List.mem_map.mp (List.mem_of_getElem? hi)
  have h2 : q ∈ lw_privs := List.mem_append_right _ (List.mem_append_right _ (List.mem_append_right _ (List.mem_append_right _ (List.mem_append_right _ (List.mem_append_left _ (h))))))
  exact List.mem_filter.mpr ⟨List.mem_append_left _ (List.mem_map.mpr ⟨q, h2, rfl⟩), hg⟩
theorem gp_7 {w : Cond} (i : Nat) (hi : (k2_sels lw_privs_7)[i]? = some w) (hg : goodWord w = true) : w ∈ gtb := by
  obtain ⟨q, h, rfl⟩ := List.mem_map.mp (List.mem_of_getElem? hi)
  have h2 : q ∈ lw_privs := List.mem_append_right _ (List.mem_append_right _ (List.mem_append_right _ (List.mem_append_right _ (List.mem_append_right _ (List.mem_append_right _ (List.mem_append_left _ (h)))))))
  exact List.mem_filter.mpr ⟨List.mem_append_left _ (List.mem_map.mpr ⟨q, h2, rfl⟩), hg⟩
theorem gp_8 {w : Cond} (i : Nat) (hi : (k2_sels lw_privs_8)[i]? = some w) (hg : goodWord w = true) : w ∈ gtb := by
  obtain ⟨q, h, rfl⟩ := List.mem_map.mp (List.mem_of_getElem? hi)
  have h2 : q ∈ lw_privs := List.mem_append_right _ (List.mem_append_right _ (List.mem_append_right _ (List.mem_append_right _ (List.mem_append_right _ (List.mem_append_right _ (List.mem_append_right _ (List.mem_append_left _ (h))))))))
  exact List.mem_filter.mpr ⟨List.mem_append_left _ (List.mem_map.mpr ⟨q, h2, rfl⟩), hg⟩
theorem gp_9 {w : Cond} (i : Nat) (hi : (k2_sels lw_privs_9)[i]? = some w) (hg : goodWord w = true) : w ∈ gtb := by
  obtain ⟨q, h, rfl⟩ := List.mem_map.mp (List.mem_of_getElem? hi)
  have h2 : q ∈ lw_privs := List.mem_append_right _ (List.mem_append_right _ (List.mem_append_right _ (List.mem_append_right _ (List.mem_append_right _ (List.mem_append_right _ (List.mem_append_right _ (List.mem_append_right _ (List.mem_append_left _ (h)))))))))
  exact List.mem_filter.mpr ⟨List.mem_append_left _ (List.mem_map.mpr ⟨q, h2, rfl⟩), hg⟩
theorem gp_10 {w : Cond} (i : Nat) (hi : (k2_sels lw_privs_10)[i]? = some w) (hg : goodWord w = true) : w ∈ gtb := by
  obtain ⟨q, h, rfl⟩ := List.mem_map.mp (List.mem_of_getElem? hi)
  have h2 : q ∈ lw_privs := List.mem_append_right _ (List.mem_append_right _ (List.mem_append_right _ (List.mem_append_right _ (List.mem_append_right _ (List.mem_append_right _ (List.mem_append_right _ (List.mem_append_right _ (List.mem_append_right _ (h)))))))))
  exact List.mem_filter.mpr ⟨List.mem_append_left _ (List.mem_map.mpr ⟨q, h2, rfl⟩), hg⟩
theorem in_X0 : ∀ w ∈ u_ws RX0 TX0 9, w ∈ gtb := by decide +kernel
theorem in_X1 : ∀ w ∈ u_ws RX1 TX1 8, w ∈ gtb := by decide +kernel
theorem in_X2 : ∀ w ∈ u_ws RX2 TX2 5, w ∈ gtb := by decide +kernel
theorem in_X3 : ∀ w ∈ u_ws RX3 TX3 15, w ∈ gtb := by decide +kernel
theorem in_X4 : ∀ w ∈ u_ws RX4 TX4 3, w ∈ gtb := by decide +kernel
theorem in_X5 : ∀ w ∈ u_ws RX5 TX5 8, w ∈ gtb := by decide +kernel
theorem in_X6 : ∀ w ∈ u_ws RX6 TX6 6, w ∈ gtb := by decide +kernel
theorem in_X7 : ∀ w ∈ u_ws RX7 TX7 12, w ∈ gtb := by decide +kernel
theorem in_X8 : ∀ w ∈ u_ws RX8 TX8 12, w ∈ gtb := by decide +kernel
theorem in_X9 : ∀ w ∈ u_ws RX9 TX9 4, w ∈ gtb := by decide +kernel
theorem in_X10 : ∀ w ∈ u_ws RX10 TX10 4, w ∈ gtb := by decide +kernel
theorem in_X11 : ∀ w ∈ u_ws RX11 TX11 16, w ∈ gtb := by decide +kernel
theorem in_X12 : ∀ w ∈ u_ws RX12 TX12 45, w ∈ gtb := by decide +kernel
theorem alen_ok {t : Nat} : ∀ a, (sh a).1 = t → inI ((sh a).2.2 : Int) := by
  intro a _
  by_cases h : a < 254
  · have hk : ∀ a, a < 254 → inIb ((sh a).2.2 : Int) = true := by decide +kernel
    exact inIb_of (hk a h)
  · have hz : sh a = (0, 0, 0) := by
      unfold sh
      rw [List.getD_eq_getElem?_getD, List.getElem?_eq_none (by have : shT.length = 254 := by decide +kernel
                                                                omega)]
      rfl
    rw [hz]
    exact inI_0
theorem fl_Band_9 : FL RX0 9 0 0 1 := ⟨RX0, TX0, 9, rfl, by decide, in_X0, (gq_1 229 (by decide +kernel) rfl), rfl⟩
theorem fl_Band_15 : FL RX0 15 0 1 0 := ⟨RX0, TX0, 9, rfl, by decide, in_X0, (gq_1 232 (by decide +kernel) rfl), rfl⟩
theorem fl_Band_19 : FL RX0 19 0 2 0 := ⟨RX0, TX0, 9, rfl, by decide, in_X0, (gq_1 237 (by decide +kernel) rfl), rfl⟩
theorem fl_Band_22 : FL RX0 22 0 3 0 := ⟨RX0, TX0, 9, rfl, by decide, in_X0, (gq_2 2 (by decide +kernel) rfl), rfl⟩
theorem fl_Band_25 : FL RX0 25 0 4 0 := ⟨RX0, TX0, 9, rfl, by decide, in_X0, (gq_2 6 (by decide +kernel) rfl), rfl⟩
theorem fl_Band_28 : FL RX0 28 0 5 0 := ⟨RX0, TX0, 9, rfl, by decide, in_X0, (gq_2 11 (by decide +kernel) rfl), rfl⟩
theorem fl_Band_31 : FL RX0 31 0 6 0 := ⟨RX0, TX0, 9, rfl, by decide, in_X0, (gq_2 15 (by decide +kernel) rfl), rfl⟩
theorem fl_Band_34 : FL RX0 34 0 7 0 := ⟨RX0, TX0, 9, rfl, by decide, in_X0, (gq_2 18 (by decide +kernel) rfl), rfl⟩
theorem fl_Band_37 : FL RX0 37 0 8 2 := ⟨RX0, TX0, 9, rfl, by decide, in_X0, (gq_2 22 (by decide +kernel) rfl), rfl⟩
theorem fl_BandPark_11 : FL RX11 11 11 0 2 := ⟨RX11, TX11, 16, rfl, by decide, in_X11, (gq_3 70 (by decide +kernel) rfl), rfl⟩
theorem fl_BandPark_18 : FL RX11 18 11 1 2 := ⟨RX11, TX11, 16, rfl, by decide, in_X11, (gq_3 71 (by decide +kernel) rfl), rfl⟩
theorem fl_BandPark_25 : FL RX11 25 11 2 2 := ⟨RX11, TX11, 16, rfl, by decide, in_X11, (gq_3 72 (by decide +kernel) rfl), rfl⟩
theorem fl_BandPark_34 : FL RX11 34 11 3 2 := ⟨RX11, TX11, 16, rfl, by decide, in_X11, (gq_3 73 (by decide +kernel) rfl), rfl⟩
theorem fl_BandPark_40 : FL RX11 40 7 0 2 := ⟨RX7, TX7, 12, rfl, by decide, in_X7, (gq_2 167 (by decide +kernel) rfl), rfl⟩
theorem fl_BandPark_47 : FL RX11 47 11 4 2 := ⟨RX11, TX11, 16, rfl, by decide, in_X11, (gq_3 74 (by decide +kernel) rfl), rfl⟩
theorem fl_BandPark_51 : FL RX11 51 11 5 2 := ⟨RX11, TX11, 16, rfl, by decide, in_X11, (gq_3 75 (by decide +kernel) rfl), rfl⟩
theorem fl_BandPark_57 : FL RX11 57 11 6 2 := ⟨RX11, TX11, 16, rfl, by decide, in_X11, (gq_3 76 (by decide +kernel) rfl), rfl⟩
theorem fl_BandPark_63 : FL RX11 63 11 7 2 := ⟨RX11, TX11, 16, rfl, by decide, in_X11, (gq_3 77 (by decide +kernel) rfl), rfl⟩
theorem fl_BandPark_67 : FL RX11 67 11 8 2 := ⟨RX11, TX11, 16, rfl, by decide, in_X11, (gq_3 78 (by decide +kernel) rfl), rfl⟩
theorem fl_BandPark_71 : FL RX11 71 11 9 3 := ⟨RX11, TX11, 16, rfl, by decide, in_X11, (gq_3 79 (by decide +kernel) rfl), rfl⟩
theorem fl_BandPark_75 : FL RX11 75 11 10 0 := ⟨RX11, TX11, 16, rfl, by decide, in_X11, (gq_3 80 (by decide +kernel) rfl), rfl⟩
theorem fl_BandPark_79 : FL RX11 79 11 11 0 := ⟨RX11, TX11, 16, rfl, by decide, in_X11, (gq_3 81 (by decide +kernel) rfl), rfl⟩
theorem fl_BandPark_82 : FL RX11 82 11 12 0 := ⟨RX11, TX11, 16, rfl, by decide, in_X11, (gq_3 82 (by decide +kernel) rfl), rfl⟩
theorem fl_BandPark_85 : FL RX11 85 11 13 0 := ⟨RX11, TX11, 16, rfl, by decide, in_X11, (gq_3 83 (by decide +kernel) rfl), rfl⟩
theorem fl_BandPark_88 : FL RX11 88 11 14 1 := ⟨RX11, TX11, 16, rfl, by decide, in_X11, (gq_3 84 (by decide +kernel) rfl), rfl⟩
theorem fl_BandPark_92 : FL RX11 92 11 15 1 := ⟨RX11, TX11, 16, rfl, by decide, in_X11, (gq_3 85 (by decide +kernel) rfl), rfl⟩
theorem fl_BandPark_128 : FL RX11 128 9 0 3 := ⟨RX9, TX9, 4, rfl, by decide, in_X9, (gq_3 53 (by decide +kernel) rfl), rfl⟩
theorem fl_BandPark_131 : FL RX11 131 9 1 0 := ⟨RX9, TX9, 4, rfl, by decide, in_X9, (gq_3 55 (by decide +kernel) rfl), rfl⟩
theorem fl_BandPark_138 : FL RX11 138 9 3 2 := ⟨RX9, TX9, 4, rfl, by decide, in_X9, (gq_3 59 (by decide +kernel) rfl), rfl⟩
theorem fl_BandPark_155 : FL RX11 155 8 1 0 := ⟨RX8, TX8, 12, rfl, by decide, in_X8, (gq_1 89 (by decide +kernel) rfl), rfl⟩
theorem fl_BandPark_164 : FL RX11 164 4 0 2 := ⟨RX4, TX4, 3, rfl, by decide, in_X4, (gq_2 217 (by decide +kernel) rfl), rfl⟩
theorem fl_BandPark_171 : FL RX11 171 3 11 0 := ⟨RX3, TX3, 15, rfl, by decide, in_X3, (gq_2 94 (by decide +kernel) rfl), rfl⟩
theorem fl_BandPark_180 : FL RX11 180 3 13 2 := ⟨RX3, TX3, 15, rfl, by decide, in_X3, (gq_2 103 (by decide +kernel) rfl), rfl⟩
theorem fl_BandPark_184 : FL RX11 184 2 0 2 := ⟨RX2, TX2, 5, rfl, by decide, in_X2, (gq_2 236 (by decide +kernel) rfl), rfl⟩
theorem fl_BandPark_191 : FL RX11 191 1 1 0 := ⟨RX1, TX1, 8, rfl, by decide, in_X1, (gq_1 158 (by decide +kernel) rfl), rfl⟩
theorem fl_BandPark_194 : FL RX11 194 3 0 0 := ⟨RX3, TX3, 15, rfl, by decide, in_X3, (gq_2 48 (by decide +kernel) rfl), rfl⟩
theorem fl_BandPark_197 : FL RX11 197 3 1 0 := ⟨RX3, TX3, 15, rfl, by decide, in_X3, (gq_2 52 (by decide +kernel) rfl), rfl⟩
theorem fl_BandPark_200 : FL RX11 200 3 9 0 := ⟨RX3, TX3, 15, rfl, by decide, in_X3, (gq_2 85 (by decide +kernel) rfl), rfl⟩
theorem fl_BandPark_203 : FL RX11 203 3 2 0 := ⟨RX3, TX3, 15, rfl, by decide, in_X3, (gq_2 56 (by decide +kernel) rfl), rfl⟩
theorem fl_BandPark_206 : FL RX11 206 3 3 0 := ⟨RX3, TX3, 15, rfl, by decide, in_X3, (gq_2 61 (by decide +kernel) rfl), rfl⟩
theorem fl_BandPark_209 : FL RX11 209 3 4 0 := ⟨RX3, TX3, 15, rfl, by decide, in_X3, (gq_2 64 (by decide +kernel) rfl), rfl⟩
theorem fl_BandPark_212 : FL RX11 212 3 5 0 := ⟨RX3, TX3, 15, rfl, by decide, in_X3, (gq_2 68 (by decide +kernel) rfl), rfl⟩
theorem fl_BandPark_215 : FL RX11 215 3 6 0 := ⟨RX3, TX3, 15, rfl, by decide, in_X3, (gq_2 71 (by decide +kernel) rfl), rfl⟩
theorem fl_BandPark_218 : FL RX11 218 3 7 3 := ⟨RX3, TX3, 15, rfl, by decide, in_X3, (gq_2 74 (by decide +kernel) rfl), rfl⟩
theorem fl_BandPark_237 : FL RX11 237 3 10 2 := ⟨RX3, TX3, 15, rfl, by decide, in_X3, (gq_2 89 (by decide +kernel) rfl), rfl⟩
theorem fl_BandPark_241 : FL RX11 241 10 1 0 := ⟨RX10, TX10, 4, rfl, by decide, in_X10, (gq_1 207 (by decide +kernel) rfl), rfl⟩
theorem fl_BandPark_246 : FL RX11 246 10 2 0 := ⟨RX10, TX10, 4, rfl, by decide, in_X10, (gq_1 210 (by decide +kernel) rfl), rfl⟩
theorem fl_BandPark_249 : FL RX11 249 10 3 0 := ⟨RX10, TX10, 4, rfl, by decide, in_X10, (gq_1 214 (by decide +kernel) rfl), rfl⟩
theorem fl_BandPark_255 : FL RX11 255 3 12 2 := ⟨RX3, TX3, 15, rfl, by decide, in_X3, (gq_2 101 (by decide +kernel) rfl), rfl⟩
theorem fl_BandPark_259 : FL RX11 259 0 1 0 := ⟨RX0, TX0, 9, rfl, by decide, in_X0, (gq_1 236 (by decide +kernel) rfl), rfl⟩
theorem fl_BandPark_264 : FL RX11 264 0 2 0 := ⟨RX0, TX0, 9, rfl, by decide, in_X0, (gq_2 1 (by decide +kernel) rfl), rfl⟩
theorem fl_BandPark_267 : FL RX11 267 0 3 0 := ⟨RX0, TX0, 9, rfl, by decide, in_X0, (gq_2 5 (by decide +kernel) rfl), rfl⟩
theorem fl_BandPark_270 : FL RX11 270 0 4 0 := ⟨RX0, TX0, 9, rfl, by decide, in_X0, (gq_2 10 (by decide +kernel) rfl), rfl⟩
theorem fl_BandPark_273 : FL RX11 273 0 5 0 := ⟨RX0, TX0, 9, rfl, by decide, in_X0, (gq_2 14 (by decide +kernel) rfl), rfl⟩
theorem fl_BandPark_276 : FL RX11 276 0 6 0 := ⟨RX0, TX0, 9, rfl, by decide, in_X0, (gq_2 17 (by decide +kernel) rfl), rfl⟩
theorem fl_BandPark_279 : FL RX11 279 0 7 0 := ⟨RX0, TX0, 9, rfl, by decide, in_X0, (gq_2 20 (by decide +kernel) rfl), rfl⟩
theorem fl_BandPark_282 : FL RX11 282 0 8 2 := ⟨RX0, TX0, 9, rfl, by decide, in_X0, (gq_2 24 (by decide +kernel) rfl), rfl⟩
theorem fl_BandPark_288 : FL RX11 288 3 8 2 := ⟨RX3, TX3, 15, rfl, by decide, in_X3, (gq_2 80 (by decide +kernel) rfl), rfl⟩
theorem fl_BandPark_317 : FL RX11 317 3 14 0 := ⟨RX3, TX3, 15, rfl, by decide, in_X3, (gq_2 107 (by decide +kernel) rfl), rfl⟩
theorem fl_BandPark_352 : FL RX11 352 9 2 0 := ⟨RX9, TX9, 4, rfl, by decide, in_X9, (gq_3 57 (by decide +kernel) rfl), rfl⟩
theorem fl_BandPark_369 : FL RX11 369 5 0 2 := ⟨RX5, TX5, 8, rfl, by decide, in_X5, (gq_3 20 (by decide +kernel) rfl), rfl⟩
theorem fl_BandPark_439 : FL RX11 439 1 0 3 := ⟨RX1, TX1, 8, rfl, by decide, in_X1, (gq_1 155 (by decide +kernel) rfl), rfl⟩
theorem fl_BandPark_451 : FL RX11 451 7 3 0 := ⟨RX7, TX7, 12, rfl, by decide, in_X7, (gq_2 174 (by decide +kernel) rfl), rfl⟩
theorem fl_BandPark_458 : FL RX11 458 8 2 0 := ⟨RX8, TX8, 12, rfl, by decide, in_X8, (gq_1 93 (by decide +kernel) rfl), rfl⟩
theorem fl_BandPark_461 : FL RX11 461 8 3 0 := ⟨RX8, TX8, 12, rfl, by decide, in_X8, (gq_1 95 (by decide +kernel) rfl), rfl⟩
theorem fl_BandParkModel_7 : FL RX12 7 12 3 1 := ⟨RX12, TX12, 45, rfl, by decide, in_X12, (gq_7 19 (by decide +kernel) rfl), rfl⟩
theorem fl_BandParkModel_13 : FL RX12 13 12 4 2 := ⟨RX12, TX12, 45, rfl, by decide, in_X12, (gq_7 20 (by decide +kernel) rfl), rfl⟩
theorem fl_BandParkModel_17 : FL RX12 17 12 5 2 := ⟨RX12, TX12, 45, rfl, by decide, in_X12, (gq_7 21 (by decide +kernel) rfl), rfl⟩
theorem fl_BandParkModel_20 : FL RX12 20 12 6 2 := ⟨RX12, TX12, 45, rfl, by decide, in_X12, (gq_7 22 (by decide +kernel) rfl), rfl⟩
theorem fl_BandParkModel_24 : FL RX12 24 12 7 2 := ⟨RX12, TX12, 45, rfl, by decide, in_X12, (gq_7 23 (by decide +kernel) rfl), rfl⟩
theorem fl_BandParkModel_28 : FL RX12 28 12 10 0 := ⟨RX12, TX12, 45, rfl, by decide, in_X12, (gq_7 26 (by decide +kernel) rfl), rfl⟩
theorem fl_BandParkModel_32 : FL RX12 32 12 11 0 := ⟨RX12, TX12, 45, rfl, by decide, in_X12, (gq_7 27 (by decide +kernel) rfl), rfl⟩
theorem fl_BandParkModel_35 : FL RX12 35 12 20 2 := ⟨RX12, TX12, 45, rfl, by decide, in_X12, (gq_7 36 (by decide +kernel) rfl), rfl⟩
theorem fl_BandParkModel_38 : FL RX12 38 12 21 2 := ⟨RX12, TX12, 45, rfl, by decide, in_X12, (gq_7 37 (by decide +kernel) rfl), rfl⟩
theorem fl_BandParkModel_41 : FL RX12 41 12 22 2 := ⟨RX12, TX12, 45, rfl, by decide, in_X12, (gq_7 38 (by decide +kernel) rfl), rfl⟩
theorem fl_BandParkModel_44 : FL RX12 44 12 23 2 := ⟨RX12, TX12, 45, rfl, by decide, in_X12, (gq_7 39 (by decide +kernel) rfl), rfl⟩
theorem fl_BandParkModel_47 : FL RX12 47 12 27 2 := ⟨RX12, TX12, 45, rfl, by decide, in_X12, (gq_7 43 (by decide +kernel) rfl), rfl⟩
theorem fl_BandParkModel_50 : FL RX12 50 12 28 2 := ⟨RX12, TX12, 45, rfl, by decide, in_X12, (gq_7 44 (by decide +kernel) rfl), rfl⟩
theorem fl_BandParkModel_53 : FL RX12 53 12 32 2 := ⟨RX12, TX12, 45, rfl, by decide, in_X12, (gq_7 48 (by decide +kernel) rfl), rfl⟩
theorem fl_BandParkModel_56 : FL RX12 56 12 33 2 := ⟨RX12, TX12, 45, rfl, by decide, in_X12, (gq_7 49 (by decide +kernel) rfl), rfl⟩
theorem fl_BandParkModel_59 : FL RX12 59 12 34 2 := ⟨RX12, TX12, 45, rfl, by decide, in_X12, (gq_7 50 (by decide +kernel) rfl), rfl⟩
theorem fl_BandParkModel_62 : FL RX12 62 12 35 2 := ⟨RX12, TX12, 45, rfl, by decide, in_X12, (gq_7 51 (by decide +kernel) rfl), rfl⟩
theorem fl_BandParkModel_72 : FL RX12 72 12 0 0 := ⟨RX12, TX12, 45, rfl, by decide, in_X12, (gq_7 16 (by decide +kernel) rfl), rfl⟩
theorem fl_BandParkModel_75 : FL RX12 75 12 2 1 := ⟨RX12, TX12, 45, rfl, by decide, in_X12, (gq_7 18 (by decide +kernel) rfl), rfl⟩
theorem fl_BandParkModel_112 : FL RX12 112 12 9 0 := ⟨RX12, TX12, 45, rfl, by decide, in_X12, (gq_7 25 (by decide +kernel) rfl), rfl⟩
theorem fl_BandParkModel_115 : FL RX12 115 12 16 0 := ⟨RX12, TX12, 45, rfl, by decide, in_X12, (gq_7 32 (by decide +kernel) rfl), rfl⟩
theorem fl_BandParkModel_118 : FL RX12 118 12 15 0 := ⟨RX12, TX12, 45, rfl, by decide, in_X12, (gq_7 31 (by decide +kernel) rfl), rfl⟩
theorem fl_BandParkModel_124 : FL RX12 124 12 14 0 := ⟨RX12, TX12, 45, rfl, by decide, in_X12, (gq_7 30 (by decide +kernel) rfl), rfl⟩
theorem fl_BandParkModel_130 : FL RX12 130 12 19 1 := ⟨RX12, TX12, 45, rfl, by decide, in_X12, (gq_7 35 (by decide +kernel) rfl), rfl⟩
theorem fl_BandParkModel_137 : FL RX12 137 12 18 0 := ⟨RX12, TX12, 45, rfl, by decide, in_X12, (gq_7 34 (by decide +kernel) rfl), rfl⟩
theorem fl_BandParkModel_143 : FL RX12 143 12 17 0 := ⟨RX12, TX12, 45, rfl, by decide, in_X12, (gq_7 33 (by decide +kernel) rfl), rfl⟩
theorem fl_BandParkModel_225 : FL RX12 225 12 12 0 := ⟨RX12, TX12, 45, rfl, by decide, in_X12, (gq_7 28 (by decide +kernel) rfl), rfl⟩
theorem fl_BandParkModel_228 : FL RX12 228 12 13 0 := ⟨RX12, TX12, 45, rfl, by decide, in_X12, (gq_7 29 (by decide +kernel) rfl), rfl⟩
theorem fl_BandParkModel_248 : FL RX12 248 12 8 0 := ⟨RX12, TX12, 45, rfl, by decide, in_X12, (gq_7 24 (by decide +kernel) rfl), rfl⟩
theorem fl_BandParkModel_266 : FL RX12 266 12 25 0 := ⟨RX12, TX12, 45, rfl, by decide, in_X12, (gq_7 41 (by decide +kernel) rfl), rfl⟩
theorem fl_BandParkModel_328 : FL RX12 328 12 26 0 := ⟨RX12, TX12, 45, rfl, by decide, in_X12, (gq_7 42 (by decide +kernel) rfl), rfl⟩
theorem fl_BandParkModel_337 : FL RX12 337 12 29 0 := ⟨RX12, TX12, 45, rfl, by decide, in_X12, (gq_7 45 (by decide +kernel) rfl), rfl⟩
theorem fl_BandParkModel_447 : FL RX12 447 12 30 0 := ⟨RX12, TX12, 45, rfl, by decide, in_X12, (gq_7 46 (by decide +kernel) rfl), rfl⟩
theorem fl_BandParkModel_469 : FL RX12 469 12 31 0 := ⟨RX12, TX12, 45, rfl, by decide, in_X12, (gq_7 47 (by decide +kernel) rfl), rfl⟩
theorem fl_BandParkModel_518 : FL RX12 518 12 38 0 := ⟨RX12, TX12, 45, rfl, by decide, in_X12, (gq_7 54 (by decide +kernel) rfl), rfl⟩
theorem fl_BandParkModel_522 : FL RX12 522 12 42 0 := ⟨RX12, TX12, 45, rfl, by decide, in_X12, (gq_7 58 (by decide +kernel) rfl), rfl⟩
theorem fl_BandParkModel_525 : FL RX12 525 12 43 0 := ⟨RX12, TX12, 45, rfl, by decide, in_X12, (gq_7 59 (by decide +kernel) rfl), rfl⟩
theorem fl_BandParkModel_528 : FL RX12 528 12 41 0 := ⟨RX12, TX12, 45, rfl, by decide, in_X12, (gq_7 57 (by decide +kernel) rfl), rfl⟩
theorem fl_BandParkModel_543 : FL RX12 543 12 39 0 := ⟨RX12, TX12, 45, rfl, by decide, in_X12, (gq_7 55 (by decide +kernel) rfl), rfl⟩
theorem fl_BandParkModel_546 : FL RX12 546 12 37 3 := ⟨RX12, TX12, 45, rfl, by decide, in_X12, (gq_7 53 (by decide +kernel) rfl), rfl⟩
theorem fl_BandParkModel_550 : FL RX12 550 12 44 0 := ⟨RX12, TX12, 45, rfl, by decide, in_X12, (gq_7 60 (by decide +kernel) rfl), rfl⟩
theorem fl_BandParkModel_553 : FL RX12 553 12 40 0 := ⟨RX12, TX12, 45, rfl, by decide, in_X12, (gq_7 56 (by decide +kernel) rfl), rfl⟩
theorem fl_BandParkModel_573 : FL RX12 573 12 36 3 := ⟨RX12, TX12, 45, rfl, by decide, in_X12, (gq_7 52 (by decide +kernel) rfl), rfl⟩
theorem fl_BandParkModel_576 : FL RX12 576 12 24 0 := ⟨RX12, TX12, 45, rfl, by decide, in_X12, (gq_7 40 (by decide +kernel) rfl), rfl⟩
theorem fl_Evenings_9 : FL RX1 9 1 0 3 := ⟨RX1, TX1, 8, rfl, by decide, in_X1, (gq_1 153 (by decide +kernel) rfl), rfl⟩
theorem fl_Evenings_15 : FL RX1 15 1 1 0 := ⟨RX1, TX1, 8, rfl, by decide, in_X1, (gq_1 156 (by decide +kernel) rfl), rfl⟩
theorem fl_Evenings_19 : FL RX1 19 1 2 2 := ⟨RX1, TX1, 8, rfl, by decide, in_X1, (gq_1 159 (by decide +kernel) rfl), rfl⟩
theorem fl_Evenings_23 : FL RX1 23 1 3 2 := ⟨RX1, TX1, 8, rfl, by decide, in_X1, (gq_1 162 (by decide +kernel) rfl), rfl⟩
theorem fl_Evenings_26 : FL RX1 26 1 4 2 := ⟨RX1, TX1, 8, rfl, by decide, in_X1, (gq_1 165 (by decide +kernel) rfl), rfl⟩
theorem fl_Evenings_29 : FL RX1 29 1 5 2 := ⟨RX1, TX1, 8, rfl, by decide, in_X1, (gq_1 168 (by decide +kernel) rfl), rfl⟩
theorem fl_Evenings_32 : FL RX1 32 1 6 2 := ⟨RX1, TX1, 8, rfl, by decide, in_X1, (gq_1 171 (by decide +kernel) rfl), rfl⟩
theorem fl_Evenings_35 : FL RX1 35 1 7 2 := ⟨RX1, TX1, 8, rfl, by decide, in_X1, (gq_1 174 (by decide +kernel) rfl), rfl⟩
theorem fl_EveningsReader_12 : FL RX2 12 2 0 2 := ⟨RX2, TX2, 5, rfl, by decide, in_X2, (gq_2 235 (by decide +kernel) rfl), rfl⟩
theorem fl_EveningsReader_18 : FL RX2 18 2 1 2 := ⟨RX2, TX2, 5, rfl, by decide, in_X2, (gq_2 237 (by decide +kernel) rfl), rfl⟩
theorem fl_EveningsReader_22 : FL RX2 22 2 4 0 := ⟨RX2, TX2, 5, rfl, by decide, in_X2, (gq_3 0 (by decide +kernel) rfl), rfl⟩
theorem fl_EveningsReader_26 : FL RX2 26 2 2 2 := ⟨RX2, TX2, 5, rfl, by decide, in_X2, (gq_2 238 (by decide +kernel) rfl), rfl⟩
theorem fl_EveningsReader_30 : FL RX2 30 2 3 2 := ⟨RX2, TX2, 5, rfl, by decide, in_X2, (gq_2 239 (by decide +kernel) rfl), rfl⟩
theorem fl_EveningsReader_64 : FL RX2 64 8 2 0 := ⟨RX8, TX8, 12, rfl, by decide, in_X8, (gq_1 91 (by decide +kernel) rfl), rfl⟩
theorem fl_EveningsReader_67 : FL RX2 67 1 7 2 := ⟨RX1, TX1, 8, rfl, by decide, in_X1, (gq_1 175 (by decide +kernel) rfl), rfl⟩
theorem fl_EveningsReader_70 : FL RX2 70 1 1 0 := ⟨RX1, TX1, 8, rfl, by decide, in_X1, (gq_1 157 (by decide +kernel) rfl), rfl⟩
theorem fl_EveningsReader_83 : FL RX2 83 1 2 2 := ⟨RX1, TX1, 8, rfl, by decide, in_X1, (gq_1 160 (by decide +kernel) rfl), rfl⟩
theorem fl_EveningsReader_86 : FL RX2 86 1 5 2 := ⟨RX1, TX1, 8, rfl, by decide, in_X1, (gq_1 169 (by decide +kernel) rfl), rfl⟩
theorem fl_EveningsReader_99 : FL RX2 99 1 4 2 := ⟨RX1, TX1, 8, rfl, by decide, in_X1, (gq_1 166 (by decide +kernel) rfl), rfl⟩
theorem fl_EveningsReader_106 : FL RX2 106 1 6 2 := ⟨RX1, TX1, 8, rfl, by decide, in_X1, (gq_1 172 (by decide +kernel) rfl), rfl⟩
theorem fl_EveningsReader_112 : FL RX2 112 1 3 2 := ⟨RX1, TX1, 8, rfl, by decide, in_X1, (gq_1 163 (by decide +kernel) rfl), rfl⟩
theorem fl_Park_9 : FL RX3 9 3 0 0 := ⟨RX3, TX3, 15, rfl, by decide, in_X3, (gq_2 45 (by decide +kernel) rfl), rfl⟩
theorem fl_Park_15 : FL RX3 15 3 1 0 := ⟨RX3, TX3, 15, rfl, by decide, in_X3, (gq_2 50 (by decide +kernel) rfl), rfl⟩
theorem fl_Park_18 : FL RX3 18 3 2 0 := ⟨RX3, TX3, 15, rfl, by decide, in_X3, (gq_2 53 (by decide +kernel) rfl), rfl⟩
theorem fl_Park_21 : FL RX3 21 3 3 0 := ⟨RX3, TX3, 15, rfl, by decide, in_X3, (gq_2 57 (by decide +kernel) rfl), rfl⟩
theorem fl_Park_24 : FL RX3 24 3 4 0 := ⟨RX3, TX3, 15, rfl, by decide, in_X3, (gq_2 62 (by decide +kernel) rfl), rfl⟩
theorem fl_Park_27 : FL RX3 27 3 5 0 := ⟨RX3, TX3, 15, rfl, by decide, in_X3, (gq_2 66 (by decide +kernel) rfl), rfl⟩
theorem fl_Park_30 : FL RX3 30 3 6 0 := ⟨RX3, TX3, 15, rfl, by decide, in_X3, (gq_2 69 (by decide +kernel) rfl), rfl⟩
theorem fl_Park_33 : FL RX3 33 3 7 3 := ⟨RX3, TX3, 15, rfl, by decide, in_X3, (gq_2 72 (by decide +kernel) rfl), rfl⟩
theorem fl_Park_37 : FL RX3 37 3 8 2 := ⟨RX3, TX3, 15, rfl, by decide, in_X3, (gq_2 76 (by decide +kernel) rfl), rfl⟩
theorem fl_Park_41 : FL RX3 41 3 9 0 := ⟨RX3, TX3, 15, rfl, by decide, in_X3, (gq_2 81 (by decide +kernel) rfl), rfl⟩
theorem fl_Park_46 : FL RX3 46 3 10 2 := ⟨RX3, TX3, 15, rfl, by decide, in_X3, (gq_2 86 (by decide +kernel) rfl), rfl⟩
theorem fl_Park_50 : FL RX3 50 3 11 0 := ⟨RX3, TX3, 15, rfl, by decide, in_X3, (gq_2 90 (by decide +kernel) rfl), rfl⟩
theorem fl_Park_55 : FL RX3 55 3 12 2 := ⟨RX3, TX3, 15, rfl, by decide, in_X3, (gq_2 96 (by decide +kernel) rfl), rfl⟩
theorem fl_Park_62 : FL RX3 62 3 13 2 := ⟨RX3, TX3, 15, rfl, by decide, in_X3, (gq_2 102 (by decide +kernel) rfl), rfl⟩
theorem fl_Park_66 : FL RX3 66 3 14 0 := ⟨RX3, TX3, 15, rfl, by decide, in_X3, (gq_2 105 (by decide +kernel) rfl), rfl⟩
theorem fl_Park_92 : FL RX3 92 10 0 1 := ⟨RX10, TX10, 4, rfl, by decide, in_X10, (gq_1 203 (by decide +kernel) rfl), rfl⟩
theorem fl_Park_96 : FL RX3 96 0 0 1 := ⟨RX0, TX0, 9, rfl, by decide, in_X0, (gq_1 231 (by decide +kernel) rfl), rfl⟩
theorem fl_Park_97 : FL RX3 97 0 1 0 := ⟨RX0, TX0, 9, rfl, by decide, in_X0, (gq_1 235 (by decide +kernel) rfl), rfl⟩
theorem fl_Park_100 : FL RX3 100 0 2 0 := ⟨RX0, TX0, 9, rfl, by decide, in_X0, (gq_2 0 (by decide +kernel) rfl), rfl⟩
theorem fl_Park_106 : FL RX3 106 10 2 0 := ⟨RX10, TX10, 4, rfl, by decide, in_X10, (gq_1 211 (by decide +kernel) rfl), rfl⟩
theorem fl_ParkReader_12 : FL RX4 12 4 0 2 := ⟨RX4, TX4, 3, rfl, by decide, in_X4, (gq_2 216 (by decide +kernel) rfl), rfl⟩
theorem fl_ParkReader_18 : FL RX4 18 4 2 0 := ⟨RX4, TX4, 3, rfl, by decide, in_X4, (gq_2 219 (by decide +kernel) rfl), rfl⟩
theorem fl_ParkReader_22 : FL RX4 22 4 1 2 := ⟨RX4, TX4, 3, rfl, by decide, in_X4, (gq_2 218 (by decide +kernel) rfl), rfl⟩
theorem fl_ParkReader_71 : FL RX4 71 8 2 0 := ⟨RX8, TX8, 12, rfl, by decide, in_X8, (gq_1 92 (by decide +kernel) rfl), rfl⟩
theorem fl_ParkReader_89 : FL RX4 89 3 0 0 := ⟨RX3, TX3, 15, rfl, by decide, in_X3, (gq_2 47 (by decide +kernel) rfl), rfl⟩
theorem fl_ParkReader_92 : FL RX4 92 3 1 0 := ⟨RX3, TX3, 15, rfl, by decide, in_X3, (gq_2 51 (by decide +kernel) rfl), rfl⟩
theorem fl_ParkReader_101 : FL RX4 101 3 8 2 := ⟨RX3, TX3, 15, rfl, by decide, in_X3, (gq_2 77 (by decide +kernel) rfl), rfl⟩
theorem fl_ParkReader_116 : FL RX4 116 3 9 0 := ⟨RX3, TX3, 15, rfl, by decide, in_X3, (gq_2 84 (by decide +kernel) rfl), rfl⟩
theorem fl_ParkReader_119 : FL RX4 119 3 10 2 := ⟨RX3, TX3, 15, rfl, by decide, in_X3, (gq_2 88 (by decide +kernel) rfl), rfl⟩
theorem fl_ParkReader_141 : FL RX4 141 3 11 0 := ⟨RX3, TX3, 15, rfl, by decide, in_X3, (gq_2 93 (by decide +kernel) rfl), rfl⟩
theorem fl_ParkReader_144 : FL RX4 144 3 12 2 := ⟨RX3, TX3, 15, rfl, by decide, in_X3, (gq_2 100 (by decide +kernel) rfl), rfl⟩
theorem fl_ParkReader_159 : FL RX4 159 0 5 0 := ⟨RX0, TX0, 9, rfl, by decide, in_X0, (gq_2 13 (by decide +kernel) rfl), rfl⟩
theorem fl_ParkReader_168 : FL RX4 168 0 1 0 := ⟨RX0, TX0, 9, rfl, by decide, in_X0, (gq_1 234 (by decide +kernel) rfl), rfl⟩
theorem fl_ParkReader_174 : FL RX4 174 0 2 0 := ⟨RX0, TX0, 9, rfl, by decide, in_X0, (gq_1 239 (by decide +kernel) rfl), rfl⟩
theorem fl_ParkReader_185 : FL RX4 185 0 8 2 := ⟨RX0, TX0, 9, rfl, by decide, in_X0, (gq_2 23 (by decide +kernel) rfl), rfl⟩
theorem fl_Search_9 : FL RX5 9 5 0 2 := ⟨RX5, TX5, 8, rfl, by decide, in_X5, (gq_3 19 (by decide +kernel) rfl), rfl⟩
theorem fl_Search_15 : FL RX5 15 5 1 2 := ⟨RX5, TX5, 8, rfl, by decide, in_X5, (gq_3 21 (by decide +kernel) rfl), rfl⟩
theorem fl_Search_18 : FL RX5 18 5 2 2 := ⟨RX5, TX5, 8, rfl, by decide, in_X5, (gq_3 22 (by decide +kernel) rfl), rfl⟩
theorem fl_Search_23 : FL RX5 23 5 3 2 := ⟨RX5, TX5, 8, rfl, by decide, in_X5, (gq_3 23 (by decide +kernel) rfl), rfl⟩
theorem fl_Search_26 : FL RX5 26 5 4 2 := ⟨RX5, TX5, 8, rfl, by decide, in_X5, (gq_3 24 (by decide +kernel) rfl), rfl⟩
theorem fl_Search_29 : FL RX5 29 5 5 2 := ⟨RX5, TX5, 8, rfl, by decide, in_X5, (gq_3 25 (by decide +kernel) rfl), rfl⟩
theorem fl_Search_32 : FL RX5 32 5 6 2 := ⟨RX5, TX5, 8, rfl, by decide, in_X5, (gq_3 26 (by decide +kernel) rfl), rfl⟩
theorem fl_Search_35 : FL RX5 35 5 7 2 := ⟨RX5, TX5, 8, rfl, by decide, in_X5, (gq_3 27 (by decide +kernel) rfl), rfl⟩
theorem fl_Search_38 : FL RX5 38 7 0 2 := ⟨RX7, TX7, 12, rfl, by decide, in_X7, (gq_2 168 (by decide +kernel) rfl), rfl⟩
theorem fl_Search_50 : FL RX5 50 3 12 2 := ⟨RX3, TX3, 15, rfl, by decide, in_X3, (gq_2 97 (by decide +kernel) rfl), rfl⟩
theorem fl_Search_54 : FL RX5 54 0 4 0 := ⟨RX0, TX0, 9, rfl, by decide, in_X0, (gq_2 7 (by decide +kernel) rfl), rfl⟩
theorem fl_Search_67 : FL RX5 67 7 1 2 := ⟨RX7, TX7, 12, rfl, by decide, in_X7, (gq_2 170 (by decide +kernel) rfl), rfl⟩
theorem fl_Search_71 : FL RX5 71 7 2 2 := ⟨RX7, TX7, 12, rfl, by decide, in_X7, (gq_2 172 (by decide +kernel) rfl), rfl⟩
theorem fl_Search_93 : FL RX5 93 0 5 0 := ⟨RX0, TX0, 9, rfl, by decide, in_X0, (gq_2 12 (by decide +kernel) rfl), rfl⟩
theorem fl_Search_100 : FL RX5 100 3 9 0 := ⟨RX3, TX3, 15, rfl, by decide, in_X3, (gq_2 82 (by decide +kernel) rfl), rfl⟩
theorem fl_Search_112 : FL RX5 112 3 3 0 := ⟨RX3, TX3, 15, rfl, by decide, in_X3, (gq_2 59 (by decide +kernel) rfl), rfl⟩
theorem fl_Search_154 : FL RX5 154 3 11 0 := ⟨RX3, TX3, 15, rfl, by decide, in_X3, (gq_2 95 (by decide +kernel) rfl), rfl⟩
theorem fl_Search_179 : FL RX5 179 3 0 0 := ⟨RX3, TX3, 15, rfl, by decide, in_X3, (gq_2 49 (by decide +kernel) rfl), rfl⟩
theorem fl_Sound_11 : FL RX6 11 6 1 2 := ⟨RX6, TX6, 6, rfl, by decide, in_X6, (gq_2 148 (by decide +kernel) rfl), rfl⟩
theorem fl_Sound_16 : FL RX6 16 6 2 2 := ⟨RX6, TX6, 6, rfl, by decide, in_X6, (gq_2 149 (by decide +kernel) rfl), rfl⟩
theorem fl_Sound_20 : FL RX6 20 6 3 2 := ⟨RX6, TX6, 6, rfl, by decide, in_X6, (gq_2 150 (by decide +kernel) rfl), rfl⟩
theorem fl_Sound_23 : FL RX6 23 6 4 2 := ⟨RX6, TX6, 6, rfl, by decide, in_X6, (gq_2 151 (by decide +kernel) rfl), rfl⟩
theorem fl_Sound_26 : FL RX6 26 6 5 0 := ⟨RX6, TX6, 6, rfl, by decide, in_X6, (gq_2 152 (by decide +kernel) rfl), rfl⟩
theorem fl_Sound_30 : FL RX6 30 6 0 2 := ⟨RX6, TX6, 6, rfl, by decide, in_X6, (gq_2 147 (by decide +kernel) rfl), rfl⟩
theorem fl_Sound_34 : FL RX6 34 3 14 0 := ⟨RX3, TX3, 15, rfl, by decide, in_X3, (gq_2 106 (by decide +kernel) rfl), rfl⟩
theorem fl_Sound_39 : FL RX6 39 3 7 3 := ⟨RX3, TX3, 15, rfl, by decide, in_X3, (gq_2 73 (by decide +kernel) rfl), rfl⟩
theorem fl_Sound_43 : FL RX6 43 3 11 0 := ⟨RX3, TX3, 15, rfl, by decide, in_X3, (gq_2 92 (by decide +kernel) rfl), rfl⟩
theorem fl_Sound_46 : FL RX6 46 3 0 0 := ⟨RX3, TX3, 15, rfl, by decide, in_X3, (gq_2 46 (by decide +kernel) rfl), rfl⟩
theorem fl_Sound_53 : FL RX6 53 3 12 2 := ⟨RX3, TX3, 15, rfl, by decide, in_X3, (gq_2 99 (by decide +kernel) rfl), rfl⟩
theorem fl_Sound_57 : FL RX6 57 0 1 0 := ⟨RX0, TX0, 9, rfl, by decide, in_X0, (gq_1 233 (by decide +kernel) rfl), rfl⟩
theorem fl_Sound_62 : FL RX6 62 0 2 0 := ⟨RX0, TX0, 9, rfl, by decide, in_X0, (gq_1 238 (by decide +kernel) rfl), rfl⟩
theorem fl_Sound_69 : FL RX6 69 3 6 0 := ⟨RX3, TX3, 15, rfl, by decide, in_X3, (gq_2 70 (by decide +kernel) rfl), rfl⟩
theorem fl_Sound_72 : FL RX6 72 3 2 0 := ⟨RX3, TX3, 15, rfl, by decide, in_X3, (gq_2 55 (by decide +kernel) rfl), rfl⟩
theorem fl_Sound_75 : FL RX6 75 3 9 0 := ⟨RX3, TX3, 15, rfl, by decide, in_X3, (gq_2 83 (by decide +kernel) rfl), rfl⟩
theorem fl_Sound_78 : FL RX6 78 0 3 0 := ⟨RX0, TX0, 9, rfl, by decide, in_X0, (gq_2 3 (by decide +kernel) rfl), rfl⟩
theorem fl_Sound_81 : FL RX6 81 3 10 2 := ⟨RX3, TX3, 15, rfl, by decide, in_X3, (gq_2 87 (by decide +kernel) rfl), rfl⟩
theorem fl_Sound_85 : FL RX6 85 10 1 0 := ⟨RX10, TX10, 4, rfl, by decide, in_X10, (gq_1 205 (by decide +kernel) rfl), rfl⟩
theorem fl_Sound_107 : FL RX6 107 3 8 2 := ⟨RX3, TX3, 15, rfl, by decide, in_X3, (gq_2 78 (by decide +kernel) rfl), rfl⟩
theorem fl_Stage_12 : FL RX7 12 7 0 2 := ⟨RX7, TX7, 12, rfl, by decide, in_X7, (gq_2 166 (by decide +kernel) rfl), rfl⟩
theorem fl_Stage_23 : FL RX7 23 7 1 2 := ⟨RX7, TX7, 12, rfl, by decide, in_X7, (gq_2 169 (by decide +kernel) rfl), rfl⟩
theorem fl_Stage_27 : FL RX7 27 7 2 2 := ⟨RX7, TX7, 12, rfl, by decide, in_X7, (gq_2 171 (by decide +kernel) rfl), rfl⟩
theorem fl_Stage_31 : FL RX7 31 7 3 0 := ⟨RX7, TX7, 12, rfl, by decide, in_X7, (gq_2 173 (by decide +kernel) rfl), rfl⟩
theorem fl_Stage_35 : FL RX7 35 7 4 0 := ⟨RX7, TX7, 12, rfl, by decide, in_X7, (gq_2 175 (by decide +kernel) rfl), rfl⟩
theorem fl_Stage_38 : FL RX7 38 7 5 0 := ⟨RX7, TX7, 12, rfl, by decide, in_X7, (gq_2 176 (by decide +kernel) rfl), rfl⟩
theorem fl_Stage_41 : FL RX7 41 7 6 0 := ⟨RX7, TX7, 12, rfl, by decide, in_X7, (gq_2 177 (by decide +kernel) rfl), rfl⟩
theorem fl_Stage_44 : FL RX7 44 7 7 0 := ⟨RX7, TX7, 12, rfl, by decide, in_X7, (gq_2 178 (by decide +kernel) rfl), rfl⟩
theorem fl_Stage_47 : FL RX7 47 7 8 0 := ⟨RX7, TX7, 12, rfl, by decide, in_X7, (gq_2 179 (by decide +kernel) rfl), rfl⟩
theorem fl_Stage_50 : FL RX7 50 7 9 3 := ⟨RX7, TX7, 12, rfl, by decide, in_X7, (gq_2 180 (by decide +kernel) rfl), rfl⟩
theorem fl_Stage_54 : FL RX7 54 7 10 3 := ⟨RX7, TX7, 12, rfl, by decide, in_X7, (gq_2 181 (by decide +kernel) rfl), rfl⟩
theorem fl_Stage_57 : FL RX7 57 7 11 0 := ⟨RX7, TX7, 12, rfl, by decide, in_X7, (gq_2 182 (by decide +kernel) rfl), rfl⟩
theorem fl_Stage_63 : FL RX7 63 3 11 0 := ⟨RX3, TX3, 15, rfl, by decide, in_X3, (gq_2 91 (by decide +kernel) rfl), rfl⟩
theorem fl_Stage_66 : FL RX7 66 3 12 2 := ⟨RX3, TX3, 15, rfl, by decide, in_X3, (gq_2 98 (by decide +kernel) rfl), rfl⟩
theorem fl_Stage_70 : FL RX7 70 3 5 0 := ⟨RX3, TX3, 15, rfl, by decide, in_X3, (gq_2 67 (by decide +kernel) rfl), rfl⟩
theorem fl_Stage_79 : FL RX7 79 0 4 0 := ⟨RX0, TX0, 9, rfl, by decide, in_X0, (gq_2 8 (by decide +kernel) rfl), rfl⟩
theorem fl_Stage_116 : FL RX7 116 3 8 2 := ⟨RX3, TX3, 15, rfl, by decide, in_X3, (gq_2 79 (by decide +kernel) rfl), rfl⟩
theorem fl_Stage_123 : FL RX7 123 0 6 0 := ⟨RX0, TX0, 9, rfl, by decide, in_X0, (gq_2 16 (by decide +kernel) rfl), rfl⟩
theorem fl_Stage_124 : FL RX7 124 3 3 0 := ⟨RX3, TX3, 15, rfl, by decide, in_X3, (gq_2 60 (by decide +kernel) rfl), rfl⟩
theorem fl_Stage_136 : FL RX7 136 3 13 2 := ⟨RX3, TX3, 15, rfl, by decide, in_X3, (gq_2 104 (by decide +kernel) rfl), rfl⟩
theorem fl_Stage_140 : FL RX7 140 1 2 2 := ⟨RX1, TX1, 8, rfl, by decide, in_X1, (gq_1 161 (by decide +kernel) rfl), rfl⟩
theorem fl_Stage_145 : FL RX7 145 1 7 2 := ⟨RX1, TX1, 8, rfl, by decide, in_X1, (gq_1 176 (by decide +kernel) rfl), rfl⟩
theorem fl_Stage_153 : FL RX7 153 1 5 2 := ⟨RX1, TX1, 8, rfl, by decide, in_X1, (gq_1 170 (by decide +kernel) rfl), rfl⟩
theorem fl_Stage_166 : FL RX7 166 1 4 2 := ⟨RX1, TX1, 8, rfl, by decide, in_X1, (gq_1 167 (by decide +kernel) rfl), rfl⟩
theorem fl_Stage_169 : FL RX7 169 1 3 2 := ⟨RX1, TX1, 8, rfl, by decide, in_X1, (gq_1 164 (by decide +kernel) rfl), rfl⟩
theorem fl_Stage_182 : FL RX7 182 3 7 3 := ⟨RX3, TX3, 15, rfl, by decide, in_X3, (gq_2 75 (by decide +kernel) rfl), rfl⟩
theorem fl_Stage_185 : FL RX7 185 1 6 2 := ⟨RX1, TX1, 8, rfl, by decide, in_X1, (gq_1 173 (by decide +kernel) rfl), rfl⟩
theorem fl_Stage_204 : FL RX7 204 3 4 0 := ⟨RX3, TX3, 15, rfl, by decide, in_X3, (gq_2 65 (by decide +kernel) rfl), rfl⟩
theorem fl_Stage_207 : FL RX7 207 0 7 0 := ⟨RX0, TX0, 9, rfl, by decide, in_X0, (gq_2 21 (by decide +kernel) rfl), rfl⟩
theorem fl_Stage_210 : FL RX7 210 0 8 2 := ⟨RX0, TX0, 9, rfl, by decide, in_X0, (gq_2 25 (by decide +kernel) rfl), rfl⟩
theorem fl_Tape_9 : FL RX8 9 8 0 2 := ⟨RX8, TX8, 12, rfl, by decide, in_X8, (gq_1 87 (by decide +kernel) rfl), rfl⟩
theorem fl_Tape_15 : FL RX8 15 8 1 0 := ⟨RX8, TX8, 12, rfl, by decide, in_X8, (gq_1 88 (by decide +kernel) rfl), rfl⟩
theorem fl_Tape_19 : FL RX8 19 8 2 0 := ⟨RX8, TX8, 12, rfl, by decide, in_X8, (gq_1 90 (by decide +kernel) rfl), rfl⟩
theorem fl_Tape_25 : FL RX8 25 8 4 2 := ⟨RX8, TX8, 12, rfl, by decide, in_X8, (gq_1 96 (by decide +kernel) rfl), rfl⟩
theorem fl_Tape_29 : FL RX8 29 8 5 0 := ⟨RX8, TX8, 12, rfl, by decide, in_X8, (gq_1 97 (by decide +kernel) rfl), rfl⟩
theorem fl_Tape_32 : FL RX8 32 8 6 0 := ⟨RX8, TX8, 12, rfl, by decide, in_X8, (gq_1 98 (by decide +kernel) rfl), rfl⟩
theorem fl_Tape_35 : FL RX8 35 8 7 0 := ⟨RX8, TX8, 12, rfl, by decide, in_X8, (gq_1 99 (by decide +kernel) rfl), rfl⟩
theorem fl_Tape_38 : FL RX8 38 8 8 0 := ⟨RX8, TX8, 12, rfl, by decide, in_X8, (gq_1 100 (by decide +kernel) rfl), rfl⟩
theorem fl_Tape_41 : FL RX8 41 8 9 0 := ⟨RX8, TX8, 12, rfl, by decide, in_X8, (gq_1 101 (by decide +kernel) rfl), rfl⟩
theorem fl_Tape_44 : FL RX8 44 8 10 0 := ⟨RX8, TX8, 12, rfl, by decide, in_X8, (gq_1 102 (by decide +kernel) rfl), rfl⟩
theorem fl_Tape_47 : FL RX8 47 8 11 1 := ⟨RX8, TX8, 12, rfl, by decide, in_X8, (gq_1 103 (by decide +kernel) rfl), rfl⟩
theorem fl_Tray_15 : FL RX9 15 9 1 0 := ⟨RX9, TX9, 4, rfl, by decide, in_X9, (gq_3 54 (by decide +kernel) rfl), rfl⟩
theorem fl_Tray_19 : FL RX9 19 9 2 0 := ⟨RX9, TX9, 4, rfl, by decide, in_X9, (gq_3 56 (by decide +kernel) rfl), rfl⟩
theorem fl_Tray_22 : FL RX9 22 9 3 2 := ⟨RX9, TX9, 4, rfl, by decide, in_X9, (gq_3 58 (by decide +kernel) rfl), rfl⟩
theorem fl_Tune_7 : FL RX10 7 10 0 1 := ⟨RX10, TX10, 4, rfl, by decide, in_X10, (gq_1 201 (by decide +kernel) rfl), rfl⟩
theorem fl_Tune_13 : FL RX10 13 10 1 0 := ⟨RX10, TX10, 4, rfl, by decide, in_X10, (gq_1 204 (by decide +kernel) rfl), rfl⟩
theorem fl_Tune_17 : FL RX10 17 10 2 0 := ⟨RX10, TX10, 4, rfl, by decide, in_X10, (gq_1 208 (by decide +kernel) rfl), rfl⟩
theorem fl_Tune_20 : FL RX10 20 10 3 0 := ⟨RX10, TX10, 4, rfl, by decide, in_X10, (gq_1 212 (by decide +kernel) rfl), rfl⟩
theorem pl_Band_9 : PL RX0 9 0 0 1 := ⟨RX0, TX0, 9, tyX0, rfl, by decide, in_X0, (gq_1 229 (by decide +kernel) rfl), rfl, rfl, tyX0_ok, nmX0, rfl, rfl⟩
theorem pl_Band_15 : PL RX0 15 0 1 0 := ⟨RX0, TX0, 9, tyX0, rfl, by decide, in_X0, (gq_1 232 (by decide +kernel) rfl), rfl, rfl, tyX0_ok, nmX0, rfl, rfl⟩
theorem pl_Band_19 : PL RX0 19 0 2 0 := ⟨RX0, TX0, 9, tyX0, rfl, by decide, in_X0, (gq_1 237 (by decide +kernel) rfl), rfl, rfl, tyX0_ok, nmX0, rfl, rfl⟩
theorem pl_Band_22 : PL RX0 22 0 3 0 := ⟨RX0, TX0, 9, tyX0, rfl, by decide, in_X0, (gq_2 2 (by decide +kernel) rfl), rfl, rfl, tyX0_ok, nmX0, rfl, rfl⟩
theorem pl_Band_25 : PL RX0 25 0 4 0 := ⟨RX0, TX0, 9, tyX0, rfl, by decide, in_X0, (gq_2 6 (by decide +kernel) rfl), rfl, rfl, tyX0_ok, nmX0, rfl, rfl⟩
theorem pl_Band_28 : PL RX0 28 0 5 0 := ⟨RX0, TX0, 9, tyX0, rfl, by decide, in_X0, (gq_2 11 (by decide +kernel) rfl), rfl, rfl, tyX0_ok, nmX0, rfl, rfl⟩
theorem pl_Band_31 : PL RX0 31 0 6 0 := ⟨RX0, TX0, 9, tyX0, rfl, by decide, in_X0, (gq_2 15 (by decide +kernel) rfl), rfl, rfl, tyX0_ok, nmX0, rfl, rfl⟩
theorem pl_Band_34 : PL RX0 34 0 7 0 := ⟨RX0, TX0, 9, tyX0, rfl, by decide, in_X0, (gq_2 18 (by decide +kernel) rfl), rfl, rfl, tyX0_ok, nmX0, rfl, rfl⟩
theorem pl_BandPark_71 : PL RX11 71 11 9 3 := ⟨RX11, TX11, 16, tyX11, rfl, by decide, in_X11, (gq_3 79 (by decide +kernel) rfl), rfl, rfl, tyX11_ok, nmX11, rfl, rfl⟩
theorem pl_BandPark_75 : PL RX11 75 11 10 0 := ⟨RX11, TX11, 16, tyX11, rfl, by decide, in_X11, (gq_3 80 (by decide +kernel) rfl), rfl, rfl, tyX11_ok, nmX11, rfl, rfl⟩
theorem pl_BandPark_79 : PL RX11 79 11 11 0 := ⟨RX11, TX11, 16, tyX11, rfl, by decide, in_X11, (gq_3 81 (by decide +kernel) rfl), rfl, rfl, tyX11_ok, nmX11, rfl, rfl⟩
theorem pl_BandPark_82 : PL RX11 82 11 12 0 := ⟨RX11, TX11, 16, tyX11, rfl, by decide, in_X11, (gq_3 82 (by decide +kernel) rfl), rfl, rfl, tyX11_ok, nmX11, rfl, rfl⟩
theorem pl_BandPark_85 : PL RX11 85 11 13 0 := ⟨RX11, TX11, 16, tyX11, rfl, by decide, in_X11, (gq_3 83 (by decide +kernel) rfl), rfl, rfl, tyX11_ok, nmX11, rfl, rfl⟩
theorem pl_BandPark_88 : PL RX11 88 11 14 1 := ⟨RX11, TX11, 16, tyX11, rfl, by decide, in_X11, (gq_3 84 (by decide +kernel) rfl), rfl, rfl, tyX11_ok, nmX11, rfl, rfl⟩
theorem pl_BandPark_92 : PL RX11 92 11 15 1 := ⟨RX11, TX11, 16, tyX11, rfl, by decide, in_X11, (gq_3 85 (by decide +kernel) rfl), rfl, rfl, tyX11_ok, nmX11, rfl, rfl⟩
theorem pl_BandPark_155 : PL RX11 155 8 1 0 := ⟨RX8, TX8, 12, tyX8, rfl, by decide, in_X8, (gq_1 89 (by decide +kernel) rfl), rfl, rfl, tyX8_ok, nmX8, rfl, rfl⟩
theorem pl_BandPark_267 : PL RX11 267 0 3 0 := ⟨RX0, TX0, 9, tyX0, rfl, by decide, in_X0, (gq_2 5 (by decide +kernel) rfl), rfl, rfl, tyX0_ok, nmX0, rfl, rfl⟩
theorem pl_BandPark_270 : PL RX11 270 0 4 0 := ⟨RX0, TX0, 9, tyX0, rfl, by decide, in_X0, (gq_2 10 (by decide +kernel) rfl), rfl, rfl, tyX0_ok, nmX0, rfl, rfl⟩
theorem pl_BandPark_279 : PL RX11 279 0 7 0 := ⟨RX0, TX0, 9, tyX0, rfl, by decide, in_X0, (gq_2 20 (by decide +kernel) rfl), rfl, rfl, tyX0_ok, nmX0, rfl, rfl⟩
theorem pl_BandPark_317 : PL RX11 317 3 14 0 := ⟨RX3, TX3, 15, tyX3, rfl, by decide, in_X3, (gq_2 107 (by decide +kernel) rfl), rfl, rfl, tyX3_ok, nmX3, rfl, rfl⟩
theorem pl_BandParkModel_7 : PL RX12 7 12 3 1 := ⟨RX12, TX12, 45, tyX12, rfl, by decide, in_X12, (gq_7 19 (by decide +kernel) rfl), rfl, rfl, tyX12_ok, nmX12, rfl, rfl⟩
theorem pl_BandParkModel_28 : PL RX12 28 12 10 0 := ⟨RX12, TX12, 45, tyX12, rfl, by decide, in_X12, (gq_7 26 (by decide +kernel) rfl), rfl, rfl, tyX12_ok, nmX12, rfl, rfl⟩
theorem pl_BandParkModel_32 : PL RX12 32 12 11 0 := ⟨RX12, TX12, 45, tyX12, rfl, by decide, in_X12, (gq_7 27 (by decide +kernel) rfl), rfl, rfl, tyX12_ok, nmX12, rfl, rfl⟩
theorem pl_BandParkModel_69 : PL RX12 69 12 1 0 := ⟨RX12, TX12, 45, tyX12, rfl, by decide, in_X12, (gq_7 17 (by decide +kernel) rfl), rfl, rfl, tyX12_ok, nmX12, rfl, rfl⟩
theorem pl_BandParkModel_72 : PL RX12 72 12 0 0 := ⟨RX12, TX12, 45, tyX12, rfl, by decide, in_X12, (gq_7 16 (by decide +kernel) rfl), rfl, rfl, tyX12_ok, nmX12, rfl, rfl⟩
theorem pl_BandParkModel_75 : PL RX12 75 12 2 1 := ⟨RX12, TX12, 45, tyX12, rfl, by decide, in_X12, (gq_7 18 (by decide +kernel) rfl), rfl, rfl, tyX12_ok, nmX12, rfl, rfl⟩
theorem pl_BandParkModel_112 : PL RX12 112 12 9 0 := ⟨RX12, TX12, 45, tyX12, rfl, by decide, in_X12, (gq_7 25 (by decide +kernel) rfl), rfl, rfl, tyX12_ok, nmX12, rfl, rfl⟩
theorem pl_BandParkModel_115 : PL RX12 115 12 16 0 := ⟨RX12, TX12, 45, tyX12, rfl, by decide, in_X12, (gq_7 32 (by decide +kernel) rfl), rfl, rfl, tyX12_ok, nmX12, rfl, rfl⟩
theorem pl_BandParkModel_118 : PL RX12 118 12 15 0 := ⟨RX12, TX12, 45, tyX12, rfl, by decide, in_X12, (gq_7 31 (by decide +kernel) rfl), rfl, rfl, tyX12_ok, nmX12, rfl, rfl⟩
theorem pl_BandParkModel_124 : PL RX12 124 12 14 0 := ⟨RX12, TX12, 45, tyX12, rfl, by decide, in_X12, (gq_7 30 (by decide +kernel) rfl), rfl, rfl, tyX12_ok, nmX12, rfl, rfl⟩
theorem pl_BandParkModel_130 : PL RX12 130 12 19 1 := ⟨RX12, TX12, 45, tyX12, rfl, by decide, in_X12, (gq_7 35 (by decide +kernel) rfl), rfl, rfl, tyX12_ok, nmX12, rfl, rfl⟩
theorem pl_BandParkModel_137 : PL RX12 137 12 18 0 := ⟨RX12, TX12, 45, tyX12, rfl, by decide, in_X12, (gq_7 34 (by decide +kernel) rfl), rfl, rfl, tyX12_ok, nmX12, rfl, rfl⟩
theorem pl_BandParkModel_143 : PL RX12 143 12 17 0 := ⟨RX12, TX12, 45, tyX12, rfl, by decide, in_X12, (gq_7 33 (by decide +kernel) rfl), rfl, rfl, tyX12_ok, nmX12, rfl, rfl⟩
theorem pl_BandParkModel_225 : PL RX12 225 12 12 0 := ⟨RX12, TX12, 45, tyX12, rfl, by decide, in_X12, (gq_7 28 (by decide +kernel) rfl), rfl, rfl, tyX12_ok, nmX12, rfl, rfl⟩
theorem pl_BandParkModel_228 : PL RX12 228 12 13 0 := ⟨RX12, TX12, 45, tyX12, rfl, by decide, in_X12, (gq_7 29 (by decide +kernel) rfl), rfl, rfl, tyX12_ok, nmX12, rfl, rfl⟩
theorem pl_BandParkModel_248 : PL RX12 248 12 8 0 := ⟨RX12, TX12, 45, tyX12, rfl, by decide, in_X12, (gq_7 24 (by decide +kernel) rfl), rfl, rfl, tyX12_ok, nmX12, rfl, rfl⟩
theorem pl_BandParkModel_266 : PL RX12 266 12 25 0 := ⟨RX12, TX12, 45, tyX12, rfl, by decide, in_X12, (gq_7 41 (by decide +kernel) rfl), rfl, rfl, tyX12_ok, nmX12, rfl, rfl⟩
theorem pl_BandParkModel_328 : PL RX12 328 12 26 0 := ⟨RX12, TX12, 45, tyX12, rfl, by decide, in_X12, (gq_7 42 (by decide +kernel) rfl), rfl, rfl, tyX12_ok, nmX12, rfl, rfl⟩
theorem pl_BandParkModel_337 : PL RX12 337 12 29 0 := ⟨RX12, TX12, 45, tyX12, rfl, by decide, in_X12, (gq_7 45 (by decide +kernel) rfl), rfl, rfl, tyX12_ok, nmX12, rfl, rfl⟩
theorem pl_BandParkModel_447 : PL RX12 447 12 30 0 := ⟨RX12, TX12, 45, tyX12, rfl, by decide, in_X12, (gq_7 46 (by decide +kernel) rfl), rfl, rfl, tyX12_ok, nmX12, rfl, rfl⟩
theorem pl_BandParkModel_469 : PL RX12 469 12 31 0 := ⟨RX12, TX12, 45, tyX12, rfl, by decide, in_X12, (gq_7 47 (by decide +kernel) rfl), rfl, rfl, tyX12_ok, nmX12, rfl, rfl⟩
theorem pl_BandParkModel_518 : PL RX12 518 12 38 0 := ⟨RX12, TX12, 45, tyX12, rfl, by decide, in_X12, (gq_7 54 (by decide +kernel) rfl), rfl, rfl, tyX12_ok, nmX12, rfl, rfl⟩
theorem pl_BandParkModel_522 : PL RX12 522 12 42 0 := ⟨RX12, TX12, 45, tyX12, rfl, by decide, in_X12, (gq_7 58 (by decide +kernel) rfl), rfl, rfl, tyX12_ok, nmX12, rfl, rfl⟩
theorem pl_BandParkModel_525 : PL RX12 525 12 43 0 := ⟨RX12, TX12, 45, tyX12, rfl, by decide, in_X12, (gq_7 59 (by decide +kernel) rfl), rfl, rfl, tyX12_ok, nmX12, rfl, rfl⟩
theorem pl_BandParkModel_528 : PL RX12 528 12 41 0 := ⟨RX12, TX12, 45, tyX12, rfl, by decide, in_X12, (gq_7 57 (by decide +kernel) rfl), rfl, rfl, tyX12_ok, nmX12, rfl, rfl⟩
theorem pl_BandParkModel_543 : PL RX12 543 12 39 0 := ⟨RX12, TX12, 45, tyX12, rfl, by decide, in_X12, (gq_7 55 (by decide +kernel) rfl), rfl, rfl, tyX12_ok, nmX12, rfl, rfl⟩
theorem pl_BandParkModel_546 : PL RX12 546 12 37 3 := ⟨RX12, TX12, 45, tyX12, rfl, by decide, in_X12, (gq_7 53 (by decide +kernel) rfl), rfl, rfl, tyX12_ok, nmX12, rfl, rfl⟩
theorem pl_BandParkModel_550 : PL RX12 550 12 44 0 := ⟨RX12, TX12, 45, tyX12, rfl, by decide, in_X12, (gq_7 60 (by decide +kernel) rfl), rfl, rfl, tyX12_ok, nmX12, rfl, rfl⟩
theorem pl_BandParkModel_553 : PL RX12 553 12 40 0 := ⟨RX12, TX12, 45, tyX12, rfl, by decide, in_X12, (gq_7 56 (by decide +kernel) rfl), rfl, rfl, tyX12_ok, nmX12, rfl, rfl⟩
theorem pl_BandParkModel_573 : PL RX12 573 12 36 3 := ⟨RX12, TX12, 45, tyX12, rfl, by decide, in_X12, (gq_7 52 (by decide +kernel) rfl), rfl, rfl, tyX12_ok, nmX12, rfl, rfl⟩
theorem pl_BandParkModel_576 : PL RX12 576 12 24 0 := ⟨RX12, TX12, 45, tyX12, rfl, by decide, in_X12, (gq_7 40 (by decide +kernel) rfl), rfl, rfl, tyX12_ok, nmX12, rfl, rfl⟩
theorem pl_Evenings_9 : PL RX1 9 1 0 3 := ⟨RX1, TX1, 8, tyX1, rfl, by decide, in_X1, (gq_1 153 (by decide +kernel) rfl), rfl, rfl, tyX1_ok, nmX1, rfl, rfl⟩
theorem pl_Evenings_15 : PL RX1 15 1 1 0 := ⟨RX1, TX1, 8, tyX1, rfl, by decide, in_X1, (gq_1 156 (by decide +kernel) rfl), rfl, rfl, tyX1_ok, nmX1, rfl, rfl⟩
theorem pl_EveningsReader_22 : PL RX2 22 2 4 0 := ⟨RX2, TX2, 5, tyX2, rfl, by decide, in_X2, (gq_3 0 (by decide +kernel) rfl), rfl, rfl, tyX2_ok, nmX2, rfl, rfl⟩
theorem pl_EveningsReader_60 : PL RX2 60 1 0 3 := ⟨RX1, TX1, 8, tyX1, rfl, by decide, in_X1, (gq_1 154 (by decide +kernel) rfl), rfl, rfl, tyX1_ok, nmX1, rfl, rfl⟩
theorem pl_EveningsReader_70 : PL RX2 70 1 1 0 := ⟨RX1, TX1, 8, tyX1, rfl, by decide, in_X1, (gq_1 157 (by decide +kernel) rfl), rfl, rfl, tyX1_ok, nmX1, rfl, rfl⟩
theorem pl_Park_9 : PL RX3 9 3 0 0 := ⟨RX3, TX3, 15, tyX3, rfl, by decide, in_X3, (gq_2 45 (by decide +kernel) rfl), rfl, rfl, tyX3_ok, nmX3, rfl, rfl⟩
theorem pl_Park_15 : PL RX3 15 3 1 0 := ⟨RX3, TX3, 15, tyX3, rfl, by decide, in_X3, (gq_2 50 (by decide +kernel) rfl), rfl, rfl, tyX3_ok, nmX3, rfl, rfl⟩
theorem pl_Park_18 : PL RX3 18 3 2 0 := ⟨RX3, TX3, 15, tyX3, rfl, by decide, in_X3, (gq_2 53 (by decide +kernel) rfl), rfl, rfl, tyX3_ok, nmX3, rfl, rfl⟩
theorem pl_Park_21 : PL RX3 21 3 3 0 := ⟨RX3, TX3, 15, tyX3, rfl, by decide, in_X3, (gq_2 57 (by decide +kernel) rfl), rfl, rfl, tyX3_ok, nmX3, rfl, rfl⟩
theorem pl_Park_24 : PL RX3 24 3 4 0 := ⟨RX3, TX3, 15, tyX3, rfl, by decide, in_X3, (gq_2 62 (by decide +kernel) rfl), rfl, rfl, tyX3_ok, nmX3, rfl, rfl⟩
theorem pl_Park_27 : PL RX3 27 3 5 0 := ⟨RX3, TX3, 15, tyX3, rfl, by decide, in_X3, (gq_2 66 (by decide +kernel) rfl), rfl, rfl, tyX3_ok, nmX3, rfl, rfl⟩
theorem pl_Park_30 : PL RX3 30 3 6 0 := ⟨RX3, TX3, 15, tyX3, rfl, by decide, in_X3, (gq_2 69 (by decide +kernel) rfl), rfl, rfl, tyX3_ok, nmX3, rfl, rfl⟩
theorem pl_Park_33 : PL RX3 33 3 7 3 := ⟨RX3, TX3, 15, tyX3, rfl, by decide, in_X3, (gq_2 72 (by decide +kernel) rfl), rfl, rfl, tyX3_ok, nmX3, rfl, rfl⟩
theorem pl_Park_41 : PL RX3 41 3 9 0 := ⟨RX3, TX3, 15, tyX3, rfl, by decide, in_X3, (gq_2 81 (by decide +kernel) rfl), rfl, rfl, tyX3_ok, nmX3, rfl, rfl⟩
theorem pl_Park_50 : PL RX3 50 3 11 0 := ⟨RX3, TX3, 15, tyX3, rfl, by decide, in_X3, (gq_2 90 (by decide +kernel) rfl), rfl, rfl, tyX3_ok, nmX3, rfl, rfl⟩
theorem pl_Park_66 : PL RX3 66 3 14 0 := ⟨RX3, TX3, 15, tyX3, rfl, by decide, in_X3, (gq_2 105 (by decide +kernel) rfl), rfl, rfl, tyX3_ok, nmX3, rfl, rfl⟩
theorem pl_Park_97 : PL RX3 97 0 1 0 := ⟨RX0, TX0, 9, tyX0, rfl, by decide, in_X0, (gq_1 235 (by decide +kernel) rfl), rfl, rfl, tyX0_ok, nmX0, rfl, rfl⟩
theorem pl_Park_100 : PL RX3 100 0 2 0 := ⟨RX0, TX0, 9, tyX0, rfl, by decide, in_X0, (gq_2 0 (by decide +kernel) rfl), rfl, rfl, tyX0_ok, nmX0, rfl, rfl⟩
theorem pl_ParkReader_18 : PL RX4 18 4 2 0 := ⟨RX4, TX4, 3, tyX4, rfl, by decide, in_X4, (gq_2 219 (by decide +kernel) rfl), rfl, rfl, tyX4_ok, nmX4, rfl, rfl⟩
theorem pl_ParkReader_50 : PL RX4 50 3 2 0 := ⟨RX3, TX3, 15, tyX3, rfl, by decide, in_X3, (gq_2 54 (by decide +kernel) rfl), rfl, rfl, tyX3_ok, nmX3, rfl, rfl⟩
theorem pl_ParkReader_53 : PL RX4 53 3 3 0 := ⟨RX3, TX3, 15, tyX3, rfl, by decide, in_X3, (gq_2 58 (by decide +kernel) rfl), rfl, rfl, tyX3_ok, nmX3, rfl, rfl⟩
theorem pl_ParkReader_56 : PL RX4 56 3 4 0 := ⟨RX3, TX3, 15, tyX3, rfl, by decide, in_X3, (gq_2 63 (by decide +kernel) rfl), rfl, rfl, tyX3_ok, nmX3, rfl, rfl⟩
theorem pl_ParkReader_89 : PL RX4 89 3 0 0 := ⟨RX3, TX3, 15, tyX3, rfl, by decide, in_X3, (gq_2 47 (by decide +kernel) rfl), rfl, rfl, tyX3_ok, nmX3, rfl, rfl⟩
theorem pl_ParkReader_92 : PL RX4 92 3 1 0 := ⟨RX3, TX3, 15, tyX3, rfl, by decide, in_X3, (gq_2 51 (by decide +kernel) rfl), rfl, rfl, tyX3_ok, nmX3, rfl, rfl⟩
theorem pl_ParkReader_116 : PL RX4 116 3 9 0 := ⟨RX3, TX3, 15, tyX3, rfl, by decide, in_X3, (gq_2 84 (by decide +kernel) rfl), rfl, rfl, tyX3_ok, nmX3, rfl, rfl⟩
theorem pl_ParkReader_126 : PL RX4 126 10 0 1 := ⟨RX10, TX10, 4, tyX10, rfl, by decide, in_X10, (gq_1 202 (by decide +kernel) rfl), rfl, rfl, tyX10_ok, nmX10, rfl, rfl⟩
theorem pl_ParkReader_132 : PL RX4 132 10 1 0 := ⟨RX10, TX10, 4, tyX10, rfl, by decide, in_X10, (gq_1 206 (by decide +kernel) rfl), rfl, rfl, tyX10_ok, nmX10, rfl, rfl⟩
theorem pl_ParkReader_135 : PL RX4 135 10 2 0 := ⟨RX10, TX10, 4, tyX10, rfl, by decide, in_X10, (gq_1 209 (by decide +kernel) rfl), rfl, rfl, tyX10_ok, nmX10, rfl, rfl⟩
theorem pl_ParkReader_138 : PL RX4 138 10 3 0 := ⟨RX10, TX10, 4, tyX10, rfl, by decide, in_X10, (gq_1 213 (by decide +kernel) rfl), rfl, rfl, tyX10_ok, nmX10, rfl, rfl⟩
theorem pl_ParkReader_141 : PL RX4 141 3 11 0 := ⟨RX3, TX3, 15, tyX3, rfl, by decide, in_X3, (gq_2 93 (by decide +kernel) rfl), rfl, rfl, tyX3_ok, nmX3, rfl, rfl⟩
theorem pl_ParkReader_151 : PL RX4 151 0 0 1 := ⟨RX0, TX0, 9, tyX0, rfl, by decide, in_X0, (gq_1 230 (by decide +kernel) rfl), rfl, rfl, tyX0_ok, nmX0, rfl, rfl⟩
theorem pl_ParkReader_156 : PL RX4 156 0 3 0 := ⟨RX0, TX0, 9, tyX0, rfl, by decide, in_X0, (gq_2 4 (by decide +kernel) rfl), rfl, rfl, tyX0_ok, nmX0, rfl, rfl⟩
theorem pl_ParkReader_159 : PL RX4 159 0 5 0 := ⟨RX0, TX0, 9, tyX0, rfl, by decide, in_X0, (gq_2 13 (by decide +kernel) rfl), rfl, rfl, tyX0_ok, nmX0, rfl, rfl⟩
theorem pl_ParkReader_162 : PL RX4 162 0 4 0 := ⟨RX0, TX0, 9, tyX0, rfl, by decide, in_X0, (gq_2 9 (by decide +kernel) rfl), rfl, rfl, tyX0_ok, nmX0, rfl, rfl⟩
theorem pl_ParkReader_168 : PL RX4 168 0 1 0 := ⟨RX0, TX0, 9, tyX0, rfl, by decide, in_X0, (gq_1 234 (by decide +kernel) rfl), rfl, rfl, tyX0_ok, nmX0, rfl, rfl⟩
theorem pl_ParkReader_174 : PL RX4 174 0 2 0 := ⟨RX0, TX0, 9, tyX0, rfl, by decide, in_X0, (gq_1 239 (by decide +kernel) rfl), rfl, rfl, tyX0_ok, nmX0, rfl, rfl⟩
theorem pl_ParkReader_189 : PL RX4 189 0 7 0 := ⟨RX0, TX0, 9, tyX0, rfl, by decide, in_X0, (gq_2 19 (by decide +kernel) rfl), rfl, rfl, tyX0_ok, nmX0, rfl, rfl⟩
theorem pl_Sound_26 : PL RX6 26 6 5 0 := ⟨RX6, TX6, 6, tyX6, rfl, by decide, in_X6, (gq_2 152 (by decide +kernel) rfl), rfl, rfl, tyX6_ok, nmX6, rfl, rfl⟩
theorem pl_Stage_31 : PL RX7 31 7 3 0 := ⟨RX7, TX7, 12, tyX7, rfl, by decide, in_X7, (gq_2 173 (by decide +kernel) rfl), rfl, rfl, tyX7_ok, nmX7, rfl, rfl⟩
theorem pl_Stage_35 : PL RX7 35 7 4 0 := ⟨RX7, TX7, 12, tyX7, rfl, by decide, in_X7, (gq_2 175 (by decide +kernel) rfl), rfl, rfl, tyX7_ok, nmX7, rfl, rfl⟩
