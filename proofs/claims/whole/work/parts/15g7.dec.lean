theorem dX12_wet_81 : decode cX12_wet 81 = .ok (.if_icmp .ge 95, 3) := by decide +kernel
theorem dX12_wet_84 : decode cX12_wet 84 = .ok (.bipush 12, 2) := by decide +kernel
theorem dX12_wet_86 : decode cX12_wet 86 = .ok (.istore 6, 2) := by decide +kernel
theorem dX12_wet_88 : decode cX12_wet 88 = .ok (.iload 6, 2) := by decide +kernel
theorem dX12_wet_90 : decode cX12_wet 90 = .ok (.ifCond .le 54, 3) := by decide +kernel
theorem dX12_wet_93 : decode cX12_wet 93 = .ok (.aload_n 0, 1) := by decide +kernel
theorem dX12_wet_94 : decode cX12_wet 94 = .ok (.getfield 59, 3) := by decide +kernel
theorem dX12_wet_97 : decode cX12_wet 97 = .ok (.iload 6, 2) := by decide +kernel
theorem dX12_wet_99 : decode cX12_wet 99 = .ok (.aload_n 0, 1) := by decide +kernel
theorem dX12_wet_100 : decode cX12_wet 100 = .ok (.getfield 59, 3) := by decide +kernel
theorem dX12_wet_103 : decode cX12_wet 103 = .ok (.iload 6, 2) := by decide +kernel
theorem dX12_wet_105 : decode cX12_wet 105 = .ok (.laload, 1) := by decide +kernel
theorem dX12_wet_106 : decode cX12_wet 106 = .ok (.bipush 16, 2) := by decide +kernel
theorem dX12_wet_108 : decode cX12_wet 108 = .ok (.aload_n 0, 1) := by decide +kernel
theorem dX12_wet_109 : decode cX12_wet 109 = .ok (.getfield 35, 3) := by decide +kernel
theorem dX12_wet_112 : decode cX12_wet 112 = .ok (.bipush 6, 2) := by decide +kernel
theorem dX12_wet_114 : decode cX12_wet 114 = .ok (.iaload, 1) := by decide +kernel
theorem dX12_wet_115 : decode cX12_wet 115 = .ok (.isub, 1) := by decide +kernel
theorem dX12_wet_116 : decode cX12_wet 116 = .ok (.i2l, 1) := by decide +kernel
theorem dX12_wet_117 : decode cX12_wet 117 = .ok (.lmul, 1) := by decide +kernel
theorem dX12_wet_118 : decode cX12_wet 118 = .ok (.aload_n 0, 1) := by decide +kernel
theorem dX12_wet_119 : decode cX12_wet 119 = .ok (.getfield 59, 3) := by decide +kernel
theorem dX12_wet_122 : decode cX12_wet 122 = .ok (.iload 6, 2) := by decide +kernel
theorem dX12_wet_124 : decode cX12_wet 124 = .ok (.iconst 1, 1) := by decide +kernel
theorem dX12_wet_125 : decode cX12_wet 125 = .ok (.isub, 1) := by decide +kernel
theorem dX12_wet_126 : decode cX12_wet 126 = .ok (.laload, 1) := by decide +kernel
theorem dX12_wet_127 : decode cX12_wet 127 = .ok (.aload_n 0, 1) := by decide +kernel
theorem dX12_wet_128 : decode cX12_wet 128 = .ok (.getfield 35, 3) := by decide +kernel
theorem dX12_wet_131 : decode cX12_wet 131 = .ok (.bipush 6, 2) := by decide +kernel
theorem dX12_wet_133 : decode cX12_wet 133 = .ok (.iaload, 1) := by decide +kernel
theorem dX12_wet_134 : decode cX12_wet 134 = .ok (.i2l, 1) := by decide +kernel
theorem dX12_wet_135 : decode cX12_wet 135 = .ok (.lmul, 1) := by decide +kernel
theorem dX12_wet_136 : decode cX12_wet 136 = .ok (.ladd, 1) := by decide +kernel
theorem dX12_wet_137 : decode cX12_wet 137 = .ok (.lastore, 1) := by decide +kernel
theorem dX12_wet_138 : decode cX12_wet 138 = .ok (.iinc 6 (-1), 3) := by decide +kernel
theorem dX12_wet_141 : decode cX12_wet 141 = .ok (.goto (-53), 3) := by decide +kernel
theorem dX12_wet_144 : decode cX12_wet 144 = .ok (.aload_n 0, 1) := by decide +kernel
theorem dX12_wet_145 : decode cX12_wet 145 = .ok (.getfield 59, 3) := by decide +kernel
theorem dX12_wet_148 : decode cX12_wet 148 = .ok (.iconst 0, 1) := by decide +kernel
theorem dX12_wet_149 : decode cX12_wet 149 = .ok (.dup2, 1) := by decide +kernel
theorem dX12_wet_150 : decode cX12_wet 150 = .ok (.laload, 1) := by decide +kernel
theorem dX12_wet_151 : decode cX12_wet 151 = .ok (.bipush 16, 2) := by decide +kernel
theorem dX12_wet_153 : decode cX12_wet 153 = .ok (.aload_n 0, 1) := by decide +kernel
theorem dX12_wet_154 : decode cX12_wet 154 = .ok (.getfield 35, 3) := by decide +kernel
theorem dX12_wet_157 : decode cX12_wet 157 = .ok (.bipush 6, 2) := by decide +kernel
theorem dX12_wet_159 : decode cX12_wet 159 = .ok (.iaload, 1) := by decide +kernel
theorem dX12_wet_160 : decode cX12_wet 160 = .ok (.isub, 1) := by decide +kernel
theorem dX12_wet_161 : decode cX12_wet 161 = .ok (.i2l, 1) := by decide +kernel
theorem dX12_wet_162 : decode cX12_wet 162 = .ok (.lmul, 1) := by decide +kernel
theorem dX12_wet_163 : decode cX12_wet 163 = .ok (.lastore, 1) := by decide +kernel
theorem dX12_wet_164 : decode cX12_wet 164 = .ok (.lload_n 3, 1) := by decide +kernel
theorem dX12_wet_165 : decode cX12_wet 165 = .ok (.ldc2_w 407, 3) := by decide +kernel
theorem dX12_wet_168 : decode cX12_wet 168 = .ok (.lmul, 1) := by decide +kernel
theorem dX12_wet_169 : decode cX12_wet 169 = .ok (.lstore_n 3, 1) := by decide +kernel
theorem dX12_wet_170 : decode cX12_wet 170 = .ok (.iinc 5 1, 3) := by decide +kernel
theorem dX12_wet_173 : decode cX12_wet 173 = .ok (.goto (-95), 3) := by decide +kernel
theorem dX12_wet_176 : decode cX12_wet 176 = .ok (.lconst 0, 1) := by decide +kernel
theorem dX12_wet_177 : decode cX12_wet 177 = .ok (.lstore 5, 2) := by decide +kernel
theorem dX12_wet_179 : decode cX12_wet 179 = .ok (.iload_n 2, 1) := by decide +kernel
theorem dX12_wet_180 : decode cX12_wet 180 = .ok (.istore 7, 2) := by decide +kernel
theorem dX12_wet_182 : decode cX12_wet 182 = .ok (.iload 7, 2) := by decide +kernel
theorem dX12_wet_184 : decode cX12_wet 184 = .ok (.bipush 12, 2) := by decide +kernel
theorem dX12_wet_186 : decode cX12_wet 186 = .ok (.if_icmp .gt 21, 3) := by decide +kernel
theorem dX12_wet_189 : decode cX12_wet 189 = .ok (.lload 5, 2) := by decide +kernel
theorem dX12_wet_191 : decode cX12_wet 191 = .ok (.aload_n 0, 1) := by decide +kernel
theorem dX12_wet_192 : decode cX12_wet 192 = .ok (.getfield 59, 3) := by decide +kernel
theorem dX12_wet_195 : decode cX12_wet 195 = .ok (.iload 7, 2) := by decide +kernel
theorem dX12_wet_197 : decode cX12_wet 197 = .ok (.laload, 1) := by decide +kernel
theorem dX12_wet_198 : decode cX12_wet 198 = .ok (.ladd, 1) := by decide +kernel
theorem dX12_wet_199 : decode cX12_wet 199 = .ok (.lstore 5, 2) := by decide +kernel
theorem dX12_wet_201 : decode cX12_wet 201 = .ok (.iinc 7 1, 3) := by decide +kernel
theorem dX12_wet_204 : decode cX12_wet 204 = .ok (.goto (-22), 3) := by decide +kernel
theorem dX12_wet_207 : decode cX12_wet 207 = .ok (.aload_n 0, 1) := by decide +kernel
theorem dX12_wet_208 : decode cX12_wet 208 = .ok (.lload 5, 2) := by decide +kernel
theorem dX12_wet_210 : decode cX12_wet 210 = .ok (.lload_n 3, 1) := by decide +kernel
theorem dX12_wet_211 : decode cX12_wet 211 = .ok (.invokevirtual 417, 3) := by decide +kernel
theorem dX12_wet_214 : decode cX12_wet 214 = .ok (.ireturn, 1) := by decide +kernel
theorem dX12_draw_0 : decode cX12_draw 0 = .ok (.aload_n 0, 1) := by decide +kernel
theorem dX12_draw_1 : decode cX12_draw 1 = .ok (.aload_n 0, 1) := by decide +kernel
theorem dX12_draw_2 : decode cX12_draw 2 = .ok (.getfield 518, 3) := by decide +kernel
theorem dX12_draw_5 : decode cX12_draw 5 = .ok (.sipush 2971, 3) := by decide +kernel
theorem dX12_draw_8 : decode cX12_draw 8 = .ok (.imul, 1) := by decide +kernel
theorem dX12_draw_9 : decode cX12_draw 9 = .ok (.sipush 10781, 3) := by decide +kernel
theorem dX12_draw_12 : decode cX12_draw 12 = .ok (.iadd, 1) := by decide +kernel
theorem dX12_draw_13 : decode cX12_draw 13 = .ok (.ldc_w 521, 3) := by decide +kernel
theorem dX12_draw_16 : decode cX12_draw 16 = .ok (.irem, 1) := by decide +kernel
theorem dX12_draw_17 : decode cX12_draw 17 = .ok (.putfield 518, 3) := by decide +kernel
theorem dX12_draw_20 : decode cX12_draw 20 = .ok (.aload_n 0, 1) := by decide +kernel
theorem dX12_draw_21 : decode cX12_draw 21 = .ok (.getfield 518, 3) := by decide +kernel
theorem dX12_draw_24 : decode cX12_draw 24 = .ok (.bipush 8, 2) := by decide +kernel
theorem dX12_draw_26 : decode cX12_draw 26 = .ok (.idiv, 1) := by decide +kernel
theorem dX12_draw_27 : decode cX12_draw 27 = .ok (.iload_n 1, 1) := by decide +kernel
theorem dX12_draw_28 : decode cX12_draw 28 = .ok (.irem, 1) := by decide +kernel
theorem dX12_draw_29 : decode cX12_draw 29 = .ok (.ireturn, 1) := by decide +kernel
theorem dX12_anyHours_0 : decode cX12_anyHours 0 = .ok (.aload_n 0, 1) := by decide +kernel
theorem dX12_anyHours_1 : decode cX12_anyHours 1 = .ok (.getfield 35, 3) := by decide +kernel
theorem dX12_anyHours_4 : decode cX12_anyHours 4 = .ok (.bipush 7, 2) := by decide +kernel
theorem dX12_anyHours_6 : decode cX12_anyHours 6 = .ok (.iaload, 1) := by decide +kernel
theorem dX12_anyHours_7 : decode cX12_anyHours 7 = .ok (.iload_n 1, 1) := by decide +kernel
theorem dX12_anyHours_8 : decode cX12_anyHours 8 = .ok (.iadd, 1) := by decide +kernel
theorem dX12_anyHours_9 : decode cX12_anyHours 9 = .ok (.sipush 9999, 3) := by decide +kernel
theorem dX12_anyHours_12 : decode cX12_anyHours 12 = .ok (.if_icmp .le 5, 3) := by decide +kernel
theorem dX12_anyHours_15 : decode cX12_anyHours 15 = .ok (.iconst 0, 1) := by decide +kernel
theorem dX12_anyHours_16 : decode cX12_anyHours 16 = .ok (.ireturn, 1) := by decide +kernel
theorem dX12_anyHours_17 : decode cX12_anyHours 17 = .ok (.iconst 0, 1) := by decide +kernel
theorem dX12_anyHours_18 : decode cX12_anyHours 18 = .ok (.istore_n 2, 1) := by decide +kernel
theorem dX12_anyHours_19 : decode cX12_anyHours 19 = .ok (.iload_n 2, 1) := by decide +kernel
theorem dX12_anyHours_20 : decode cX12_anyHours 20 = .ok (.iload_n 1, 1) := by decide +kernel
theorem dX12_anyHours_21 : decode cX12_anyHours 21 = .ok (.if_icmp .ge 38, 3) := by decide +kernel
theorem dX12_anyHours_24 : decode cX12_anyHours 24 = .ok (.aload_n 0, 1) := by decide +kernel
theorem dX12_anyHours_25 : decode cX12_anyHours 25 = .ok (.dup, 1) := by decide +kernel
theorem dX12_anyHours_26 : decode cX12_anyHours 26 = .ok (.getfield 522, 3) := by decide +kernel
theorem dX12_anyHours_29 : decode cX12_anyHours 29 = .ok (.aload_n 0, 1) := by decide +kernel
theorem dX12_anyHours_30 : decode cX12_anyHours 30 = .ok (.invokevirtual 399, 3) := by decide +kernel
theorem dX12_anyHours_33 : decode cX12_anyHours 33 = .ok (.iadd, 1) := by decide +kernel
theorem dX12_anyHours_34 : decode cX12_anyHours 34 = .ok (.putfield 522, 3) := by decide +kernel
theorem dX12_anyHours_37 : decode cX12_anyHours 37 = .ok (.aload_n 0, 1) := by decide +kernel
theorem dX12_anyHours_38 : decode cX12_anyHours 38 = .ok (.dup, 1) := by decide +kernel
theorem dX12_anyHours_39 : decode cX12_anyHours 39 = .ok (.getfield 525, 3) := by decide +kernel
theorem dX12_anyHours_42 : decode cX12_anyHours 42 = .ok (.aload_n 0, 1) := by decide +kernel
theorem dX12_anyHours_43 : decode cX12_anyHours 43 = .ok (.getfield 337, 3) := by decide +kernel
theorem dX12_anyHours_46 : decode cX12_anyHours 46 = .ok (.invokestatic 482, 3) := by decide +kernel
theorem dX12_anyHours_49 : decode cX12_anyHours 49 = .ok (.iadd, 1) := by decide +kernel
theorem dX12_anyHours_50 : decode cX12_anyHours 50 = .ok (.putfield 525, 3) := by decide +kernel
theorem dX12_anyHours_53 : decode cX12_anyHours 53 = .ok (.iinc 2 1, 3) := by decide +kernel
theorem dX12_anyHours_56 : decode cX12_anyHours 56 = .ok (.goto (-37), 3) := by decide +kernel
theorem dX12_anyHours_59 : decode cX12_anyHours 59 = .ok (.aload_n 0, 1) := by decide +kernel
theorem dX12_anyHours_60 : decode cX12_anyHours 60 = .ok (.dup, 1) := by decide +kernel
theorem dX12_anyHours_61 : decode cX12_anyHours 61 = .ok (.getfield 528, 3) := by decide +kernel
theorem dX12_anyHours_64 : decode cX12_anyHours 64 = .ok (.iload_n 1, 1) := by decide +kernel
theorem dX12_anyHours_65 : decode cX12_anyHours 65 = .ok (.iadd, 1) := by decide +kernel
theorem dX12_anyHours_66 : decode cX12_anyHours 66 = .ok (.putfield 528, 3) := by decide +kernel
theorem dX12_anyHours_69 : decode cX12_anyHours 69 = .ok (.iconst 1, 1) := by decide +kernel
theorem dX12_anyHours_70 : decode cX12_anyHours 70 = .ok (.ireturn, 1) := by decide +kernel
theorem dX12_isAny_0 : decode cX12_isAny 0 = .ok (.aload_n 0, 1) := by decide +kernel
theorem dX12_isAny_1 : decode cX12_isAny 1 = .ok (.getfield 35, 3) := by decide +kernel
theorem dX12_isAny_4 : decode cX12_isAny 4 = .ok (.bipush 9, 2) := by decide +kernel
theorem dX12_isAny_6 : decode cX12_isAny 6 = .ok (.aload_n 0, 1) := by decide +kernel
theorem dX12_isAny_7 : decode cX12_isAny 7 = .ok (.bipush 16, 2) := by decide +kernel
theorem dX12_isAny_9 : decode cX12_isAny 9 = .ok (.invokevirtual 531, 3) := by decide +kernel
theorem dX12_isAny_12 : decode cX12_isAny 12 = .ok (.aload_n 0, 1) := by decide +kernel
theorem dX12_isAny_13 : decode cX12_isAny 13 = .ok (.getfield 35, 3) := by decide +kernel
theorem dX12_isAny_16 : decode cX12_isAny 16 = .ok (.bipush 6, 2) := by decide +kernel
theorem dX12_isAny_18 : decode cX12_isAny 18 = .ok (.iaload, 1) := by decide +kernel
theorem dX12_isAny_19 : decode cX12_isAny 19 = .ok (.if_icmp .ge 7, 3) := by decide +kernel
theorem dX12_isAny_22 : decode cX12_isAny 22 = .ok (.iconst 1, 1) := by decide +kernel
theorem dX12_isAny_23 : decode cX12_isAny 23 = .ok (.goto 4, 3) := by decide +kernel
theorem dX12_isAny_26 : decode cX12_isAny 26 = .ok (.iconst 0, 1) := by decide +kernel
theorem dX12_isAny_27 : decode cX12_isAny 27 = .ok (.iastore, 1) := by decide +kernel
theorem dX12_isAny_28 : decode cX12_isAny 28 = .ok (.aload_n 0, 1) := by decide +kernel
theorem dX12_isAny_29 : decode cX12_isAny 29 = .ok (.getfield 35, 3) := by decide +kernel
theorem dX12_isAny_32 : decode cX12_isAny 32 = .ok (.bipush 8, 2) := by decide +kernel
theorem dX12_isAny_34 : decode cX12_isAny 34 = .ok (.aload_n 0, 1) := by decide +kernel
theorem dX12_isAny_35 : decode cX12_isAny 35 = .ok (.iconst 5, 1) := by decide +kernel
theorem dX12_isAny_36 : decode cX12_isAny 36 = .ok (.invokevirtual 531, 3) := by decide +kernel
theorem dX12_isAny_39 : decode cX12_isAny 39 = .ok (.iastore, 1) := by decide +kernel
theorem dX12_isAny_40 : decode cX12_isAny 40 = .ok (.iconst 1, 1) := by decide +kernel
theorem dX12_isAny_41 : decode cX12_isAny 41 = .ok (.ireturn, 1) := by decide +kernel
theorem dX12_isSet_0 : decode cX12_isSet 0 = .ok (.iload_n 2, 1) := by decide +kernel
theorem dX12_isSet_1 : decode cX12_isSet 1 = .ok (.aload_n 0, 1) := by decide +kernel
theorem dX12_isSet_2 : decode cX12_isSet 2 = .ok (.getfield 35, 3) := by decide +kernel
theorem dX12_isSet_5 : decode cX12_isSet 5 = .ok (.bipush 64, 2) := by decide +kernel
theorem dX12_isSet_7 : decode cX12_isSet 7 = .ok (.iload_n 1, 1) := by decide +kernel
theorem dX12_isSet_8 : decode cX12_isSet 8 = .ok (.iadd, 1) := by decide +kernel
theorem dX12_isSet_9 : decode cX12_isSet 9 = .ok (.iaload, 1) := by decide +kernel
theorem dX12_isSet_10 : decode cX12_isSet 10 = .ok (.if_icmp .lt 5, 3) := by decide +kernel
theorem dX12_isSet_13 : decode cX12_isSet 13 = .ok (.iconst 0, 1) := by decide +kernel
theorem dX12_isSet_14 : decode cX12_isSet 14 = .ok (.ireturn, 1) := by decide +kernel
theorem dX12_isSet_15 : decode cX12_isSet 15 = .ok (.aload_n 0, 1) := by decide +kernel
theorem dX12_isSet_16 : decode cX12_isSet 16 = .ok (.getfield 35, 3) := by decide +kernel
theorem dX12_isSet_19 : decode cX12_isSet 19 = .ok (.bipush 70, 2) := by decide +kernel
theorem dX12_isSet_21 : decode cX12_isSet 21 = .ok (.bipush 6, 2) := by decide +kernel
theorem dX12_isSet_23 : decode cX12_isSet 23 = .ok (.iload_n 1, 1) := by decide +kernel
theorem dX12_isSet_24 : decode cX12_isSet 24 = .ok (.imul, 1) := by decide +kernel
theorem dX12_isSet_25 : decode cX12_isSet 25 = .ok (.iadd, 1) := by decide +kernel
theorem dX12_isSet_26 : decode cX12_isSet 26 = .ok (.iload_n 2, 1) := by decide +kernel
theorem dX12_isSet_27 : decode cX12_isSet 27 = .ok (.iadd, 1) := by decide +kernel
theorem dX12_isSet_28 : decode cX12_isSet 28 = .ok (.iload_n 3, 1) := by decide +kernel
theorem dX12_isSet_29 : decode cX12_isSet 29 = .ok (.iastore, 1) := by decide +kernel
theorem dX12_isSet_30 : decode cX12_isSet 30 = .ok (.iconst 1, 1) := by decide +kernel
theorem dX12_isSet_31 : decode cX12_isSet 31 = .ok (.ireturn, 1) := by decide +kernel
theorem dX12_does_0 : decode cX12_does 0 = .ok (.aload_n 0, 1) := by decide +kernel
theorem dX12_does_1 : decode cX12_does 1 = .ok (.getfield 35, 3) := by decide +kernel
theorem dX12_does_4 : decode cX12_does 4 = .ok (.iload_n 1, 1) := by decide +kernel
theorem dX12_does_5 : decode cX12_does 5 = .ok (.iaload, 1) := by decide +kernel
theorem dX12_does_6 : decode cX12_does 6 = .ok (.istore_n 2, 1) := by decide +kernel
theorem dX12_does_7 : decode cX12_does 7 = .ok (.iload_n 2, 1) := by decide +kernel
theorem dX12_does_8 : decode cX12_does 8 = .ok (.ifCond .ne 16, 3) := by decide +kernel
theorem dX12_does_11 : decode cX12_does 11 = .ok (.aload_n 0, 1) := by decide +kernel
theorem dX12_does_12 : decode cX12_does 12 = .ok (.aload_n 0, 1) := by decide +kernel
theorem dX12_does_13 : decode cX12_does 13 = .ok (.getfield 35, 3) := by decide +kernel
theorem dX12_does_16 : decode cX12_does 16 = .ok (.iload_n 1, 1) := by decide +kernel
theorem dX12_does_17 : decode cX12_does 17 = .ok (.iconst 1, 1) := by decide +kernel
theorem dX12_does_18 : decode cX12_does 18 = .ok (.iadd, 1) := by decide +kernel
theorem dX12_does_19 : decode cX12_does 19 = .ok (.iaload, 1) := by decide +kernel
theorem dX12_does_20 : decode cX12_does 20 = .ok (.invokevirtual 534, 3) := by decide +kernel
theorem dX12_does_23 : decode cX12_does 23 = .ok (.ireturn, 1) := by decide +kernel
theorem dX12_does_24 : decode cX12_does 24 = .ok (.iload_n 2, 1) := by decide +kernel
theorem dX12_does_25 : decode cX12_does 25 = .ok (.iconst 1, 1) := by decide +kernel
theorem dX12_does_26 : decode cX12_does 26 = .ok (.if_icmp .ne 18, 3) := by decide +kernel
theorem dX12_does_29 : decode cX12_does 29 = .ok (.aload_n 0, 1) := by decide +kernel
theorem dX12_does_30 : decode cX12_does 30 = .ok (.bipush 8, 2) := by decide +kernel
theorem dX12_does_32 : decode cX12_does 32 = .ok (.aload_n 0, 1) := by decide +kernel
theorem dX12_does_33 : decode cX12_does 33 = .ok (.getfield 35, 3) := by decide +kernel
theorem dX12_does_36 : decode cX12_does 36 = .ok (.iload_n 1, 1) := by decide +kernel
theorem dX12_does_37 : decode cX12_does 37 = .ok (.iconst 1, 1) := by decide +kernel
theorem dX12_does_38 : decode cX12_does 38 = .ok (.iadd, 1) := by decide +kernel
theorem dX12_does_39 : decode cX12_does 39 = .ok (.iaload, 1) := by decide +kernel
theorem dX12_does_40 : decode cX12_does 40 = .ok (.invokevirtual 404, 3) := by decide +kernel
theorem dX12_does_43 : decode cX12_does 43 = .ok (.ireturn, 1) := by decide +kernel
theorem dX12_does_44 : decode cX12_does 44 = .ok (.iload_n 2, 1) := by decide +kernel
theorem dX12_does_45 : decode cX12_does 45 = .ok (.iconst 2, 1) := by decide +kernel
theorem dX12_does_46 : decode cX12_does 46 = .ok (.if_icmp .ne 11, 3) := by decide +kernel
theorem dX12_does_49 : decode cX12_does 49 = .ok (.aload_n 0, 1) := by decide +kernel
theorem dX12_does_50 : decode cX12_does 50 = .ok (.bipush 8, 2) := by decide +kernel
theorem dX12_does_52 : decode cX12_does 52 = .ok (.iconst 4, 1) := by decide +kernel
theorem dX12_does_53 : decode cX12_does 53 = .ok (.invokevirtual 404, 3) := by decide +kernel
theorem dX12_does_56 : decode cX12_does 56 = .ok (.ireturn, 1) := by decide +kernel
theorem dX12_does_57 : decode cX12_does 57 = .ok (.iload_n 2, 1) := by decide +kernel
theorem dX12_does_58 : decode cX12_does 58 = .ok (.iconst 5, 1) := by decide +kernel
theorem dX12_does_59 : decode cX12_does 59 = .ok (.if_icmp .ne 32, 3) := by decide +kernel
theorem dX12_does_62 : decode cX12_does 62 = .ok (.aload_n 0, 1) := by decide +kernel
theorem dX12_does_63 : decode cX12_does 63 = .ok (.aload_n 0, 1) := by decide +kernel
theorem dX12_does_64 : decode cX12_does 64 = .ok (.getfield 35, 3) := by decide +kernel
theorem dX12_does_67 : decode cX12_does 67 = .ok (.iload_n 1, 1) := by decide +kernel
theorem dX12_does_68 : decode cX12_does 68 = .ok (.iconst 1, 1) := by decide +kernel
theorem dX12_does_69 : decode cX12_does 69 = .ok (.iadd, 1) := by decide +kernel
theorem dX12_does_70 : decode cX12_does 70 = .ok (.iaload, 1) := by decide +kernel
theorem dX12_does_71 : decode cX12_does 71 = .ok (.aload_n 0, 1) := by decide +kernel
theorem dX12_does_72 : decode cX12_does 72 = .ok (.getfield 35, 3) := by decide +kernel
theorem dX12_does_75 : decode cX12_does 75 = .ok (.iload_n 1, 1) := by decide +kernel
theorem dX12_does_76 : decode cX12_does 76 = .ok (.iconst 2, 1) := by decide +kernel
theorem dX12_does_77 : decode cX12_does 77 = .ok (.iadd, 1) := by decide +kernel
theorem dX12_does_78 : decode cX12_does 78 = .ok (.iaload, 1) := by decide +kernel
theorem dX12_does_79 : decode cX12_does 79 = .ok (.aload_n 0, 1) := by decide +kernel
theorem dX12_does_80 : decode cX12_does 80 = .ok (.getfield 35, 3) := by decide +kernel
theorem dX12_does_83 : decode cX12_does 83 = .ok (.iload_n 1, 1) := by decide +kernel
theorem dX12_does_84 : decode cX12_does 84 = .ok (.iconst 3, 1) := by decide +kernel
theorem dX12_does_85 : decode cX12_does 85 = .ok (.iadd, 1) := by decide +kernel
theorem dX12_does_86 : decode cX12_does 86 = .ok (.iaload, 1) := by decide +kernel
theorem dX12_does_87 : decode cX12_does 87 = .ok (.invokevirtual 537, 3) := by decide +kernel
theorem dX12_does_90 : decode cX12_does 90 = .ok (.ireturn, 1) := by decide +kernel
theorem dX12_does_91 : decode cX12_does 91 = .ok (.iload_n 2, 1) := by decide +kernel
theorem dX12_does_92 : decode cX12_does 92 = .ok (.bipush 6, 2) := by decide +kernel
theorem dX12_does_94 : decode cX12_does 94 = .ok (.if_icmp .ne 10, 3) := by decide +kernel
theorem dX12_does_97 : decode cX12_does 97 = .ok (.aload_n 0, 1) := by decide +kernel
theorem dX12_does_98 : decode cX12_does 98 = .ok (.invokevirtual 540, 3) := by decide +kernel
theorem dX12_does_101 : decode cX12_does 101 = .ok (.goto 19, 3) := by decide +kernel
theorem dX12_does_104 : decode cX12_does 104 = .ok (.aload_n 0, 1) := by decide +kernel
theorem dX12_does_105 : decode cX12_does 105 = .ok (.bipush 9, 2) := by decide +kernel
theorem dX12_does_107 : decode cX12_does 107 = .ok (.iload_n 2, 1) := by decide +kernel
theorem dX12_does_108 : decode cX12_does 108 = .ok (.iconst 3, 1) := by decide +kernel
theorem dX12_does_109 : decode cX12_does 109 = .ok (.if_icmp .ne 7, 3) := by decide +kernel
theorem dX12_does_112 : decode cX12_does 112 = .ok (.iconst 1, 1) := by decide +kernel
theorem dX12_does_113 : decode cX12_does 113 = .ok (.goto 4, 3) := by decide +kernel
theorem dX12_does_116 : decode cX12_does 116 = .ok (.iconst 0, 1) := by decide +kernel
theorem dX12_does_117 : decode cX12_does 117 = .ok (.invokevirtual 404, 3) := by decide +kernel
theorem dX12_does_120 : decode cX12_does 120 = .ok (.ireturn, 1) := by decide +kernel
theorem dX12_isTrue_0 : decode cX12_isTrue 0 = .ok (.aload_n 0, 1) := by decide +kernel
theorem dX12_isTrue_1 : decode cX12_isTrue 1 = .ok (.getfield 35, 3) := by decide +kernel
theorem dX12_isTrue_4 : decode cX12_isTrue 4 = .ok (.iload_n 1, 1) := by decide +kernel
theorem dX12_isTrue_5 : decode cX12_isTrue 5 = .ok (.bipush 6, 2) := by decide +kernel
theorem dX12_isTrue_7 : decode cX12_isTrue 7 = .ok (.iadd, 1) := by decide +kernel
theorem dX12_isTrue_8 : decode cX12_isTrue 8 = .ok (.iaload, 1) := by decide +kernel
theorem dX12_isTrue_9 : decode cX12_isTrue 9 = .ok (.istore_n 2, 1) := by decide +kernel
theorem dX12_isTrue_10 : decode cX12_isTrue 10 = .ok (.iload_n 2, 1) := by decide +kernel
theorem dX12_isTrue_11 : decode cX12_isTrue 11 = .ok (.iconst 2, 1) := by decide +kernel
theorem dX12_isTrue_12 : decode cX12_isTrue 12 = .ok (.if_icmp .ne 20, 3) := by decide +kernel
theorem dX12_isTrue_15 : decode cX12_isTrue 15 = .ok (.aload_n 0, 1) := by decide +kernel
theorem dX12_isTrue_16 : decode cX12_isTrue 16 = .ok (.getfield 35, 3) := by decide +kernel
theorem dX12_isTrue_19 : decode cX12_isTrue 19 = .ok (.bipush 9, 2) := by decide +kernel
theorem dX12_isTrue_21 : decode cX12_isTrue 21 = .ok (.iaload, 1) := by decide +kernel
theorem dX12_isTrue_22 : decode cX12_isTrue 22 = .ok (.iconst 1, 1) := by decide +kernel
theorem dX12_isTrue_23 : decode cX12_isTrue 23 = .ok (.if_icmp .ne 7, 3) := by decide +kernel
theorem dX12_isTrue_26 : decode cX12_isTrue 26 = .ok (.iconst 1, 1) := by decide +kernel
theorem dX12_isTrue_27 : decode cX12_isTrue 27 = .ok (.goto 4, 3) := by decide +kernel
theorem dX12_isTrue_30 : decode cX12_isTrue 30 = .ok (.iconst 0, 1) := by decide +kernel
theorem dX12_isTrue_31 : decode cX12_isTrue 31 = .ok (.ireturn, 1) := by decide +kernel
theorem dX12_isTrue_32 : decode cX12_isTrue 32 = .ok (.aload_n 0, 1) := by decide +kernel
theorem dX12_isTrue_33 : decode cX12_isTrue 33 = .ok (.invokevirtual 366, 3) := by decide +kernel
theorem dX12_isTrue_36 : decode cX12_isTrue 36 = .ok (.iload_n 2, 1) := by decide +kernel
theorem dX12_isTrue_37 : decode cX12_isTrue 37 = .ok (.iconst 1, 1) := by decide +kernel
theorem dX12_isTrue_38 : decode cX12_isTrue 38 = .ok (.if_icmp .ne 19, 3) := by decide +kernel
theorem dX12_isTrue_41 : decode cX12_isTrue 41 = .ok (.aload_n 0, 1) := by decide +kernel
theorem dX12_isTrue_42 : decode cX12_isTrue 42 = .ok (.getfield 337, 3) := by decide +kernel
theorem dX12_isTrue_45 : decode cX12_isTrue 45 = .ok (.aload_n 0, 1) := by decide +kernel
theorem dX12_isTrue_46 : decode cX12_isTrue 46 = .ok (.getfield 35, 3) := by decide +kernel
theorem dX12_isTrue_49 : decode cX12_isTrue 49 = .ok (.iload_n 1, 1) := by decide +kernel
theorem dX12_isTrue_50 : decode cX12_isTrue 50 = .ok (.iconst 1, 1) := by decide +kernel
theorem dX12_isTrue_51 : decode cX12_isTrue 51 = .ok (.iadd, 1) := by decide +kernel
theorem dX12_isTrue_52 : decode cX12_isTrue 52 = .ok (.iaload, 1) := by decide +kernel
theorem dX12_isTrue_53 : decode cX12_isTrue 53 = .ok (.invokestatic 108, 3) := by decide +kernel
theorem dX12_isTrue_56 : decode cX12_isTrue 56 = .ok (.ireturn, 1) := by decide +kernel
theorem dX12_isTrue_57 : decode cX12_isTrue 57 = .ok (.aload_n 0, 1) := by decide +kernel
theorem dX12_isTrue_58 : decode cX12_isTrue 58 = .ok (.aload_n 0, 1) := by decide +kernel
theorem dX12_isTrue_59 : decode cX12_isTrue 59 = .ok (.getfield 35, 3) := by decide +kernel
theorem dX12_isTrue_62 : decode cX12_isTrue 62 = .ok (.iload_n 1, 1) := by decide +kernel
theorem dX12_isTrue_63 : decode cX12_isTrue 63 = .ok (.iconst 1, 1) := by decide +kernel
theorem dX12_isTrue_64 : decode cX12_isTrue 64 = .ok (.iadd, 1) := by decide +kernel
theorem dX12_isTrue_65 : decode cX12_isTrue 65 = .ok (.iaload, 1) := by decide +kernel
theorem dX12_isTrue_66 : decode cX12_isTrue 66 = .ok (.invokevirtual 372, 3) := by decide +kernel
theorem dX12_isTrue_69 : decode cX12_isTrue 69 = .ok (.istore_n 3, 1) := by decide +kernel
theorem dX12_isTrue_70 : decode cX12_isTrue 70 = .ok (.aload_n 0, 1) := by decide +kernel
theorem dX12_isTrue_71 : decode cX12_isTrue 71 = .ok (.getfield 35, 3) := by decide +kernel
theorem dX12_isTrue_74 : decode cX12_isTrue 74 = .ok (.iload_n 1, 1) := by decide +kernel
theorem dX12_isTrue_75 : decode cX12_isTrue 75 = .ok (.bipush 7, 2) := by decide +kernel
theorem dX12_isTrue_77 : decode cX12_isTrue 77 = .ok (.iadd, 1) := by decide +kernel
theorem dX12_isTrue_78 : decode cX12_isTrue 78 = .ok (.iaload, 1) := by decide +kernel
theorem dX12_isTrue_79 : decode cX12_isTrue 79 = .ok (.bipush 60, 2) := by decide +kernel
theorem dX12_isTrue_81 : decode cX12_isTrue 81 = .ok (.if_icmp .ne 23, 3) := by decide +kernel
theorem dX12_isTrue_84 : decode cX12_isTrue 84 = .ok (.iload_n 3, 1) := by decide +kernel
theorem dX12_isTrue_85 : decode cX12_isTrue 85 = .ok (.aload_n 0, 1) := by decide +kernel
theorem dX12_isTrue_86 : decode cX12_isTrue 86 = .ok (.getfield 35, 3) := by decide +kernel
theorem dX12_isTrue_89 : decode cX12_isTrue 89 = .ok (.iload_n 1, 1) := by decide +kernel
theorem dX12_isTrue_90 : decode cX12_isTrue 90 = .ok (.iconst 2, 1) := by decide +kernel
theorem dX12_isTrue_91 : decode cX12_isTrue 91 = .ok (.iadd, 1) := by decide +kernel
theorem dX12_isTrue_92 : decode cX12_isTrue 92 = .ok (.iaload, 1) := by decide +kernel
theorem dX12_isTrue_93 : decode cX12_isTrue 93 = .ok (.if_icmp .ge 7, 3) := by decide +kernel
theorem dX12_isTrue_96 : decode cX12_isTrue 96 = .ok (.iconst 1, 1) := by decide +kernel
theorem dX12_isTrue_97 : decode cX12_isTrue 97 = .ok (.goto 58, 3) := by decide +kernel
theorem dX12_isTrue_100 : decode cX12_isTrue 100 = .ok (.iconst 0, 1) := by decide +kernel
theorem dX12_isTrue_101 : decode cX12_isTrue 101 = .ok (.goto 54, 3) := by decide +kernel
theorem dX12_isTrue_104 : decode cX12_isTrue 104 = .ok (.aload_n 0, 1) := by decide +kernel
theorem dX12_isTrue_105 : decode cX12_isTrue 105 = .ok (.getfield 35, 3) := by decide +kernel
theorem dX12_isTrue_108 : decode cX12_isTrue 108 = .ok (.iload_n 1, 1) := by decide +kernel
theorem dX12_isTrue_109 : decode cX12_isTrue 109 = .ok (.bipush 7, 2) := by decide +kernel
theorem dX12_isTrue_111 : decode cX12_isTrue 111 = .ok (.iadd, 1) := by decide +kernel
theorem dX12_isTrue_112 : decode cX12_isTrue 112 = .ok (.iaload, 1) := by decide +kernel
theorem dX12_isTrue_113 : decode cX12_isTrue 113 = .ok (.bipush 62, 2) := by decide +kernel
theorem dX12_isTrue_115 : decode cX12_isTrue 115 = .ok (.if_icmp .ne 23, 3) := by decide +kernel
theorem dX12_isTrue_118 : decode cX12_isTrue 118 = .ok (.iload_n 3, 1) := by decide +kernel
theorem dX12_isTrue_119 : decode cX12_isTrue 119 = .ok (.aload_n 0, 1) := by decide +kernel
theorem dX12_isTrue_120 : decode cX12_isTrue 120 = .ok (.getfield 35, 3) := by decide +kernel
theorem dX12_isTrue_123 : decode cX12_isTrue 123 = .ok (.iload_n 1, 1) := by decide +kernel
theorem dX12_isTrue_124 : decode cX12_isTrue 124 = .ok (.iconst 2, 1) := by decide +kernel
theorem dX12_isTrue_125 : decode cX12_isTrue 125 = .ok (.iadd, 1) := by decide +kernel
theorem dX12_isTrue_126 : decode cX12_isTrue 126 = .ok (.iaload, 1) := by decide +kernel
theorem dX12_isTrue_127 : decode cX12_isTrue 127 = .ok (.if_icmp .le 7, 3) := by decide +kernel
theorem dX12_isTrue_130 : decode cX12_isTrue 130 = .ok (.iconst 1, 1) := by decide +kernel
theorem dX12_isTrue_131 : decode cX12_isTrue 131 = .ok (.goto 24, 3) := by decide +kernel
theorem dX12_isTrue_134 : decode cX12_isTrue 134 = .ok (.iconst 0, 1) := by decide +kernel
theorem dX12_isTrue_135 : decode cX12_isTrue 135 = .ok (.goto 20, 3) := by decide +kernel
theorem dX12_isTrue_138 : decode cX12_isTrue 138 = .ok (.iload_n 3, 1) := by decide +kernel
theorem dX12_isTrue_139 : decode cX12_isTrue 139 = .ok (.aload_n 0, 1) := by decide +kernel
theorem dX12_isTrue_140 : decode cX12_isTrue 140 = .ok (.getfield 35, 3) := by decide +kernel
theorem dX12_isTrue_143 : decode cX12_isTrue 143 = .ok (.iload_n 1, 1) := by decide +kernel
theorem dX12_isTrue_144 : decode cX12_isTrue 144 = .ok (.iconst 2, 1) := by decide +kernel
theorem dX12_isTrue_145 : decode cX12_isTrue 145 = .ok (.iadd, 1) := by decide +kernel
theorem dX12_isTrue_146 : decode cX12_isTrue 146 = .ok (.iaload, 1) := by decide +kernel
theorem dX12_isTrue_147 : decode cX12_isTrue 147 = .ok (.if_icmp .ne 7, 3) := by decide +kernel
theorem dX12_isTrue_150 : decode cX12_isTrue 150 = .ok (.iconst 1, 1) := by decide +kernel
theorem dX12_isTrue_151 : decode cX12_isTrue 151 = .ok (.goto 4, 3) := by decide +kernel
theorem dX12_isTrue_154 : decode cX12_isTrue 154 = .ok (.iconst 0, 1) := by decide +kernel
theorem dX12_isTrue_155 : decode cX12_isTrue 155 = .ok (.ireturn, 1) := by decide +kernel
theorem dX12_doOne_0 : decode cX12_doOne 0 = .ok (.aload_n 0, 1) := by decide +kernel
theorem dX12_doOne_1 : decode cX12_doOne 1 = .ok (.getfield 543, 3) := by decide +kernel
theorem dX12_doOne_4 : decode cX12_doOne 4 = .ok (.sipush 300, 3) := by decide +kernel
theorem dX12_doOne_7 : decode cX12_doOne 7 = .ok (.if_icmp .ne 14, 3) := by decide +kernel
theorem dX12_doOne_10 : decode cX12_doOne 10 = .ok (.aload_n 0, 1) := by decide +kernel
theorem dX12_doOne_11 : decode cX12_doOne 11 = .ok (.iconst 1, 1) := by decide +kernel
theorem dX12_doOne_12 : decode cX12_doOne 12 = .ok (.putfield 546, 3) := by decide +kernel
theorem dX12_doOne_15 : decode cX12_doOne 15 = .ok (.aload_n 0, 1) := by decide +kernel
theorem dX12_doOne_16 : decode cX12_doOne 16 = .ok (.iconst 1, 1) := by decide +kernel
theorem dX12_doOne_17 : decode cX12_doOne 17 = .ok (.putfield 550, 3) := by decide +kernel
theorem dX12_doOne_20 : decode cX12_doOne 20 = .ok (.return_, 1) := by decide +kernel
theorem dX12_doOne_21 : decode cX12_doOne 21 = .ok (.aload_n 0, 1) := by decide +kernel
theorem dX12_doOne_22 : decode cX12_doOne 22 = .ok (.dup, 1) := by decide +kernel
theorem dX12_doOne_23 : decode cX12_doOne 23 = .ok (.getfield 543, 3) := by decide +kernel
theorem dX12_doOne_26 : decode cX12_doOne 26 = .ok (.iconst 1, 1) := by decide +kernel
theorem dX12_doOne_27 : decode cX12_doOne 27 = .ok (.iadd, 1) := by decide +kernel
theorem dX12_doOne_28 : decode cX12_doOne 28 = .ok (.putfield 543, 3) := by decide +kernel
theorem dX12_doOne_31 : decode cX12_doOne 31 = .ok (.sipush 138, 3) := by decide +kernel
theorem dX12_doOne_34 : decode cX12_doOne 34 = .ok (.bipush 9, 2) := by decide +kernel
theorem dX12_doOne_36 : decode cX12_doOne 36 = .ok (.iload_n 1, 1) := by decide +kernel
theorem dX12_doOne_37 : decode cX12_doOne 37 = .ok (.imul, 1) := by decide +kernel
theorem dX12_doOne_38 : decode cX12_doOne 38 = .ok (.iadd, 1) := by decide +kernel
theorem dX12_doOne_39 : decode cX12_doOne 39 = .ok (.istore_n 2, 1) := by decide +kernel
theorem dX12_doOne_40 : decode cX12_doOne 40 = .ok (.aload_n 0, 1) := by decide +kernel
theorem dX12_doOne_41 : decode cX12_doOne 41 = .ok (.getfield 35, 3) := by decide +kernel
theorem dX12_doOne_44 : decode cX12_doOne 44 = .ok (.iload_n 2, 1) := by decide +kernel
theorem dX12_doOne_45 : decode cX12_doOne 45 = .ok (.iaload, 1) := by decide +kernel
theorem dX12_doOne_46 : decode cX12_doOne 46 = .ok (.istore_n 3, 1) := by decide +kernel
theorem dX12_doOne_47 : decode cX12_doOne 47 = .ok (.iload_n 3, 1) := by decide +kernel
theorem dX12_doOne_48 : decode cX12_doOne 48 = .ok (.bipush 7, 2) := by decide +kernel
theorem dX12_doOne_50 : decode cX12_doOne 50 = .ok (.if_icmp .ge 28, 3) := by decide +kernel
theorem dX12_doOne_53 : decode cX12_doOne 53 = .ok (.aload_n 0, 1) := by decide +kernel
theorem dX12_doOne_54 : decode cX12_doOne 54 = .ok (.dup, 1) := by decide +kernel
theorem dX12_doOne_55 : decode cX12_doOne 55 = .ok (.getfield 553, 3) := by decide +kernel
theorem dX12_doOne_58 : decode cX12_doOne 58 = .ok (.aload_n 0, 1) := by decide +kernel
theorem dX12_doOne_59 : decode cX12_doOne 59 = .ok (.iload_n 2, 1) := by decide +kernel
theorem dX12_doOne_60 : decode cX12_doOne 60 = .ok (.invokevirtual 556, 3) := by decide +kernel
theorem dX12_doOne_63 : decode cX12_doOne 63 = .ok (.ifCond .eq 7, 3) := by decide +kernel
theorem dX12_doOne_66 : decode cX12_doOne 66 = .ok (.iconst 0, 1) := by decide +kernel
theorem dX12_doOne_67 : decode cX12_doOne 67 = .ok (.goto 4, 3) := by decide +kernel
theorem dX12_doOne_70 : decode cX12_doOne 70 = .ok (.iconst 1, 1) := by decide +kernel
theorem dX12_doOne_71 : decode cX12_doOne 71 = .ok (.iadd, 1) := by decide +kernel
theorem dX12_doOne_72 : decode cX12_doOne 72 = .ok (.putfield 553, 3) := by decide +kernel
theorem dX12_doOne_75 : decode cX12_doOne 75 = .ok (.goto 101, 3) := by decide +kernel
theorem dX12_doOne_78 : decode cX12_doOne 78 = .ok (.iload_n 3, 1) := by decide +kernel
theorem dX12_doOne_79 : decode cX12_doOne 79 = .ok (.bipush 7, 2) := by decide +kernel
theorem dX12_doOne_81 : decode cX12_doOne 81 = .ok (.if_icmp .ne 30, 3) := by decide +kernel
theorem dX12_doOne_84 : decode cX12_doOne 84 = .ok (.aload_n 0, 1) := by decide +kernel
theorem dX12_doOne_85 : decode cX12_doOne 85 = .ok (.iload_n 2, 1) := by decide +kernel
theorem dX12_doOne_86 : decode cX12_doOne 86 = .ok (.invokevirtual 559, 3) := by decide +kernel
theorem dX12_doOne_89 : decode cX12_doOne 89 = .ok (.ifCond .eq 22, 3) := by decide +kernel
theorem dX12_doOne_92 : decode cX12_doOne 92 = .ok (.aload_n 0, 1) := by decide +kernel
theorem dX12_doOne_93 : decode cX12_doOne 93 = .ok (.iload_n 1, 1) := by decide +kernel
theorem dX12_doOne_94 : decode cX12_doOne 94 = .ok (.iconst 1, 1) := by decide +kernel
theorem dX12_doOne_95 : decode cX12_doOne 95 = .ok (.iadd, 1) := by decide +kernel
theorem dX12_doOne_96 : decode cX12_doOne 96 = .ok (.aload_n 0, 1) := by decide +kernel
theorem dX12_doOne_97 : decode cX12_doOne 97 = .ok (.getfield 35, 3) := by decide +kernel
theorem dX12_doOne_100 : decode cX12_doOne 100 = .ok (.iload_n 2, 1) := by decide +kernel
theorem dX12_doOne_101 : decode cX12_doOne 101 = .ok (.bipush 8, 2) := by decide +kernel
theorem dX12_doOne_103 : decode cX12_doOne 103 = .ok (.iadd, 1) := by decide +kernel
theorem dX12_doOne_104 : decode cX12_doOne 104 = .ok (.iaload, 1) := by decide +kernel
theorem dX12_doOne_105 : decode cX12_doOne 105 = .ok (.invokevirtual 562, 3) := by decide +kernel
theorem dX12_doOne_108 : decode cX12_doOne 108 = .ok (.goto 68, 3) := by decide +kernel
theorem dX12_doOne_111 : decode cX12_doOne 111 = .ok (.iload_n 3, 1) := by decide +kernel
theorem dX12_doOne_112 : decode cX12_doOne 112 = .ok (.bipush 8, 2) := by decide +kernel
theorem dX12_doOne_114 : decode cX12_doOne 114 = .ok (.if_icmp .ne 51, 3) := by decide +kernel
theorem dX12_doOne_117 : decode cX12_doOne 117 = .ok (.iconst 0, 1) := by decide +kernel
theorem dX12_doOne_118 : decode cX12_doOne 118 = .ok (.istore 4, 2) := by decide +kernel
theorem dX12_doOne_120 : decode cX12_doOne 120 = .ok (.iload 4, 2) := by decide +kernel
theorem dX12_doOne_122 : decode cX12_doOne 122 = .ok (.aload_n 0, 1) := by decide +kernel
theorem dX12_doOne_123 : decode cX12_doOne 123 = .ok (.getfield 35, 3) := by decide +kernel
theorem dX12_doOne_126 : decode cX12_doOne 126 = .ok (.iload_n 2, 1) := by decide +kernel
theorem dX12_doOne_127 : decode cX12_doOne 127 = .ok (.iconst 1, 1) := by decide +kernel
theorem dX12_doOne_128 : decode cX12_doOne 128 = .ok (.iadd, 1) := by decide +kernel
theorem dX12_doOne_129 : decode cX12_doOne 129 = .ok (.iaload, 1) := by decide +kernel
theorem dX12_doOne_130 : decode cX12_doOne 130 = .ok (.if_icmp .ge 32, 3) := by decide +kernel
theorem dX12_doOne_133 : decode cX12_doOne 133 = .ok (.aload_n 0, 1) := by decide +kernel
theorem dX12_doOne_134 : decode cX12_doOne 134 = .ok (.getfield 546, 3) := by decide +kernel
theorem dX12_doOne_137 : decode cX12_doOne 137 = .ok (.ifCond .ne 25, 3) := by decide +kernel
theorem dX12_doOne_140 : decode cX12_doOne 140 = .ok (.aload_n 0, 1) := by decide +kernel
theorem dX12_doOne_141 : decode cX12_doOne 141 = .ok (.iload_n 1, 1) := by decide +kernel
theorem dX12_doOne_142 : decode cX12_doOne 142 = .ok (.iconst 1, 1) := by decide +kernel
theorem dX12_doOne_143 : decode cX12_doOne 143 = .ok (.iadd, 1) := by decide +kernel
theorem dX12_doOne_144 : decode cX12_doOne 144 = .ok (.aload_n 0, 1) := by decide +kernel
theorem dX12_doOne_145 : decode cX12_doOne 145 = .ok (.getfield 35, 3) := by decide +kernel
theorem dX12_doOne_148 : decode cX12_doOne 148 = .ok (.iload_n 2, 1) := by decide +kernel
theorem dX12_doOne_149 : decode cX12_doOne 149 = .ok (.bipush 8, 2) := by decide +kernel
theorem dX12_doOne_151 : decode cX12_doOne 151 = .ok (.iadd, 1) := by decide +kernel
theorem dX12_doOne_152 : decode cX12_doOne 152 = .ok (.iaload, 1) := by decide +kernel
theorem dX12_doOne_153 : decode cX12_doOne 153 = .ok (.invokevirtual 562, 3) := by decide +kernel
theorem dX12_doOne_156 : decode cX12_doOne 156 = .ok (.iinc 4 1, 3) := by decide +kernel
theorem dX12_doOne_159 : decode cX12_doOne 159 = .ok (.goto (-39), 3) := by decide +kernel
theorem dX12_doOne_162 : decode cX12_doOne 162 = .ok (.goto 14, 3) := by decide +kernel
theorem dX12_doOne_165 : decode cX12_doOne 165 = .ok (.iload_n 3, 1) := by decide +kernel
theorem dX12_doOne_166 : decode cX12_doOne 166 = .ok (.bipush 8, 2) := by decide +kernel
theorem dX12_doOne_168 : decode cX12_doOne 168 = .ok (.if_icmp .le 8, 3) := by decide +kernel
theorem dX12_doOne_171 : decode cX12_doOne 171 = .ok (.aload_n 0, 1) := by decide +kernel
theorem dX12_doOne_172 : decode cX12_doOne 172 = .ok (.iconst 1, 1) := by decide +kernel
theorem dX12_doOne_173 : decode cX12_doOne 173 = .ok (.putfield 546, 3) := by decide +kernel
theorem dX12_doOne_176 : decode cX12_doOne 176 = .ok (.return_, 1) := by decide +kernel
theorem dX12_doAll_0 : decode cX12_doAll 0 = .ok (.iload_n 1, 1) := by decide +kernel
theorem dX12_doAll_1 : decode cX12_doAll 1 = .ok (.istore_n 3, 1) := by decide +kernel
theorem dX12_doAll_2 : decode cX12_doAll 2 = .ok (.iload_n 3, 1) := by decide +kernel
theorem dX12_doAll_3 : decode cX12_doAll 3 = .ok (.iload_n 2, 1) := by decide +kernel
theorem dX12_doAll_4 : decode cX12_doAll 4 = .ok (.if_icmp .ge 35, 3) := by decide +kernel
theorem dX12_doAll_7 : decode cX12_doAll 7 = .ok (.aload_n 0, 1) := by decide +kernel
theorem dX12_doAll_8 : decode cX12_doAll 8 = .ok (.getfield 546, 3) := by decide +kernel
theorem dX12_doAll_11 : decode cX12_doAll 11 = .ok (.ifCond .ne 28, 3) := by decide +kernel
theorem dX12_doAll_14 : decode cX12_doAll 14 = .ok (.aload_n 0, 1) := by decide +kernel
theorem dX12_doAll_15 : decode cX12_doAll 15 = .ok (.iload_n 3, 1) := by decide +kernel
theorem dX12_doAll_16 : decode cX12_doAll 16 = .ok (.invokevirtual 565, 3) := by decide +kernel
theorem dX12_doAll_19 : decode cX12_doAll 19 = .ok (.aload_n 0, 1) := by decide +kernel
theorem dX12_doAll_20 : decode cX12_doAll 20 = .ok (.getfield 35, 3) := by decide +kernel
theorem dX12_doAll_23 : decode cX12_doAll 23 = .ok (.sipush 138, 3) := by decide +kernel
theorem dX12_doAll_26 : decode cX12_doAll 26 = .ok (.bipush 9, 2) := by decide +kernel
theorem dX12_doAll_28 : decode cX12_doAll 28 = .ok (.iload_n 3, 1) := by decide +kernel
theorem dX12_doAll_29 : decode cX12_doAll 29 = .ok (.imul, 1) := by decide +kernel
theorem dX12_doAll_30 : decode cX12_doAll 30 = .ok (.iadd, 1) := by decide +kernel
theorem dX12_doAll_31 : decode cX12_doAll 31 = .ok (.bipush 8, 2) := by decide +kernel
theorem dX12_doAll_33 : decode cX12_doAll 33 = .ok (.iadd, 1) := by decide +kernel
theorem dX12_doAll_34 : decode cX12_doAll 34 = .ok (.iaload, 1) := by decide +kernel
theorem dX12_doAll_35 : decode cX12_doAll 35 = .ok (.istore_n 3, 1) := by decide +kernel
theorem dX12_doAll_36 : decode cX12_doAll 36 = .ok (.goto (-34), 3) := by decide +kernel
theorem dX12_doAll_39 : decode cX12_doAll 39 = .ok (.return_, 1) := by decide +kernel
theorem dX12_runsSteps_0 : decode cX12_runsSteps 0 = .ok (.aload_n 0, 1) := by decide +kernel
theorem dX12_runsSteps_1 : decode cX12_runsSteps 1 = .ok (.iload_n 1, 1) := by decide +kernel
theorem dX12_runsSteps_2 : decode cX12_runsSteps 2 = .ok (.putfield 518, 3) := by decide +kernel
theorem dX12_runsSteps_5 : decode cX12_runsSteps 5 = .ok (.aload_n 0, 1) := by decide +kernel
theorem dX12_runsSteps_6 : decode cX12_runsSteps 6 = .ok (.iconst 0, 1) := by decide +kernel
theorem dX12_runsSteps_7 : decode cX12_runsSteps 7 = .ok (.putfield 543, 3) := by decide +kernel
theorem dX12_runsSteps_10 : decode cX12_runsSteps 10 = .ok (.aload_n 0, 1) := by decide +kernel
theorem dX12_runsSteps_11 : decode cX12_runsSteps 11 = .ok (.iconst 0, 1) := by decide +kernel
theorem dX12_runsSteps_12 : decode cX12_runsSteps 12 = .ok (.putfield 553, 3) := by decide +kernel
theorem dX12_runsSteps_15 : decode cX12_runsSteps 15 = .ok (.aload_n 0, 1) := by decide +kernel
theorem dX12_runsSteps_16 : decode cX12_runsSteps 16 = .ok (.iconst 0, 1) := by decide +kernel
theorem dX12_runsSteps_17 : decode cX12_runsSteps 17 = .ok (.putfield 528, 3) := by decide +kernel
theorem dX12_runsSteps_20 : decode cX12_runsSteps 20 = .ok (.aload_n 0, 1) := by decide +kernel
theorem dX12_runsSteps_21 : decode cX12_runsSteps 21 = .ok (.iconst 0, 1) := by decide +kernel
theorem dX12_runsSteps_22 : decode cX12_runsSteps 22 = .ok (.putfield 522, 3) := by decide +kernel
theorem dX12_runsSteps_25 : decode cX12_runsSteps 25 = .ok (.aload_n 0, 1) := by decide +kernel
theorem dX12_runsSteps_26 : decode cX12_runsSteps 26 = .ok (.iconst 0, 1) := by decide +kernel
theorem dX12_runsSteps_27 : decode cX12_runsSteps 27 = .ok (.putfield 525, 3) := by decide +kernel
theorem dX12_runsSteps_30 : decode cX12_runsSteps 30 = .ok (.aload_n 0, 1) := by decide +kernel
theorem dX12_runsSteps_31 : decode cX12_runsSteps 31 = .ok (.iconst 0, 1) := by decide +kernel
theorem dX12_runsSteps_32 : decode cX12_runsSteps 32 = .ok (.putfield 550, 3) := by decide +kernel
theorem dX12_runsSteps_35 : decode cX12_runsSteps 35 = .ok (.aload_n 0, 1) := by decide +kernel
theorem dX12_runsSteps_36 : decode cX12_runsSteps 36 = .ok (.iconst 0, 1) := by decide +kernel
theorem dX12_runsSteps_37 : decode cX12_runsSteps 37 = .ok (.putfield 546, 3) := by decide +kernel
theorem dX12_runsSteps_40 : decode cX12_runsSteps 40 = .ok (.aload_n 0, 1) := by decide +kernel
theorem dX12_runsSteps_41 : decode cX12_runsSteps 41 = .ok (.iconst 0, 1) := by decide +kernel
theorem dX12_runsSteps_42 : decode cX12_runsSteps 42 = .ok (.aload_n 0, 1) := by decide +kernel
theorem dX12_runsSteps_43 : decode cX12_runsSteps 43 = .ok (.getfield 35, 3) := by decide +kernel
theorem dX12_runsSteps_46 : decode cX12_runsSteps 46 = .ok (.sipush 137, 3) := by decide +kernel
theorem dX12_runsSteps_49 : decode cX12_runsSteps 49 = .ok (.iaload, 1) := by decide +kernel
theorem dX12_runsSteps_50 : decode cX12_runsSteps 50 = .ok (.invokevirtual 562, 3) := by decide +kernel
theorem dX12_runsSteps_53 : decode cX12_runsSteps 53 = .ok (.return_, 1) := by decide +kernel
theorem dX12_live_0 : decode cX12_live 0 = .ok (.aload_n 0, 1) := by decide +kernel
theorem dX12_live_1 : decode cX12_live 1 = .ok (.iconst 0, 1) := by decide +kernel
theorem dX12_live_2 : decode cX12_live 2 = .ok (.putfield 69, 3) := by decide +kernel
theorem dX12_live_5 : decode cX12_live 5 = .ok (.aload_n 0, 1) := by decide +kernel
theorem dX12_live_6 : decode cX12_live 6 = .ok (.iconst 0, 1) := by decide +kernel
theorem dX12_live_7 : decode cX12_live 7 = .ok (.putfield 72, 3) := by decide +kernel
theorem dX12_live_10 : decode cX12_live 10 = .ok (.iload_n 1, 1) := by decide +kernel
theorem dX12_live_11 : decode cX12_live 11 = .ok (.i2l, 1) := by decide +kernel
theorem dX12_live_12 : decode cX12_live 12 = .ok (.lconst 0, 1) := by decide +kernel
theorem dX12_live_13 : decode cX12_live 13 = .ok (.ldc2_w 568, 3) := by decide +kernel
theorem dX12_live_16 : decode cX12_live 16 = .ok (.invokestatic 104, 3) := by decide +kernel
theorem dX12_live_19 : decode cX12_live 19 = .ok (.ifCond .ne 9, 3) := by decide +kernel
theorem dX12_live_22 : decode cX12_live 22 = .ok (.aload_n 0, 1) := by decide +kernel
theorem dX12_live_23 : decode cX12_live 23 = .ok (.iconst 5, 1) := by decide +kernel
theorem dX12_live_24 : decode cX12_live 24 = .ok (.invokevirtual 363, 3) := by decide +kernel
theorem dX12_live_27 : decode cX12_live 27 = .ok (.ireturn, 1) := by decide +kernel
theorem dX12_live_28 : decode cX12_live 28 = .ok (.aload_n 0, 1) := by decide +kernel
theorem dX12_live_29 : decode cX12_live 29 = .ok (.getfield 35, 3) := by decide +kernel
theorem dX12_live_32 : decode cX12_live 32 = .ok (.sipush 136, 3) := by decide +kernel
theorem dX12_live_35 : decode cX12_live 35 = .ok (.iaload, 1) := by decide +kernel
theorem dX12_live_36 : decode cX12_live 36 = .ok (.ifCond .ne 10, 3) := by decide +kernel
theorem dX12_live_39 : decode cX12_live 39 = .ok (.aload_n 0, 1) := by decide +kernel
theorem dX12_live_40 : decode cX12_live 40 = .ok (.bipush 8, 2) := by decide +kernel
theorem dX12_live_42 : decode cX12_live 42 = .ok (.invokevirtual 363, 3) := by decide +kernel
theorem dX12_live_45 : decode cX12_live 45 = .ok (.ireturn, 1) := by decide +kernel
theorem dX12_live_46 : decode cX12_live 46 = .ok (.aload_n 0, 1) := by decide +kernel
theorem dX12_live_47 : decode cX12_live 47 = .ok (.iload_n 1, 1) := by decide +kernel
theorem dX12_live_48 : decode cX12_live 48 = .ok (.invokevirtual 570, 3) := by decide +kernel
theorem dX12_live_51 : decode cX12_live 51 = .ok (.aload_n 0, 1) := by decide +kernel
theorem dX12_live_52 : decode cX12_live 52 = .ok (.getfield 62, 3) := by decide +kernel
theorem dX12_live_55 : decode cX12_live 55 = .ok (.iconst 0, 1) := by decide +kernel
theorem dX12_live_56 : decode cX12_live 56 = .ok (.aload_n 0, 1) := by decide +kernel
theorem dX12_live_57 : decode cX12_live 57 = .ok (.getfield 553, 3) := by decide +kernel
theorem dX12_live_60 : decode cX12_live 60 = .ok (.iastore, 1) := by decide +kernel
theorem dX12_live_61 : decode cX12_live 61 = .ok (.aload_n 0, 1) := by decide +kernel
theorem dX12_live_62 : decode cX12_live 62 = .ok (.getfield 62, 3) := by decide +kernel
theorem dX12_live_65 : decode cX12_live 65 = .ok (.iconst 1, 1) := by decide +kernel
theorem dX12_live_66 : decode cX12_live 66 = .ok (.aload_n 0, 1) := by decide +kernel
theorem dX12_live_67 : decode cX12_live 67 = .ok (.getfield 528, 3) := by decide +kernel
theorem dX12_live_70 : decode cX12_live 70 = .ok (.iastore, 1) := by decide +kernel
theorem dX12_live_71 : decode cX12_live 71 = .ok (.aload_n 0, 1) := by decide +kernel
theorem dX12_live_72 : decode cX12_live 72 = .ok (.getfield 62, 3) := by decide +kernel
theorem dX12_live_75 : decode cX12_live 75 = .ok (.iconst 2, 1) := by decide +kernel
theorem dX12_live_76 : decode cX12_live 76 = .ok (.aload_n 0, 1) := by decide +kernel
theorem dX12_live_77 : decode cX12_live 77 = .ok (.getfield 522, 3) := by decide +kernel
theorem dX12_live_80 : decode cX12_live 80 = .ok (.iastore, 1) := by decide +kernel
theorem dX12_live_81 : decode cX12_live 81 = .ok (.aload_n 0, 1) := by decide +kernel
theorem dX12_live_82 : decode cX12_live 82 = .ok (.getfield 62, 3) := by decide +kernel
theorem dX12_live_85 : decode cX12_live 85 = .ok (.iconst 3, 1) := by decide +kernel
theorem dX12_live_86 : decode cX12_live 86 = .ok (.aload_n 0, 1) := by decide +kernel
theorem dX12_live_87 : decode cX12_live 87 = .ok (.getfield 525, 3) := by decide +kernel
theorem dX12_live_90 : decode cX12_live 90 = .ok (.iastore, 1) := by decide +kernel
theorem dX12_live_91 : decode cX12_live 91 = .ok (.aload_n 0, 1) := by decide +kernel
theorem dX12_live_92 : decode cX12_live 92 = .ok (.getfield 62, 3) := by decide +kernel
theorem dX12_live_95 : decode cX12_live 95 = .ok (.iconst 4, 1) := by decide +kernel
theorem dX12_live_96 : decode cX12_live 96 = .ok (.aload_n 0, 1) := by decide +kernel
theorem dX12_live_97 : decode cX12_live 97 = .ok (.getfield 550, 3) := by decide +kernel
theorem dX12_live_100 : decode cX12_live 100 = .ok (.iastore, 1) := by decide +kernel
theorem dX12_live_101 : decode cX12_live 101 = .ok (.aload_n 0, 1) := by decide +kernel
theorem dX12_live_102 : decode cX12_live 102 = .ok (.iconst 1, 1) := by decide +kernel
theorem dX12_live_103 : decode cX12_live 103 = .ok (.putfield 573, 3) := by decide +kernel
theorem dX12_live_106 : decode cX12_live 106 = .ok (.aload_n 0, 1) := by decide +kernel
theorem dX12_live_107 : decode cX12_live 107 = .ok (.getfield 543, 3) := by decide +kernel
theorem dX12_live_110 : decode cX12_live 110 = .ok (.ireturn, 1) := by decide +kernel
theorem dX12_lived_0 : decode cX12_lived 0 = .ok (.aload_n 0, 1) := by decide +kernel
theorem dX12_lived_1 : decode cX12_lived 1 = .ok (.iconst 0, 1) := by decide +kernel
theorem dX12_lived_2 : decode cX12_lived 2 = .ok (.putfield 69, 3) := by decide +kernel
theorem dX12_lived_5 : decode cX12_lived 5 = .ok (.aload_n 0, 1) := by decide +kernel
theorem dX12_lived_6 : decode cX12_lived 6 = .ok (.iconst 0, 1) := by decide +kernel
theorem dX12_lived_7 : decode cX12_lived 7 = .ok (.putfield 72, 3) := by decide +kernel
theorem dX12_lived_10 : decode cX12_lived 10 = .ok (.iload_n 1, 1) := by decide +kernel
theorem dX12_lived_11 : decode cX12_lived 11 = .ok (.i2l, 1) := by decide +kernel
theorem dX12_lived_12 : decode cX12_lived 12 = .ok (.lconst 0, 1) := by decide +kernel
theorem dX12_lived_13 : decode cX12_lived 13 = .ok (.ldc2_w 402, 3) := by decide +kernel
theorem dX12_lived_16 : decode cX12_lived 16 = .ok (.invokestatic 104, 3) := by decide +kernel
theorem dX12_lived_19 : decode cX12_lived 19 = .ok (.ifCond .ne 9, 3) := by decide +kernel
theorem dX12_lived_22 : decode cX12_lived 22 = .ok (.aload_n 0, 1) := by decide +kernel
theorem dX12_lived_23 : decode cX12_lived 23 = .ok (.iconst 5, 1) := by decide +kernel
theorem dX12_lived_24 : decode cX12_lived 24 = .ok (.invokevirtual 363, 3) := by decide +kernel
theorem dX12_lived_27 : decode cX12_lived 27 = .ok (.ireturn, 1) := by decide +kernel
theorem dX12_lived_28 : decode cX12_lived 28 = .ok (.aload_n 0, 1) := by decide +kernel
theorem dX12_lived_29 : decode cX12_lived 29 = .ok (.getfield 573, 3) := by decide +kernel
theorem dX12_lived_32 : decode cX12_lived 32 = .ok (.ifCond .eq 12, 3) := by decide +kernel
theorem dX12_lived_35 : decode cX12_lived 35 = .ok (.aload_n 0, 1) := by decide +kernel
theorem dX12_lived_36 : decode cX12_lived 36 = .ok (.getfield 62, 3) := by decide +kernel
theorem dX12_lived_39 : decode cX12_lived 39 = .ok (.iload_n 1, 1) := by decide +kernel
theorem dX12_lived_40 : decode cX12_lived 40 = .ok (.iaload, 1) := by decide +kernel
theorem dX12_lived_41 : decode cX12_lived 41 = .ok (.goto 9, 3) := by decide +kernel
theorem dX12_lived_44 : decode cX12_lived 44 = .ok (.aload_n 0, 1) := by decide +kernel
theorem dX12_lived_45 : decode cX12_lived 45 = .ok (.bipush 8, 2) := by decide +kernel
theorem dX12_lived_47 : decode cX12_lived 47 = .ok (.invokevirtual 363, 3) := by decide +kernel
theorem dX12_lived_50 : decode cX12_lived 50 = .ok (.ireturn, 1) := by decide +kernel
theorem dX12_mean_0 : decode cX12_mean 0 = .ok (.aload_n 0, 1) := by decide +kernel
theorem dX12_mean_1 : decode cX12_mean 1 = .ok (.iconst 0, 1) := by decide +kernel
theorem dX12_mean_2 : decode cX12_mean 2 = .ok (.putfield 69, 3) := by decide +kernel
theorem dX12_mean_5 : decode cX12_mean 5 = .ok (.aload_n 0, 1) := by decide +kernel
theorem dX12_mean_6 : decode cX12_mean 6 = .ok (.iconst 0, 1) := by decide +kernel
theorem dX12_mean_7 : decode cX12_mean 7 = .ok (.putfield 72, 3) := by decide +kernel
theorem dX12_mean_10 : decode cX12_mean 10 = .ok (.aload_n 0, 1) := by decide +kernel
theorem dX12_mean_11 : decode cX12_mean 11 = .ok (.iload_n 1, 1) := by decide +kernel
theorem dX12_mean_12 : decode cX12_mean 12 = .ok (.invokevirtual 383, 3) := by decide +kernel
theorem dX12_mean_15 : decode cX12_mean 15 = .ok (.ifCond .ne 9, 3) := by decide +kernel
theorem dX12_mean_18 : decode cX12_mean 18 = .ok (.aload_n 0, 1) := by decide +kernel
theorem dX12_mean_19 : decode cX12_mean 19 = .ok (.iconst 2, 1) := by decide +kernel
theorem dX12_mean_20 : decode cX12_mean 20 = .ok (.invokevirtual 84, 3) := by decide +kernel
theorem dX12_mean_23 : decode cX12_mean 23 = .ok (.ireturn, 1) := by decide +kernel
theorem dX12_mean_24 : decode cX12_mean 24 = .ok (.iload_n 3, 1) := by decide +kernel
theorem dX12_mean_25 : decode cX12_mean 25 = .ok (.i2l, 1) := by decide +kernel
theorem dX12_mean_26 : decode cX12_mean 26 = .ok (.lconst 1, 1) := by decide +kernel
theorem dX12_mean_27 : decode cX12_mean 27 = .ok (.ldc2_w 157, 3) := by decide +kernel
theorem dX12_mean_30 : decode cX12_mean 30 = .ok (.invokestatic 104, 3) := by decide +kernel
theorem dX12_mean_33 : decode cX12_mean 33 = .ok (.ifCond .eq 18, 3) := by decide +kernel
theorem dX12_mean_36 : decode cX12_mean 36 = .ok (.iload_n 2, 1) := by decide +kernel
theorem dX12_mean_37 : decode cX12_mean 37 = .ok (.i2l, 1) := by decide +kernel
theorem dX12_mean_38 : decode cX12_mean 38 = .ok (.lconst 0, 1) := by decide +kernel
theorem dX12_mean_39 : decode cX12_mean 39 = .ok (.sipush 10000, 3) := by decide +kernel
theorem dX12_mean_42 : decode cX12_mean 42 = .ok (.iload_n 3, 1) := by decide +kernel
theorem dX12_mean_43 : decode cX12_mean 43 = .ok (.isub, 1) := by decide +kernel
theorem dX12_mean_44 : decode cX12_mean 44 = .ok (.i2l, 1) := by decide +kernel
theorem dX12_mean_45 : decode cX12_mean 45 = .ok (.invokestatic 104, 3) := by decide +kernel
theorem dX12_mean_48 : decode cX12_mean 48 = .ok (.ifCond .ne 9, 3) := by decide +kernel
theorem dX12_mean_51 : decode cX12_mean 51 = .ok (.aload_n 0, 1) := by decide +kernel
theorem dX12_mean_52 : decode cX12_mean 52 = .ok (.iconst 5, 1) := by decide +kernel
theorem dX12_mean_53 : decode cX12_mean 53 = .ok (.invokevirtual 84, 3) := by decide +kernel
theorem dX12_mean_56 : decode cX12_mean 56 = .ok (.ireturn, 1) := by decide +kernel
theorem dX12_mean_57 : decode cX12_mean 57 = .ok (.aload_n 0, 1) := by decide +kernel
theorem dX12_mean_58 : decode cX12_mean 58 = .ok (.getfield 35, 3) := by decide +kernel
theorem dX12_mean_61 : decode cX12_mean 61 = .ok (.sipush 136, 3) := by decide +kernel
theorem dX12_mean_64 : decode cX12_mean 64 = .ok (.iaload, 1) := by decide +kernel
theorem dX12_mean_65 : decode cX12_mean 65 = .ok (.ifCond .ne 10, 3) := by decide +kernel
theorem dX12_mean_68 : decode cX12_mean 68 = .ok (.aload_n 0, 1) := by decide +kernel
theorem dX12_mean_69 : decode cX12_mean 69 = .ok (.bipush 8, 2) := by decide +kernel
theorem dX12_mean_71 : decode cX12_mean 71 = .ok (.invokevirtual 84, 3) := by decide +kernel
theorem dX12_mean_74 : decode cX12_mean 74 = .ok (.ireturn, 1) := by decide +kernel
theorem dX12_mean_75 : decode cX12_mean 75 = .ok (.iconst 0, 1) := by decide +kernel
theorem dX12_mean_76 : decode cX12_mean 76 = .ok (.istore 4, 2) := by decide +kernel
theorem dX12_mean_78 : decode cX12_mean 78 = .ok (.iload 4, 2) := by decide +kernel
theorem dX12_mean_80 : decode cX12_mean 80 = .ok (.sipush 136, 3) := by decide +kernel
theorem dX12_mean_83 : decode cX12_mean 83 = .ok (.if_icmp .ge 23, 3) := by decide +kernel
theorem dX12_mean_86 : decode cX12_mean 86 = .ok (.aload_n 0, 1) := by decide +kernel
theorem dX12_mean_87 : decode cX12_mean 87 = .ok (.getfield 41, 3) := by decide +kernel
theorem dX12_mean_90 : decode cX12_mean 90 = .ok (.iload 4, 2) := by decide +kernel
theorem dX12_mean_92 : decode cX12_mean 92 = .ok (.aload_n 0, 1) := by decide +kernel
theorem dX12_mean_93 : decode cX12_mean 93 = .ok (.getfield 35, 3) := by decide +kernel
theorem dX12_mean_96 : decode cX12_mean 96 = .ok (.iload 4, 2) := by decide +kernel
theorem dX12_mean_98 : decode cX12_mean 98 = .ok (.iaload, 1) := by decide +kernel
theorem dX12_mean_99 : decode cX12_mean 99 = .ok (.iastore, 1) := by decide +kernel
theorem dX12_mean_100 : decode cX12_mean 100 = .ok (.iinc 4 1, 3) := by decide +kernel
theorem dX12_mean_103 : decode cX12_mean 103 = .ok (.goto (-25), 3) := by decide +kernel
theorem dX12_mean_106 : decode cX12_mean 106 = .ok (.lconst 0, 1) := by decide +kernel
theorem dX12_mean_107 : decode cX12_mean 107 = .ok (.lstore 4, 2) := by decide +kernel
theorem dX12_mean_109 : decode cX12_mean 109 = .ok (.iconst 0, 1) := by decide +kernel
theorem dX12_mean_110 : decode cX12_mean 110 = .ok (.istore 6, 2) := by decide +kernel
theorem dX12_mean_112 : decode cX12_mean 112 = .ok (.iload 6, 2) := by decide +kernel
theorem dX12_mean_114 : decode cX12_mean 114 = .ok (.iload_n 3, 1) := by decide +kernel
theorem dX12_mean_115 : decode cX12_mean 115 = .ok (.if_icmp .ge 63, 3) := by decide +kernel
theorem dX12_mean_118 : decode cX12_mean 118 = .ok (.aload_n 0, 1) := by decide +kernel
theorem dX12_mean_119 : decode cX12_mean 119 = .ok (.iload_n 2, 1) := by decide +kernel
theorem dX12_mean_120 : decode cX12_mean 120 = .ok (.iload 6, 2) := by decide +kernel
theorem dX12_mean_122 : decode cX12_mean 122 = .ok (.iadd, 1) := by decide +kernel
theorem dX12_mean_123 : decode cX12_mean 123 = .ok (.invokevirtual 570, 3) := by decide +kernel
theorem dX12_mean_126 : decode cX12_mean 126 = .ok (.lload 4, 2) := by decide +kernel
theorem dX12_mean_128 : decode cX12_mean 128 = .ok (.aload_n 0, 1) := by decide +kernel
theorem dX12_mean_129 : decode cX12_mean 129 = .ok (.getfield 35, 3) := by decide +kernel
theorem dX12_mean_132 : decode cX12_mean 132 = .ok (.bipush 58, 2) := by decide +kernel
theorem dX12_mean_134 : decode cX12_mean 134 = .ok (.iload_n 1, 1) := by decide +kernel
theorem dX12_mean_135 : decode cX12_mean 135 = .ok (.iadd, 1) := by decide +kernel
theorem dX12_mean_136 : decode cX12_mean 136 = .ok (.iaload, 1) := by decide +kernel
theorem dX12_mean_137 : decode cX12_mean 137 = .ok (.i2l, 1) := by decide +kernel
theorem dX12_mean_138 : decode cX12_mean 138 = .ok (.ladd, 1) := by decide +kernel
theorem dX12_mean_139 : decode cX12_mean 139 = .ok (.lstore 4, 2) := by decide +kernel
theorem dX12_mean_141 : decode cX12_mean 141 = .ok (.iconst 0, 1) := by decide +kernel
theorem dX12_mean_142 : decode cX12_mean 142 = .ok (.istore 7, 2) := by decide +kernel
theorem dX12_mean_144 : decode cX12_mean 144 = .ok (.iload 7, 2) := by decide +kernel
theorem dX12_mean_146 : decode cX12_mean 146 = .ok (.sipush 136, 3) := by decide +kernel
theorem dX12_mean_149 : decode cX12_mean 149 = .ok (.if_icmp .ge 23, 3) := by decide +kernel
theorem dX12_mean_152 : decode cX12_mean 152 = .ok (.aload_n 0, 1) := by decide +kernel
theorem dX12_mean_153 : decode cX12_mean 153 = .ok (.getfield 35, 3) := by decide +kernel
theorem dX12_mean_156 : decode cX12_mean 156 = .ok (.iload 7, 2) := by decide +kernel
theorem dX12_mean_158 : decode cX12_mean 158 = .ok (.aload_n 0, 1) := by decide +kernel
theorem dX12_mean_159 : decode cX12_mean 159 = .ok (.getfield 41, 3) := by decide +kernel
theorem dX12_mean_162 : decode cX12_mean 162 = .ok (.iload 7, 2) := by decide +kernel
theorem dX12_mean_164 : decode cX12_mean 164 = .ok (.iaload, 1) := by decide +kernel
theorem dX12_mean_165 : decode cX12_mean 165 = .ok (.iastore, 1) := by decide +kernel
theorem dX12_mean_166 : decode cX12_mean 166 = .ok (.iinc 7 1, 3) := by decide +kernel
theorem dX12_mean_169 : decode cX12_mean 169 = .ok (.goto (-25), 3) := by decide +kernel
theorem dX12_mean_172 : decode cX12_mean 172 = .ok (.iinc 6 1, 3) := by decide +kernel
theorem dX12_mean_175 : decode cX12_mean 175 = .ok (.goto (-63), 3) := by decide +kernel
theorem dX12_mean_178 : decode cX12_mean 178 = .ok (.aload_n 0, 1) := by decide +kernel
theorem dX12_mean_179 : decode cX12_mean 179 = .ok (.lload 4, 2) := by decide +kernel
theorem dX12_mean_181 : decode cX12_mean 181 = .ok (.iload_n 3, 1) := by decide +kernel
theorem dX12_mean_182 : decode cX12_mean 182 = .ok (.i2l, 1) := by decide +kernel
theorem dX12_mean_183 : decode cX12_mean 183 = .ok (.invokevirtual 417, 3) := by decide +kernel
theorem dX12_mean_186 : decode cX12_mean 186 = .ok (.ireturn, 1) := by decide +kernel
theorem dX12_copy_0 : decode cX12_copy 0 = .ok (.iconst 0, 1) := by decide +kernel
theorem dX12_copy_1 : decode cX12_copy 1 = .ok (.istore_n 3, 1) := by decide +kernel
theorem dX12_copy_2 : decode cX12_copy 2 = .ok (.iload_n 3, 1) := by decide +kernel
theorem dX12_copy_3 : decode cX12_copy 3 = .ok (.sipush 408, 3) := by decide +kernel
theorem dX12_copy_6 : decode cX12_copy 6 = .ok (.if_icmp .ge 33, 3) := by decide +kernel
theorem dX12_copy_9 : decode cX12_copy 9 = .ok (.aload_n 0, 1) := by decide +kernel
theorem dX12_copy_10 : decode cX12_copy 10 = .ok (.getfield 35, 3) := by decide +kernel
theorem dX12_copy_13 : decode cX12_copy 13 = .ok (.sipush 408, 3) := by decide +kernel
theorem dX12_copy_16 : decode cX12_copy 16 = .ok (.iload_n 2, 1) := by decide +kernel
theorem dX12_copy_17 : decode cX12_copy 17 = .ok (.imul, 1) := by decide +kernel
theorem dX12_copy_18 : decode cX12_copy 18 = .ok (.iload_n 3, 1) := by decide +kernel
theorem dX12_copy_19 : decode cX12_copy 19 = .ok (.iadd, 1) := by decide +kernel
theorem dX12_copy_20 : decode cX12_copy 20 = .ok (.aload_n 0, 1) := by decide +kernel
theorem dX12_copy_21 : decode cX12_copy 21 = .ok (.getfield 35, 3) := by decide +kernel
theorem dX12_copy_24 : decode cX12_copy 24 = .ok (.sipush 408, 3) := by decide +kernel
theorem dX12_copy_27 : decode cX12_copy 27 = .ok (.iload_n 1, 1) := by decide +kernel
theorem dX12_copy_28 : decode cX12_copy 28 = .ok (.imul, 1) := by decide +kernel
theorem dX12_copy_29 : decode cX12_copy 29 = .ok (.iload_n 3, 1) := by decide +kernel
theorem dX12_copy_30 : decode cX12_copy 30 = .ok (.iadd, 1) := by decide +kernel
theorem dX12_copy_31 : decode cX12_copy 31 = .ok (.iaload, 1) := by decide +kernel
theorem dX12_copy_32 : decode cX12_copy 32 = .ok (.iastore, 1) := by decide +kernel
theorem dX12_copy_33 : decode cX12_copy 33 = .ok (.iinc 3 1, 3) := by decide +kernel
theorem dX12_copy_36 : decode cX12_copy 36 = .ok (.goto (-34), 3) := by decide +kernel
theorem dX12_copy_39 : decode cX12_copy 39 = .ok (.iconst 0, 1) := by decide +kernel
theorem dX12_copy_40 : decode cX12_copy 40 = .ok (.istore_n 3, 1) := by decide +kernel
theorem dX12_copy_41 : decode cX12_copy 41 = .ok (.iload_n 3, 1) := by decide +kernel
theorem dX12_copy_42 : decode cX12_copy 42 = .ok (.bipush 12, 2) := by decide +kernel
theorem dX12_copy_44 : decode cX12_copy 44 = .ok (.if_icmp .ge 31, 3) := by decide +kernel
theorem dX12_copy_47 : decode cX12_copy 47 = .ok (.aload_n 0, 1) := by decide +kernel
theorem dX12_copy_48 : decode cX12_copy 48 = .ok (.getfield 44, 3) := by decide +kernel
theorem dX12_copy_51 : decode cX12_copy 51 = .ok (.bipush 12, 2) := by decide +kernel
theorem dX12_copy_53 : decode cX12_copy 53 = .ok (.iload_n 2, 1) := by decide +kernel
theorem dX12_copy_54 : decode cX12_copy 54 = .ok (.imul, 1) := by decide +kernel
theorem dX12_copy_55 : decode cX12_copy 55 = .ok (.iload_n 3, 1) := by decide +kernel
theorem dX12_copy_56 : decode cX12_copy 56 = .ok (.iadd, 1) := by decide +kernel
theorem dX12_copy_57 : decode cX12_copy 57 = .ok (.aload_n 0, 1) := by decide +kernel
theorem dX12_copy_58 : decode cX12_copy 58 = .ok (.getfield 44, 3) := by decide +kernel
theorem dX12_copy_61 : decode cX12_copy 61 = .ok (.bipush 12, 2) := by decide +kernel
theorem dX12_copy_63 : decode cX12_copy 63 = .ok (.iload_n 1, 1) := by decide +kernel
theorem dX12_copy_64 : decode cX12_copy 64 = .ok (.imul, 1) := by decide +kernel
theorem dX12_copy_65 : decode cX12_copy 65 = .ok (.iload_n 3, 1) := by decide +kernel
theorem dX12_copy_66 : decode cX12_copy 66 = .ok (.iadd, 1) := by decide +kernel
theorem dX12_copy_67 : decode cX12_copy 67 = .ok (.laload, 1) := by decide +kernel
theorem dX12_copy_68 : decode cX12_copy 68 = .ok (.lastore, 1) := by decide +kernel
theorem dX12_copy_69 : decode cX12_copy 69 = .ok (.iinc 3 1, 3) := by decide +kernel
theorem dX12_copy_72 : decode cX12_copy 72 = .ok (.goto (-31), 3) := by decide +kernel
theorem dX12_copy_75 : decode cX12_copy 75 = .ok (.return_, 1) := by decide +kernel
theorem dX12_mark_0 : decode cX12_mark 0 = .ok (.aload_n 0, 1) := by decide +kernel
theorem dX12_mark_1 : decode cX12_mark 1 = .ok (.iconst 0, 1) := by decide +kernel
theorem dX12_mark_2 : decode cX12_mark 2 = .ok (.putfield 69, 3) := by decide +kernel
theorem dX12_mark_5 : decode cX12_mark 5 = .ok (.aload_n 0, 1) := by decide +kernel
theorem dX12_mark_6 : decode cX12_mark 6 = .ok (.iconst 0, 1) := by decide +kernel
theorem dX12_mark_7 : decode cX12_mark 7 = .ok (.putfield 72, 3) := by decide +kernel
theorem dX12_mark_10 : decode cX12_mark 10 = .ok (.aload_n 0, 1) := by decide +kernel
theorem dX12_mark_11 : decode cX12_mark 11 = .ok (.getfield 576, 3) := by decide +kernel
theorem dX12_mark_14 : decode cX12_mark 14 = .ok (.iconst 3, 1) := by decide +kernel
theorem dX12_mark_15 : decode cX12_mark 15 = .ok (.if_icmp .ne 10, 3) := by decide +kernel
theorem dX12_mark_18 : decode cX12_mark 18 = .ok (.aload_n 0, 1) := by decide +kernel
theorem dX12_mark_19 : decode cX12_mark 19 = .ok (.bipush 7, 2) := by decide +kernel
theorem dX12_mark_21 : decode cX12_mark 21 = .ok (.invokevirtual 363, 3) := by decide +kernel
theorem dX12_mark_24 : decode cX12_mark 24 = .ok (.ireturn, 1) := by decide +kernel
theorem dX12_mark_25 : decode cX12_mark 25 = .ok (.aload_n 0, 1) := by decide +kernel
theorem dX12_mark_26 : decode cX12_mark 26 = .ok (.dup, 1) := by decide +kernel
theorem dX12_mark_27 : decode cX12_mark 27 = .ok (.getfield 576, 3) := by decide +kernel
theorem dX12_mark_30 : decode cX12_mark 30 = .ok (.iconst 1, 1) := by decide +kernel
theorem dX12_mark_31 : decode cX12_mark 31 = .ok (.iadd, 1) := by decide +kernel
theorem dX12_mark_32 : decode cX12_mark 32 = .ok (.putfield 576, 3) := by decide +kernel
theorem dX12_mark_35 : decode cX12_mark 35 = .ok (.aload_n 0, 1) := by decide +kernel
theorem dX12_mark_36 : decode cX12_mark 36 = .ok (.iconst 0, 1) := by decide +kernel
theorem dX12_mark_37 : decode cX12_mark 37 = .ok (.aload_n 0, 1) := by decide +kernel
theorem dX12_mark_38 : decode cX12_mark 38 = .ok (.getfield 576, 3) := by decide +kernel
theorem dX12_mark_41 : decode cX12_mark 41 = .ok (.invokevirtual 316, 3) := by decide +kernel
theorem dX12_mark_44 : decode cX12_mark 44 = .ok (.aload_n 0, 1) := by decide +kernel
theorem dX12_mark_45 : decode cX12_mark 45 = .ok (.getfield 576, 3) := by decide +kernel
theorem dX12_mark_48 : decode cX12_mark 48 = .ok (.ireturn, 1) := by decide +kernel
theorem dX12_back_0 : decode cX12_back 0 = .ok (.aload_n 0, 1) := by decide +kernel
theorem dX12_back_1 : decode cX12_back 1 = .ok (.iconst 0, 1) := by decide +kernel
theorem dX12_back_2 : decode cX12_back 2 = .ok (.putfield 69, 3) := by decide +kernel
theorem dX12_back_5 : decode cX12_back 5 = .ok (.aload_n 0, 1) := by decide +kernel
theorem dX12_back_6 : decode cX12_back 6 = .ok (.iconst 0, 1) := by decide +kernel
theorem dX12_back_7 : decode cX12_back 7 = .ok (.putfield 72, 3) := by decide +kernel
theorem dX12_back_10 : decode cX12_back 10 = .ok (.aload_n 0, 1) := by decide +kernel
theorem dX12_back_11 : decode cX12_back 11 = .ok (.getfield 576, 3) := by decide +kernel
theorem dX12_back_14 : decode cX12_back 14 = .ok (.ifCond .ne 10, 3) := by decide +kernel
theorem dX12_back_17 : decode cX12_back 17 = .ok (.aload_n 0, 1) := by decide +kernel
theorem dX12_back_18 : decode cX12_back 18 = .ok (.bipush 8, 2) := by decide +kernel
theorem dX12_back_20 : decode cX12_back 20 = .ok (.invokevirtual 363, 3) := by decide +kernel
theorem dX12_back_23 : decode cX12_back 23 = .ok (.ireturn, 1) := by decide +kernel
theorem dX12_back_24 : decode cX12_back 24 = .ok (.aload_n 0, 1) := by decide +kernel
theorem dX12_back_25 : decode cX12_back 25 = .ok (.aload_n 0, 1) := by decide +kernel
theorem dX12_back_26 : decode cX12_back 26 = .ok (.getfield 576, 3) := by decide +kernel
theorem dX12_back_29 : decode cX12_back 29 = .ok (.iconst 0, 1) := by decide +kernel
theorem dX12_back_30 : decode cX12_back 30 = .ok (.invokevirtual 316, 3) := by decide +kernel
theorem dX12_back_33 : decode cX12_back 33 = .ok (.aload_n 0, 1) := by decide +kernel
theorem dX12_back_34 : decode cX12_back 34 = .ok (.dup, 1) := by decide +kernel
theorem dX12_back_35 : decode cX12_back 35 = .ok (.getfield 576, 3) := by decide +kernel
theorem dX12_back_38 : decode cX12_back 38 = .ok (.iconst 1, 1) := by decide +kernel
theorem dX12_back_39 : decode cX12_back 39 = .ok (.isub, 1) := by decide +kernel
theorem dX12_back_40 : decode cX12_back 40 = .ok (.putfield 576, 3) := by decide +kernel
theorem dX12_back_43 : decode cX12_back 43 = .ok (.aload_n 0, 1) := by decide +kernel
theorem dX12_back_44 : decode cX12_back 44 = .ok (.getfield 576, 3) := by decide +kernel
theorem dX12_back_47 : decode cX12_back 47 = .ok (.ireturn, 1) := by decide +kernel
