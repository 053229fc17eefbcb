theorem dX5_init_0 : decode cX5_init 0 = .ok (.aload_n 0, 1) := by decide +kernel
theorem dX5_init_1 : decode cX5_init 1 = .ok (.invokespecial 3, 3) := by decide +kernel
theorem dX5_init_4 : decode cX5_init 4 = .ok (.aload_n 0, 1) := by decide +kernel
theorem dX5_init_5 : decode cX5_init 5 = .ok (.iconst 4, 1) := by decide +kernel
theorem dX5_init_6 : decode cX5_init 6 = .ok (.newarray .int, 2) := by decide +kernel
theorem dX5_init_8 : decode cX5_init 8 = .ok (.putfield 9, 3) := by decide +kernel
theorem dX5_init_11 : decode cX5_init 11 = .ok (.aload_n 0, 1) := by decide +kernel
theorem dX5_init_12 : decode cX5_init 12 = .ok (.iconst 4, 1) := by decide +kernel
theorem dX5_init_13 : decode cX5_init 13 = .ok (.newarray .int, 2) := by decide +kernel
theorem dX5_init_15 : decode cX5_init 15 = .ok (.putfield 15, 3) := by decide +kernel
theorem dX5_init_18 : decode cX5_init 18 = .ok (.aload_n 0, 1) := by decide +kernel
theorem dX5_init_19 : decode cX5_init 19 = .ok (.bipush 7, 2) := by decide +kernel
theorem dX5_init_21 : decode cX5_init 21 = .ok (.newarray .int, 2) := by decide +kernel
theorem dX5_init_23 : decode cX5_init 23 = .ok (.putfield 18, 3) := by decide +kernel
theorem dX5_init_26 : decode cX5_init 26 = .ok (.aload_n 0, 1) := by decide +kernel
theorem dX5_init_27 : decode cX5_init 27 = .ok (.iconst 5, 1) := by decide +kernel
theorem dX5_init_28 : decode cX5_init 28 = .ok (.bipush 100, 2) := by decide +kernel
theorem dX5_init_30 : decode cX5_init 30 = .ok (.multianewarray 21 2, 4) := by decide +kernel
theorem dX5_init_34 : decode cX5_init 34 = .ok (.putfield 23, 3) := by decide +kernel
theorem dX5_init_37 : decode cX5_init 37 = .ok (.aload_n 0, 1) := by decide +kernel
theorem dX5_init_38 : decode cX5_init 38 = .ok (.bipush 6, 2) := by decide +kernel
theorem dX5_init_40 : decode cX5_init 40 = .ok (.newarray .int, 2) := by decide +kernel
theorem dX5_init_42 : decode cX5_init 42 = .ok (.putfield 26, 3) := by decide +kernel
theorem dX5_init_45 : decode cX5_init 45 = .ok (.aload_n 0, 1) := by decide +kernel
theorem dX5_init_46 : decode cX5_init 46 = .ok (.bipush 30, 2) := by decide +kernel
theorem dX5_init_48 : decode cX5_init 48 = .ok (.newarray .int, 2) := by decide +kernel
theorem dX5_init_50 : decode cX5_init 50 = .ok (.putfield 29, 3) := by decide +kernel
theorem dX5_init_53 : decode cX5_init 53 = .ok (.aload_n 0, 1) := by decide +kernel
theorem dX5_init_54 : decode cX5_init 54 = .ok (.bipush 30, 2) := by decide +kernel
theorem dX5_init_56 : decode cX5_init 56 = .ok (.newarray .int, 2) := by decide +kernel
theorem dX5_init_58 : decode cX5_init 58 = .ok (.putfield 32, 3) := by decide +kernel
theorem dX5_init_61 : decode cX5_init 61 = .ok (.aload_n 0, 1) := by decide +kernel
theorem dX5_init_62 : decode cX5_init 62 = .ok (.bipush 30, 2) := by decide +kernel
theorem dX5_init_64 : decode cX5_init 64 = .ok (.newarray .int, 2) := by decide +kernel
theorem dX5_init_66 : decode cX5_init 66 = .ok (.putfield 35, 3) := by decide +kernel
theorem dX5_init_69 : decode cX5_init 69 = .ok (.return_, 1) := by decide +kernel
theorem dX5_findHolding_0 : decode cX5_findHolding 0 = .ok (.aload_n 1, 1) := by decide +kernel
theorem dX5_findHolding_1 : decode cX5_findHolding 1 = .ok (.getfield 38, 3) := by decide +kernel
theorem dX5_findHolding_4 : decode cX5_findHolding 4 = .ok (.astore 5, 2) := by decide +kernel
theorem dX5_findHolding_6 : decode cX5_findHolding 6 = .ok (.aload 5, 2) := by decide +kernel
theorem dX5_findHolding_8 : decode cX5_findHolding 8 = .ok (.iload_n 2, 1) := by decide +kernel
theorem dX5_findHolding_9 : decode cX5_findHolding 9 = .ok (.invokevirtual 44, 3) := by decide +kernel
theorem dX5_findHolding_12 : decode cX5_findHolding 12 = .ok (.ifCond .eq 15, 3) := by decide +kernel
theorem dX5_findHolding_15 : decode cX5_findHolding 15 = .ok (.iload 4, 2) := by decide +kernel
theorem dX5_findHolding_17 : decode cX5_findHolding 17 = .ok (.iconst 1, 1) := by decide +kernel
theorem dX5_findHolding_18 : decode cX5_findHolding 18 = .ok (.if_icmp .lt 9, 3) := by decide +kernel
theorem dX5_findHolding_21 : decode cX5_findHolding 21 = .ok (.iload 4, 2) := by decide +kernel
theorem dX5_findHolding_23 : decode cX5_findHolding 23 = .ok (.iconst 4, 1) := by decide +kernel
theorem dX5_findHolding_24 : decode cX5_findHolding 24 = .ok (.if_icmp .le 5, 3) := by decide +kernel
theorem dX5_findHolding_27 : decode cX5_findHolding 27 = .ok (.iconst 0, 1) := by decide +kernel
theorem dX5_findHolding_28 : decode cX5_findHolding 28 = .ok (.ireturn, 1) := by decide +kernel
theorem dX5_findHolding_29 : decode cX5_findHolding 29 = .ok (.aload 5, 2) := by decide +kernel
theorem dX5_findHolding_31 : decode cX5_findHolding 31 = .ok (.getfield 50, 3) := by decide +kernel
theorem dX5_findHolding_34 : decode cX5_findHolding 34 = .ok (.iload_n 2, 1) := by decide +kernel
theorem dX5_findHolding_35 : decode cX5_findHolding 35 = .ok (.aaload, 1) := by decide +kernel
theorem dX5_findHolding_36 : decode cX5_findHolding 36 = .ok (.getfield 54, 3) := by decide +kernel
theorem dX5_findHolding_39 : decode cX5_findHolding 39 = .ok (.istore 6, 2) := by decide +kernel
theorem dX5_findHolding_41 : decode cX5_findHolding 41 = .ok (.iconst 0, 1) := by decide +kernel
theorem dX5_findHolding_42 : decode cX5_findHolding 42 = .ok (.istore 7, 2) := by decide +kernel
theorem dX5_findHolding_44 : decode cX5_findHolding 44 = .ok (.iload 7, 2) := by decide +kernel
theorem dX5_findHolding_46 : decode cX5_findHolding 46 = .ok (.bipush 6, 2) := by decide +kernel
theorem dX5_findHolding_48 : decode cX5_findHolding 48 = .ok (.if_icmp .gt 24, 3) := by decide +kernel
theorem dX5_findHolding_51 : decode cX5_findHolding 51 = .ok (.aload_n 0, 1) := by decide +kernel
theorem dX5_findHolding_52 : decode cX5_findHolding 52 = .ok (.getfield 18, 3) := by decide +kernel
theorem dX5_findHolding_55 : decode cX5_findHolding 55 = .ok (.iload 7, 2) := by decide +kernel
theorem dX5_findHolding_57 : decode cX5_findHolding 57 = .ok (.aload_n 1, 1) := by decide +kernel
theorem dX5_findHolding_58 : decode cX5_findHolding 58 = .ok (.iload_n 2, 1) := by decide +kernel
theorem dX5_findHolding_59 : decode cX5_findHolding 59 = .ok (.iload 7, 2) := by decide +kernel
theorem dX5_findHolding_61 : decode cX5_findHolding 61 = .ok (.iload_n 3, 1) := by decide +kernel
theorem dX5_findHolding_62 : decode cX5_findHolding 62 = .ok (.invokevirtual 60, 3) := by decide +kernel
theorem dX5_findHolding_65 : decode cX5_findHolding 65 = .ok (.iastore, 1) := by decide +kernel
theorem dX5_findHolding_66 : decode cX5_findHolding 66 = .ok (.iinc 7 1, 3) := by decide +kernel
theorem dX5_findHolding_69 : decode cX5_findHolding 69 = .ok (.goto (-25), 3) := by decide +kernel
theorem dX5_findHolding_72 : decode cX5_findHolding 72 = .ok (.iconst 0, 1) := by decide +kernel
theorem dX5_findHolding_73 : decode cX5_findHolding 73 = .ok (.istore 7, 2) := by decide +kernel
theorem dX5_findHolding_75 : decode cX5_findHolding 75 = .ok (.iload 7, 2) := by decide +kernel
theorem dX5_findHolding_77 : decode cX5_findHolding 77 = .ok (.iload 4, 2) := by decide +kernel
theorem dX5_findHolding_79 : decode cX5_findHolding 79 = .ok (.if_icmp .ge 39, 3) := by decide +kernel
theorem dX5_findHolding_82 : decode cX5_findHolding 82 = .ok (.aload_n 1, 1) := by decide +kernel
theorem dX5_findHolding_83 : decode cX5_findHolding 83 = .ok (.invokevirtual 64, 3) := by decide +kernel
theorem dX5_findHolding_86 : decode cX5_findHolding 86 = .ok (.aload_n 0, 1) := by decide +kernel
theorem dX5_findHolding_87 : decode cX5_findHolding 87 = .ok (.getfield 15, 3) := by decide +kernel
theorem dX5_findHolding_90 : decode cX5_findHolding 90 = .ok (.iload 7, 2) := by decide +kernel
theorem dX5_findHolding_92 : decode cX5_findHolding 92 = .ok (.aload_n 1, 1) := by decide +kernel
theorem dX5_findHolding_93 : decode cX5_findHolding 93 = .ok (.getfield 67, 3) := by decide +kernel
theorem dX5_findHolding_96 : decode cX5_findHolding 96 = .ok (.iload_n 2, 1) := by decide +kernel
theorem dX5_findHolding_97 : decode cX5_findHolding 97 = .ok (.aload_n 1, 1) := by decide +kernel
theorem dX5_findHolding_98 : decode cX5_findHolding 98 = .ok (.getfield 71, 3) := by decide +kernel
theorem dX5_findHolding_101 : decode cX5_findHolding 101 = .ok (.iload_n 3, 1) := by decide +kernel
theorem dX5_findHolding_102 : decode cX5_findHolding 102 = .ok (.invokevirtual 72, 3) := by decide +kernel
theorem dX5_findHolding_105 : decode cX5_findHolding 105 = .ok (.iastore, 1) := by decide +kernel
theorem dX5_findHolding_106 : decode cX5_findHolding 106 = .ok (.aload_n 1, 1) := by decide +kernel
theorem dX5_findHolding_107 : decode cX5_findHolding 107 = .ok (.iconst 1, 1) := by decide +kernel
theorem dX5_findHolding_108 : decode cX5_findHolding 108 = .ok (.invokevirtual 78, 3) := by decide +kernel
theorem dX5_findHolding_111 : decode cX5_findHolding 111 = .ok (.pop, 1) := by decide +kernel
theorem dX5_findHolding_112 : decode cX5_findHolding 112 = .ok (.iinc 7 1, 3) := by decide +kernel
theorem dX5_findHolding_115 : decode cX5_findHolding 115 = .ok (.goto (-40), 3) := by decide +kernel
theorem dX5_findHolding_118 : decode cX5_findHolding 118 = .ok (.aload_n 0, 1) := by decide +kernel
theorem dX5_findHolding_119 : decode cX5_findHolding 119 = .ok (.aload 5, 2) := by decide +kernel
theorem dX5_findHolding_121 : decode cX5_findHolding 121 = .ok (.iload_n 2, 1) := by decide +kernel
theorem dX5_findHolding_122 : decode cX5_findHolding 122 = .ok (.iload 4, 2) := by decide +kernel
theorem dX5_findHolding_124 : decode cX5_findHolding 124 = .ok (.invokevirtual 82, 3) := by decide +kernel
theorem dX5_findHolding_127 : decode cX5_findHolding 127 = .ok (.aload_n 0, 1) := by decide +kernel
theorem dX5_findHolding_128 : decode cX5_findHolding 128 = .ok (.getfield 23, 3) := by decide +kernel
theorem dX5_findHolding_131 : decode cX5_findHolding 131 = .ok (.iconst 0, 1) := by decide +kernel
theorem dX5_findHolding_132 : decode cX5_findHolding 132 = .ok (.aaload, 1) := by decide +kernel
theorem dX5_findHolding_133 : decode cX5_findHolding 133 = .ok (.iload 6, 2) := by decide +kernel
theorem dX5_findHolding_135 : decode cX5_findHolding 135 = .ok (.iaload, 1) := by decide +kernel
theorem dX5_findHolding_136 : decode cX5_findHolding 136 = .ok (.istore 7, 2) := by decide +kernel
theorem dX5_findHolding_138 : decode cX5_findHolding 138 = .ok (.iconst 0, 1) := by decide +kernel
theorem dX5_findHolding_139 : decode cX5_findHolding 139 = .ok (.istore 8, 2) := by decide +kernel
theorem dX5_findHolding_141 : decode cX5_findHolding 141 = .ok (.iload 8, 2) := by decide +kernel
theorem dX5_findHolding_143 : decode cX5_findHolding 143 = .ok (.iload 4, 2) := by decide +kernel
theorem dX5_findHolding_145 : decode cX5_findHolding 145 = .ok (.if_icmp .ge 44, 3) := by decide +kernel
theorem dX5_findHolding_148 : decode cX5_findHolding 148 = .ok (.aload_n 0, 1) := by decide +kernel
theorem dX5_findHolding_149 : decode cX5_findHolding 149 = .ok (.getfield 9, 3) := by decide +kernel
theorem dX5_findHolding_152 : decode cX5_findHolding 152 = .ok (.iload 8, 2) := by decide +kernel
theorem dX5_findHolding_154 : decode cX5_findHolding 154 = .ok (.aload_n 0, 1) := by decide +kernel
theorem dX5_findHolding_155 : decode cX5_findHolding 155 = .ok (.aload 5, 2) := by decide +kernel
theorem dX5_findHolding_157 : decode cX5_findHolding 157 = .ok (.iload_n 2, 1) := by decide +kernel
theorem dX5_findHolding_158 : decode cX5_findHolding 158 = .ok (.iload 8, 2) := by decide +kernel
theorem dX5_findHolding_160 : decode cX5_findHolding 160 = .ok (.iload 6, 2) := by decide +kernel
theorem dX5_findHolding_162 : decode cX5_findHolding 162 = .ok (.invokevirtual 86, 3) := by decide +kernel
theorem dX5_findHolding_165 : decode cX5_findHolding 165 = .ok (.iastore, 1) := by decide +kernel
theorem dX5_findHolding_166 : decode cX5_findHolding 166 = .ok (.aload 5, 2) := by decide +kernel
theorem dX5_findHolding_168 : decode cX5_findHolding 168 = .ok (.iload_n 2, 1) := by decide +kernel
theorem dX5_findHolding_169 : decode cX5_findHolding 169 = .ok (.aload_n 0, 1) := by decide +kernel
theorem dX5_findHolding_170 : decode cX5_findHolding 170 = .ok (.getfield 9, 3) := by decide +kernel
theorem dX5_findHolding_173 : decode cX5_findHolding 173 = .ok (.iload 8, 2) := by decide +kernel
theorem dX5_findHolding_175 : decode cX5_findHolding 175 = .ok (.iaload, 1) := by decide +kernel
theorem dX5_findHolding_176 : decode cX5_findHolding 176 = .ok (.iload 6, 2) := by decide +kernel
theorem dX5_findHolding_178 : decode cX5_findHolding 178 = .ok (.invokestatic 90, 3) := by decide +kernel
theorem dX5_findHolding_181 : decode cX5_findHolding 181 = .ok (.istore 6, 2) := by decide +kernel
theorem dX5_findHolding_183 : decode cX5_findHolding 183 = .ok (.iinc 8 1, 3) := by decide +kernel
theorem dX5_findHolding_186 : decode cX5_findHolding 186 = .ok (.goto (-45), 3) := by decide +kernel
theorem dX5_findHolding_189 : decode cX5_findHolding 189 = .ok (.iload 7, 2) := by decide +kernel
theorem dX5_findHolding_191 : decode cX5_findHolding 191 = .ok (.ireturn, 1) := by decide +kernel
theorem dX5_fillHeld_0 : decode cX5_fillHeld 0 = .ok (.iconst 0, 1) := by decide +kernel
theorem dX5_fillHeld_1 : decode cX5_fillHeld 1 = .ok (.istore 4, 2) := by decide +kernel
theorem dX5_fillHeld_3 : decode cX5_fillHeld 3 = .ok (.iload 4, 2) := by decide +kernel
theorem dX5_fillHeld_5 : decode cX5_fillHeld 5 = .ok (.bipush 99, 2) := by decide +kernel
theorem dX5_fillHeld_7 : decode cX5_fillHeld 7 = .ok (.if_icmp .gt 19, 3) := by decide +kernel
theorem dX5_fillHeld_10 : decode cX5_fillHeld 10 = .ok (.aload_n 0, 1) := by decide +kernel
theorem dX5_fillHeld_11 : decode cX5_fillHeld 11 = .ok (.getfield 23, 3) := by decide +kernel
theorem dX5_fillHeld_14 : decode cX5_fillHeld 14 = .ok (.iload_n 3, 1) := by decide +kernel
theorem dX5_fillHeld_15 : decode cX5_fillHeld 15 = .ok (.aaload, 1) := by decide +kernel
theorem dX5_fillHeld_16 : decode cX5_fillHeld 16 = .ok (.iload 4, 2) := by decide +kernel
theorem dX5_fillHeld_18 : decode cX5_fillHeld 18 = .ok (.iconst 0, 1) := by decide +kernel
theorem dX5_fillHeld_19 : decode cX5_fillHeld 19 = .ok (.iastore, 1) := by decide +kernel
theorem dX5_fillHeld_20 : decode cX5_fillHeld 20 = .ok (.iinc 4 1, 3) := by decide +kernel
theorem dX5_fillHeld_23 : decode cX5_fillHeld 23 = .ok (.goto (-20), 3) := by decide +kernel
theorem dX5_fillHeld_26 : decode cX5_fillHeld 26 = .ok (.iload_n 3, 1) := by decide +kernel
theorem dX5_fillHeld_27 : decode cX5_fillHeld 27 = .ok (.iconst 1, 1) := by decide +kernel
theorem dX5_fillHeld_28 : decode cX5_fillHeld 28 = .ok (.isub, 1) := by decide +kernel
theorem dX5_fillHeld_29 : decode cX5_fillHeld 29 = .ok (.istore 4, 2) := by decide +kernel
theorem dX5_fillHeld_31 : decode cX5_fillHeld 31 = .ok (.iload 4, 2) := by decide +kernel
theorem dX5_fillHeld_33 : decode cX5_fillHeld 33 = .ok (.ifCond .lt 114, 3) := by decide +kernel
theorem dX5_fillHeld_36 : decode cX5_fillHeld 36 = .ok (.iconst 0, 1) := by decide +kernel
theorem dX5_fillHeld_37 : decode cX5_fillHeld 37 = .ok (.istore 5, 2) := by decide +kernel
theorem dX5_fillHeld_39 : decode cX5_fillHeld 39 = .ok (.iload 5, 2) := by decide +kernel
theorem dX5_fillHeld_41 : decode cX5_fillHeld 41 = .ok (.aload_n 1, 1) := by decide +kernel
theorem dX5_fillHeld_42 : decode cX5_fillHeld 42 = .ok (.getfield 50, 3) := by decide +kernel
theorem dX5_fillHeld_45 : decode cX5_fillHeld 45 = .ok (.iload_n 2, 1) := by decide +kernel
theorem dX5_fillHeld_46 : decode cX5_fillHeld 46 = .ok (.aaload, 1) := by decide +kernel
theorem dX5_fillHeld_47 : decode cX5_fillHeld 47 = .ok (.getfield 93, 3) := by decide +kernel
theorem dX5_fillHeld_50 : decode cX5_fillHeld 50 = .ok (.if_icmp .gt 91, 3) := by decide +kernel
theorem dX5_fillHeld_53 : decode cX5_fillHeld 53 = .ok (.iload 5, 2) := by decide +kernel
theorem dX5_fillHeld_55 : decode cX5_fillHeld 55 = .ok (.bipush 99, 2) := by decide +kernel
theorem dX5_fillHeld_57 : decode cX5_fillHeld 57 = .ok (.if_icmp .gt 84, 3) := by decide +kernel
theorem dX5_fillHeld_60 : decode cX5_fillHeld 60 = .ok (.aload_n 0, 1) := by decide +kernel
theorem dX5_fillHeld_61 : decode cX5_fillHeld 61 = .ok (.getfield 23, 3) := by decide +kernel
theorem dX5_fillHeld_64 : decode cX5_fillHeld 64 = .ok (.iload 4, 2) := by decide +kernel
theorem dX5_fillHeld_66 : decode cX5_fillHeld 66 = .ok (.aaload, 1) := by decide +kernel
theorem dX5_fillHeld_67 : decode cX5_fillHeld 67 = .ok (.iload 5, 2) := by decide +kernel
theorem dX5_fillHeld_69 : decode cX5_fillHeld 69 = .ok (.aload_n 0, 1) := by decide +kernel
theorem dX5_fillHeld_70 : decode cX5_fillHeld 70 = .ok (.aload_n 1, 1) := by decide +kernel
theorem dX5_fillHeld_71 : decode cX5_fillHeld 71 = .ok (.iload_n 2, 1) := by decide +kernel
theorem dX5_fillHeld_72 : decode cX5_fillHeld 72 = .ok (.iload 4, 2) := by decide +kernel
theorem dX5_fillHeld_74 : decode cX5_fillHeld 74 = .ok (.iload 5, 2) := by decide +kernel
theorem dX5_fillHeld_76 : decode cX5_fillHeld 76 = .ok (.bipush 6, 2) := by decide +kernel
theorem dX5_fillHeld_78 : decode cX5_fillHeld 78 = .ok (.invokevirtual 96, 3) := by decide +kernel
theorem dX5_fillHeld_81 : decode cX5_fillHeld 81 = .ok (.iastore, 1) := by decide +kernel
theorem dX5_fillHeld_82 : decode cX5_fillHeld 82 = .ok (.iconst 0, 1) := by decide +kernel
theorem dX5_fillHeld_83 : decode cX5_fillHeld 83 = .ok (.istore 6, 2) := by decide +kernel
theorem dX5_fillHeld_85 : decode cX5_fillHeld 85 = .ok (.iload 6, 2) := by decide +kernel
theorem dX5_fillHeld_87 : decode cX5_fillHeld 87 = .ok (.aload_n 1, 1) := by decide +kernel
theorem dX5_fillHeld_88 : decode cX5_fillHeld 88 = .ok (.getfield 100, 3) := by decide +kernel
theorem dX5_fillHeld_91 : decode cX5_fillHeld 91 = .ok (.if_icmp .ge 44, 3) := by decide +kernel
theorem dX5_fillHeld_94 : decode cX5_fillHeld 94 = .ok (.aload_n 0, 1) := by decide +kernel
theorem dX5_fillHeld_95 : decode cX5_fillHeld 95 = .ok (.getfield 23, 3) := by decide +kernel
theorem dX5_fillHeld_98 : decode cX5_fillHeld 98 = .ok (.iload 4, 2) := by decide +kernel
theorem dX5_fillHeld_100 : decode cX5_fillHeld 100 = .ok (.aaload, 1) := by decide +kernel
theorem dX5_fillHeld_101 : decode cX5_fillHeld 101 = .ok (.iload 5, 2) := by decide +kernel
theorem dX5_fillHeld_103 : decode cX5_fillHeld 103 = .ok (.aload_n 0, 1) := by decide +kernel
theorem dX5_fillHeld_104 : decode cX5_fillHeld 104 = .ok (.getfield 23, 3) := by decide +kernel
theorem dX5_fillHeld_107 : decode cX5_fillHeld 107 = .ok (.iload 4, 2) := by decide +kernel
theorem dX5_fillHeld_109 : decode cX5_fillHeld 109 = .ok (.aaload, 1) := by decide +kernel
theorem dX5_fillHeld_110 : decode cX5_fillHeld 110 = .ok (.iload 5, 2) := by decide +kernel
theorem dX5_fillHeld_112 : decode cX5_fillHeld 112 = .ok (.iaload, 1) := by decide +kernel
theorem dX5_fillHeld_113 : decode cX5_fillHeld 113 = .ok (.aload_n 0, 1) := by decide +kernel
theorem dX5_fillHeld_114 : decode cX5_fillHeld 114 = .ok (.aload_n 1, 1) := by decide +kernel
theorem dX5_fillHeld_115 : decode cX5_fillHeld 115 = .ok (.iload_n 2, 1) := by decide +kernel
theorem dX5_fillHeld_116 : decode cX5_fillHeld 116 = .ok (.iload 4, 2) := by decide +kernel
theorem dX5_fillHeld_118 : decode cX5_fillHeld 118 = .ok (.iload 5, 2) := by decide +kernel
theorem dX5_fillHeld_120 : decode cX5_fillHeld 120 = .ok (.iload 6, 2) := by decide +kernel
theorem dX5_fillHeld_122 : decode cX5_fillHeld 122 = .ok (.invokevirtual 96, 3) := by decide +kernel
theorem dX5_fillHeld_125 : decode cX5_fillHeld 125 = .ok (.invokestatic 103, 3) := by decide +kernel
theorem dX5_fillHeld_128 : decode cX5_fillHeld 128 = .ok (.iastore, 1) := by decide +kernel
theorem dX5_fillHeld_129 : decode cX5_fillHeld 129 = .ok (.iinc 6 1, 3) := by decide +kernel
theorem dX5_fillHeld_132 : decode cX5_fillHeld 132 = .ok (.goto (-47), 3) := by decide +kernel
theorem dX5_fillHeld_135 : decode cX5_fillHeld 135 = .ok (.iinc 5 1, 3) := by decide +kernel
theorem dX5_fillHeld_138 : decode cX5_fillHeld 138 = .ok (.goto (-99), 3) := by decide +kernel
theorem dX5_fillHeld_141 : decode cX5_fillHeld 141 = .ok (.iinc 4 (-1), 3) := by decide +kernel
theorem dX5_fillHeld_144 : decode cX5_fillHeld 144 = .ok (.goto (-113), 3) := by decide +kernel
theorem dX5_fillHeld_147 : decode cX5_fillHeld 147 = .ok (.return_, 1) := by decide +kernel
theorem dX5_firstGood_0 : decode cX5_firstGood 0 = .ok (.iconst 0, 1) := by decide +kernel
theorem dX5_firstGood_1 : decode cX5_firstGood 1 = .ok (.istore 5, 2) := by decide +kernel
theorem dX5_firstGood_3 : decode cX5_firstGood 3 = .ok (.iload 5, 2) := by decide +kernel
theorem dX5_firstGood_5 : decode cX5_firstGood 5 = .ok (.aload_n 1, 1) := by decide +kernel
theorem dX5_firstGood_6 : decode cX5_firstGood 6 = .ok (.getfield 100, 3) := by decide +kernel
theorem dX5_firstGood_9 : decode cX5_firstGood 9 = .ok (.if_icmp .ge 35, 3) := by decide +kernel
theorem dX5_firstGood_12 : decode cX5_firstGood 12 = .ok (.aload_n 0, 1) := by decide +kernel
theorem dX5_firstGood_13 : decode cX5_firstGood 13 = .ok (.aload_n 1, 1) := by decide +kernel
theorem dX5_firstGood_14 : decode cX5_firstGood 14 = .ok (.iload_n 2, 1) := by decide +kernel
theorem dX5_firstGood_15 : decode cX5_firstGood 15 = .ok (.iload_n 3, 1) := by decide +kernel
theorem dX5_firstGood_16 : decode cX5_firstGood 16 = .ok (.iload 4, 2) := by decide +kernel
theorem dX5_firstGood_18 : decode cX5_firstGood 18 = .ok (.iload 5, 2) := by decide +kernel
theorem dX5_firstGood_20 : decode cX5_firstGood 20 = .ok (.invokevirtual 96, 3) := by decide +kernel
theorem dX5_firstGood_23 : decode cX5_firstGood 23 = .ok (.aload_n 0, 1) := by decide +kernel
theorem dX5_firstGood_24 : decode cX5_firstGood 24 = .ok (.getfield 23, 3) := by decide +kernel
theorem dX5_firstGood_27 : decode cX5_firstGood 27 = .ok (.iload_n 3, 1) := by decide +kernel
theorem dX5_firstGood_28 : decode cX5_firstGood 28 = .ok (.aaload, 1) := by decide +kernel
theorem dX5_firstGood_29 : decode cX5_firstGood 29 = .ok (.iload 4, 2) := by decide +kernel
theorem dX5_firstGood_31 : decode cX5_firstGood 31 = .ok (.iaload, 1) := by decide +kernel
theorem dX5_firstGood_32 : decode cX5_firstGood 32 = .ok (.if_icmp .ne 6, 3) := by decide +kernel
theorem dX5_firstGood_35 : decode cX5_firstGood 35 = .ok (.iload 5, 2) := by decide +kernel
theorem dX5_firstGood_37 : decode cX5_firstGood 37 = .ok (.ireturn, 1) := by decide +kernel
theorem dX5_firstGood_38 : decode cX5_firstGood 38 = .ok (.iinc 5 1, 3) := by decide +kernel
theorem dX5_firstGood_41 : decode cX5_firstGood 41 = .ok (.goto (-38), 3) := by decide +kernel
theorem dX5_firstGood_44 : decode cX5_firstGood 44 = .ok (.bipush 6, 2) := by decide +kernel
theorem dX5_firstGood_46 : decode cX5_firstGood 46 = .ok (.ireturn, 1) := by decide +kernel
theorem dX5_heldWith_0 : decode cX5_heldWith 0 = .ok (.iload 4, 2) := by decide +kernel
theorem dX5_heldWith_2 : decode cX5_heldWith 2 = .ok (.aload_n 1, 1) := by decide +kernel
theorem dX5_heldWith_3 : decode cX5_heldWith 3 = .ok (.iload 5, 2) := by decide +kernel
theorem dX5_heldWith_5 : decode cX5_heldWith 5 = .ok (.invokevirtual 109, 3) := by decide +kernel
theorem dX5_heldWith_8 : decode cX5_heldWith 8 = .ok (.if_icmp .lt 23, 3) := by decide +kernel
theorem dX5_heldWith_11 : decode cX5_heldWith 11 = .ok (.aload_n 0, 1) := by decide +kernel
theorem dX5_heldWith_12 : decode cX5_heldWith 12 = .ok (.getfield 18, 3) := by decide +kernel
theorem dX5_heldWith_15 : decode cX5_heldWith 15 = .ok (.iload 5, 2) := by decide +kernel
theorem dX5_heldWith_17 : decode cX5_heldWith 17 = .ok (.iaload, 1) := by decide +kernel
theorem dX5_heldWith_18 : decode cX5_heldWith 18 = .ok (.aload_n 0, 1) := by decide +kernel
theorem dX5_heldWith_19 : decode cX5_heldWith 19 = .ok (.getfield 15, 3) := by decide +kernel
theorem dX5_heldWith_22 : decode cX5_heldWith 22 = .ok (.iload_n 3, 1) := by decide +kernel
theorem dX5_heldWith_23 : decode cX5_heldWith 23 = .ok (.iaload, 1) := by decide +kernel
theorem dX5_heldWith_24 : decode cX5_heldWith 24 = .ok (.if_icmp .le 7, 3) := by decide +kernel
theorem dX5_heldWith_27 : decode cX5_heldWith 27 = .ok (.iconst 1, 1) := by decide +kernel
theorem dX5_heldWith_28 : decode cX5_heldWith 28 = .ok (.goto 4, 3) := by decide +kernel
theorem dX5_heldWith_31 : decode cX5_heldWith 31 = .ok (.iconst 0, 1) := by decide +kernel
theorem dX5_heldWith_32 : decode cX5_heldWith 32 = .ok (.istore 6, 2) := by decide +kernel
theorem dX5_heldWith_34 : decode cX5_heldWith 34 = .ok (.iload 6, 2) := by decide +kernel
theorem dX5_heldWith_36 : decode cX5_heldWith 36 = .ok (.ifCond .eq 7, 3) := by decide +kernel
theorem dX5_heldWith_39 : decode cX5_heldWith 39 = .ok (.iconst 1, 1) := by decide +kernel
theorem dX5_heldWith_40 : decode cX5_heldWith 40 = .ok (.goto 4, 3) := by decide +kernel
theorem dX5_heldWith_43 : decode cX5_heldWith 43 = .ok (.iconst 0, 1) := by decide +kernel
theorem dX5_heldWith_44 : decode cX5_heldWith 44 = .ok (.aload_n 0, 1) := by decide +kernel
theorem dX5_heldWith_45 : decode cX5_heldWith 45 = .ok (.getfield 23, 3) := by decide +kernel
theorem dX5_heldWith_48 : decode cX5_heldWith 48 = .ok (.iload_n 3, 1) := by decide +kernel
theorem dX5_heldWith_49 : decode cX5_heldWith 49 = .ok (.iconst 1, 1) := by decide +kernel
theorem dX5_heldWith_50 : decode cX5_heldWith 50 = .ok (.iadd, 1) := by decide +kernel
theorem dX5_heldWith_51 : decode cX5_heldWith 51 = .ok (.aaload, 1) := by decide +kernel
theorem dX5_heldWith_52 : decode cX5_heldWith 52 = .ok (.aload_n 1, 1) := by decide +kernel
theorem dX5_heldWith_53 : decode cX5_heldWith 53 = .ok (.iload_n 2, 1) := by decide +kernel
theorem dX5_heldWith_54 : decode cX5_heldWith 54 = .ok (.iload 5, 2) := by decide +kernel
theorem dX5_heldWith_56 : decode cX5_heldWith 56 = .ok (.iload 4, 2) := by decide +kernel
theorem dX5_heldWith_58 : decode cX5_heldWith 58 = .ok (.invokestatic 90, 3) := by decide +kernel
theorem dX5_heldWith_61 : decode cX5_heldWith 61 = .ok (.iaload, 1) := by decide +kernel
theorem dX5_heldWith_62 : decode cX5_heldWith 62 = .ok (.iadd, 1) := by decide +kernel
theorem dX5_heldWith_63 : decode cX5_heldWith 63 = .ok (.ireturn, 1) := by decide +kernel
theorem dX5_lipsWith_0 : decode cX5_lipsWith 0 = .ok (.aload_n 0, 1) := by decide +kernel
theorem dX5_lipsWith_1 : decode cX5_lipsWith 1 = .ok (.iload_n 2, 1) := by decide +kernel
theorem dX5_lipsWith_2 : decode cX5_lipsWith 2 = .ok (.invokevirtual 109, 3) := by decide +kernel
theorem dX5_lipsWith_5 : decode cX5_lipsWith 5 = .ok (.istore 4, 2) := by decide +kernel
theorem dX5_lipsWith_7 : decode cX5_lipsWith 7 = .ok (.iload_n 2, 1) := by decide +kernel
theorem dX5_lipsWith_8 : decode cX5_lipsWith 8 = .ok (.bipush 6, 2) := by decide +kernel
theorem dX5_lipsWith_10 : decode cX5_lipsWith 10 = .ok (.if_icmp .eq 13, 3) := by decide +kernel
theorem dX5_lipsWith_13 : decode cX5_lipsWith 13 = .ok (.iload_n 3, 1) := by decide +kernel
theorem dX5_lipsWith_14 : decode cX5_lipsWith 14 = .ok (.iload 4, 2) := by decide +kernel
theorem dX5_lipsWith_16 : decode cX5_lipsWith 16 = .ok (.if_icmp .lt 7, 3) := by decide +kernel
theorem dX5_lipsWith_19 : decode cX5_lipsWith 19 = .ok (.iconst 1, 1) := by decide +kernel
theorem dX5_lipsWith_20 : decode cX5_lipsWith 20 = .ok (.goto 4, 3) := by decide +kernel
theorem dX5_lipsWith_23 : decode cX5_lipsWith 23 = .ok (.iconst 0, 1) := by decide +kernel
theorem dX5_lipsWith_24 : decode cX5_lipsWith 24 = .ok (.istore 5, 2) := by decide +kernel
theorem dX5_lipsWith_26 : decode cX5_lipsWith 26 = .ok (.aload_n 0, 1) := by decide +kernel
theorem dX5_lipsWith_27 : decode cX5_lipsWith 27 = .ok (.getfield 50, 3) := by decide +kernel
theorem dX5_lipsWith_30 : decode cX5_lipsWith 30 = .ok (.iload_n 1, 1) := by decide +kernel
theorem dX5_lipsWith_31 : decode cX5_lipsWith 31 = .ok (.aaload, 1) := by decide +kernel
theorem dX5_lipsWith_32 : decode cX5_lipsWith 32 = .ok (.iload_n 3, 1) := by decide +kernel
theorem dX5_lipsWith_33 : decode cX5_lipsWith 33 = .ok (.iload 5, 2) := by decide +kernel
theorem dX5_lipsWith_35 : decode cX5_lipsWith 35 = .ok (.iload 4, 2) := by decide +kernel
theorem dX5_lipsWith_37 : decode cX5_lipsWith 37 = .ok (.aload_n 0, 1) := by decide +kernel
theorem dX5_lipsWith_38 : decode cX5_lipsWith 38 = .ok (.getfield 112, 3) := by decide +kernel
theorem dX5_lipsWith_41 : decode cX5_lipsWith 41 = .ok (.invokevirtual 115, 3) := by decide +kernel
theorem dX5_lipsWith_44 : decode cX5_lipsWith 44 = .ok (.ireturn, 1) := by decide +kernel
theorem dX5_takePlays_0 : decode cX5_takePlays 0 = .ok (.aload_n 1, 1) := by decide +kernel
theorem dX5_takePlays_1 : decode cX5_takePlays 1 = .ok (.invokevirtual 64, 3) := by decide +kernel
theorem dX5_takePlays_4 : decode cX5_takePlays 4 = .ok (.iconst 0, 1) := by decide +kernel
theorem dX5_takePlays_5 : decode cX5_takePlays 5 = .ok (.istore_n 2, 1) := by decide +kernel
theorem dX5_takePlays_6 : decode cX5_takePlays 6 = .ok (.iload_n 2, 1) := by decide +kernel
theorem dX5_takePlays_7 : decode cX5_takePlays 7 = .ok (.bipush 6, 2) := by decide +kernel
theorem dX5_takePlays_9 : decode cX5_takePlays 9 = .ok (.if_icmp .ge 21, 3) := by decide +kernel
theorem dX5_takePlays_12 : decode cX5_takePlays 12 = .ok (.aload_n 0, 1) := by decide +kernel
theorem dX5_takePlays_13 : decode cX5_takePlays 13 = .ok (.getfield 26, 3) := by decide +kernel
theorem dX5_takePlays_16 : decode cX5_takePlays 16 = .ok (.iload_n 2, 1) := by decide +kernel
theorem dX5_takePlays_17 : decode cX5_takePlays 17 = .ok (.aload_n 1, 1) := by decide +kernel
theorem dX5_takePlays_18 : decode cX5_takePlays 18 = .ok (.getfield 71, 3) := by decide +kernel
theorem dX5_takePlays_21 : decode cX5_takePlays 21 = .ok (.iload_n 2, 1) := by decide +kernel
theorem dX5_takePlays_22 : decode cX5_takePlays 22 = .ok (.iaload, 1) := by decide +kernel
theorem dX5_takePlays_23 : decode cX5_takePlays 23 = .ok (.iastore, 1) := by decide +kernel
theorem dX5_takePlays_24 : decode cX5_takePlays 24 = .ok (.iinc 2 1, 3) := by decide +kernel
theorem dX5_takePlays_27 : decode cX5_takePlays 27 = .ok (.goto (-21), 3) := by decide +kernel
theorem dX5_takePlays_30 : decode cX5_takePlays 30 = .ok (.return_, 1) := by decide +kernel
theorem dX5_lawnsWith_0 : decode cX5_lawnsWith 0 = .ok (.aload_n 1, 1) := by decide +kernel
theorem dX5_lawnsWith_1 : decode cX5_lawnsWith 1 = .ok (.getfield 38, 3) := by decide +kernel
theorem dX5_lawnsWith_4 : decode cX5_lawnsWith 4 = .ok (.iload_n 2, 1) := by decide +kernel
theorem dX5_lawnsWith_5 : decode cX5_lawnsWith 5 = .ok (.invokevirtual 44, 3) := by decide +kernel
theorem dX5_lawnsWith_8 : decode cX5_lawnsWith 8 = .ok (.ifCond .ne 5, 3) := by decide +kernel
theorem dX5_lawnsWith_11 : decode cX5_lawnsWith 11 = .ok (.iconst 0, 1) := by decide +kernel
theorem dX5_lawnsWith_12 : decode cX5_lawnsWith 12 = .ok (.ireturn, 1) := by decide +kernel
theorem dX5_lawnsWith_13 : decode cX5_lawnsWith 13 = .ok (.aload_n 0, 1) := by decide +kernel
theorem dX5_lawnsWith_14 : decode cX5_lawnsWith 14 = .ok (.aload_n 1, 1) := by decide +kernel
theorem dX5_lawnsWith_15 : decode cX5_lawnsWith 15 = .ok (.invokevirtual 119, 3) := by decide +kernel
theorem dX5_lawnsWith_18 : decode cX5_lawnsWith 18 = .ok (.aload_n 0, 1) := by decide +kernel
theorem dX5_lawnsWith_19 : decode cX5_lawnsWith 19 = .ok (.getfield 26, 3) := by decide +kernel
theorem dX5_lawnsWith_22 : decode cX5_lawnsWith 22 = .ok (.iload_n 2, 1) := by decide +kernel
theorem dX5_lawnsWith_23 : decode cX5_lawnsWith 23 = .ok (.iload_n 3, 1) := by decide +kernel
theorem dX5_lawnsWith_24 : decode cX5_lawnsWith 24 = .ok (.iastore, 1) := by decide +kernel
theorem dX5_lawnsWith_25 : decode cX5_lawnsWith 25 = .ok (.aload_n 1, 1) := by decide +kernel
theorem dX5_lawnsWith_26 : decode cX5_lawnsWith 26 = .ok (.getfield 67, 3) := by decide +kernel
theorem dX5_lawnsWith_29 : decode cX5_lawnsWith 29 = .ok (.aload_n 1, 1) := by decide +kernel
theorem dX5_lawnsWith_30 : decode cX5_lawnsWith 30 = .ok (.getfield 67, 3) := by decide +kernel
theorem dX5_lawnsWith_33 : decode cX5_lawnsWith 33 = .ok (.aload_n 0, 1) := by decide +kernel
theorem dX5_lawnsWith_34 : decode cX5_lawnsWith 34 = .ok (.getfield 26, 3) := by decide +kernel
theorem dX5_lawnsWith_37 : decode cX5_lawnsWith 37 = .ok (.invokevirtual 123, 3) := by decide +kernel
theorem dX5_lawnsWith_40 : decode cX5_lawnsWith 40 = .ok (.iload_n 2, 1) := by decide +kernel
theorem dX5_lawnsWith_41 : decode cX5_lawnsWith 41 = .ok (.invokevirtual 127, 3) := by decide +kernel
theorem dX5_lawnsWith_44 : decode cX5_lawnsWith 44 = .ok (.ireturn, 1) := by decide +kernel
theorem dX5_findBest_0 : decode cX5_findBest 0 = .ok (.iconst (-1), 1) := by decide +kernel
theorem dX5_findBest_1 : decode cX5_findBest 1 = .ok (.istore_n 3, 1) := by decide +kernel
theorem dX5_findBest_2 : decode cX5_findBest 2 = .ok (.iconst (-1), 1) := by decide +kernel
theorem dX5_findBest_3 : decode cX5_findBest 3 = .ok (.istore 4, 2) := by decide +kernel
theorem dX5_findBest_5 : decode cX5_findBest 5 = .ok (.iconst 0, 1) := by decide +kernel
theorem dX5_findBest_6 : decode cX5_findBest 6 = .ok (.istore 5, 2) := by decide +kernel
theorem dX5_findBest_8 : decode cX5_findBest 8 = .ok (.iload 5, 2) := by decide +kernel
theorem dX5_findBest_10 : decode cX5_findBest 10 = .ok (.aload_n 1, 1) := by decide +kernel
theorem dX5_findBest_11 : decode cX5_findBest 11 = .ok (.getfield 38, 3) := by decide +kernel
theorem dX5_findBest_14 : decode cX5_findBest 14 = .ok (.getfield 100, 3) := by decide +kernel
theorem dX5_findBest_17 : decode cX5_findBest 17 = .ok (.if_icmp .ge 33, 3) := by decide +kernel
theorem dX5_findBest_20 : decode cX5_findBest 20 = .ok (.aload_n 0, 1) := by decide +kernel
theorem dX5_findBest_21 : decode cX5_findBest 21 = .ok (.aload_n 1, 1) := by decide +kernel
theorem dX5_findBest_22 : decode cX5_findBest 22 = .ok (.iload_n 2, 1) := by decide +kernel
theorem dX5_findBest_23 : decode cX5_findBest 23 = .ok (.iload 5, 2) := by decide +kernel
theorem dX5_findBest_25 : decode cX5_findBest 25 = .ok (.invokevirtual 130, 3) := by decide +kernel
theorem dX5_findBest_28 : decode cX5_findBest 28 = .ok (.istore 6, 2) := by decide +kernel
theorem dX5_findBest_30 : decode cX5_findBest 30 = .ok (.iload 6, 2) := by decide +kernel
theorem dX5_findBest_32 : decode cX5_findBest 32 = .ok (.iload 4, 2) := by decide +kernel
theorem dX5_findBest_34 : decode cX5_findBest 34 = .ok (.if_icmp .le 10, 3) := by decide +kernel
theorem dX5_findBest_37 : decode cX5_findBest 37 = .ok (.iload 6, 2) := by decide +kernel
theorem dX5_findBest_39 : decode cX5_findBest 39 = .ok (.istore 4, 2) := by decide +kernel
theorem dX5_findBest_41 : decode cX5_findBest 41 = .ok (.iload 5, 2) := by decide +kernel
theorem dX5_findBest_43 : decode cX5_findBest 43 = .ok (.istore_n 3, 1) := by decide +kernel
theorem dX5_findBest_44 : decode cX5_findBest 44 = .ok (.iinc 5 1, 3) := by decide +kernel
theorem dX5_findBest_47 : decode cX5_findBest 47 = .ok (.goto (-39), 3) := by decide +kernel
theorem dX5_findBest_50 : decode cX5_findBest 50 = .ok (.iload_n 3, 1) := by decide +kernel
theorem dX5_findBest_51 : decode cX5_findBest 51 = .ok (.ireturn, 1) := by decide +kernel
theorem dX5_findLow_0 : decode cX5_findLow 0 = .ok (.aload_n 0, 1) := by decide +kernel
theorem dX5_findLow_1 : decode cX5_findLow 1 = .ok (.aload_n 1, 1) := by decide +kernel
theorem dX5_findLow_2 : decode cX5_findLow 2 = .ok (.invokevirtual 119, 3) := by decide +kernel
theorem dX5_findLow_5 : decode cX5_findLow 5 = .ok (.aload_n 1, 1) := by decide +kernel
theorem dX5_findLow_6 : decode cX5_findLow 6 = .ok (.getfield 67, 3) := by decide +kernel
theorem dX5_findLow_9 : decode cX5_findLow 9 = .ok (.iload_n 2, 1) := by decide +kernel
theorem dX5_findLow_10 : decode cX5_findLow 10 = .ok (.aload_n 0, 1) := by decide +kernel
theorem dX5_findLow_11 : decode cX5_findLow 11 = .ok (.getfield 26, 3) := by decide +kernel
theorem dX5_findLow_14 : decode cX5_findLow 14 = .ok (.iload_n 3, 1) := by decide +kernel
theorem dX5_findLow_15 : decode cX5_findLow 15 = .ok (.invokevirtual 72, 3) := by decide +kernel
theorem dX5_findLow_18 : decode cX5_findLow 18 = .ok (.istore 4, 2) := by decide +kernel
theorem dX5_findLow_20 : decode cX5_findLow 20 = .ok (.iconst (-1), 1) := by decide +kernel
theorem dX5_findLow_21 : decode cX5_findLow 21 = .ok (.istore 5, 2) := by decide +kernel
theorem dX5_findLow_23 : decode cX5_findLow 23 = .ok (.iconst 0, 1) := by decide +kernel
theorem dX5_findLow_24 : decode cX5_findLow 24 = .ok (.istore 6, 2) := by decide +kernel
theorem dX5_findLow_26 : decode cX5_findLow 26 = .ok (.iload 6, 2) := by decide +kernel
theorem dX5_findLow_28 : decode cX5_findLow 28 = .ok (.aload_n 1, 1) := by decide +kernel
theorem dX5_findLow_29 : decode cX5_findLow 29 = .ok (.getfield 38, 3) := by decide +kernel
theorem dX5_findLow_32 : decode cX5_findLow 32 = .ok (.getfield 100, 3) := by decide +kernel
theorem dX5_findLow_35 : decode cX5_findLow 35 = .ok (.if_icmp .ge 65, 3) := by decide +kernel
theorem dX5_findLow_38 : decode cX5_findLow 38 = .ok (.aload_n 1, 1) := by decide +kernel
theorem dX5_findLow_39 : decode cX5_findLow 39 = .ok (.getfield 38, 3) := by decide +kernel
theorem dX5_findLow_42 : decode cX5_findLow 42 = .ok (.iload 6, 2) := by decide +kernel
theorem dX5_findLow_44 : decode cX5_findLow 44 = .ok (.invokevirtual 109, 3) := by decide +kernel
theorem dX5_findLow_47 : decode cX5_findLow 47 = .ok (.istore 7, 2) := by decide +kernel
theorem dX5_findLow_49 : decode cX5_findLow 49 = .ok (.aload_n 1, 1) := by decide +kernel
theorem dX5_findLow_50 : decode cX5_findLow 50 = .ok (.getfield 67, 3) := by decide +kernel
theorem dX5_findLow_53 : decode cX5_findLow 53 = .ok (.iload_n 2, 1) := by decide +kernel
theorem dX5_findLow_54 : decode cX5_findLow 54 = .ok (.iload 6, 2) := by decide +kernel
theorem dX5_findLow_56 : decode cX5_findLow 56 = .ok (.iload_n 3, 1) := by decide +kernel
theorem dX5_findLow_57 : decode cX5_findLow 57 = .ok (.invokevirtual 134, 3) := by decide +kernel
theorem dX5_findLow_60 : decode cX5_findLow 60 = .ok (.iload 4, 2) := by decide +kernel
theorem dX5_findLow_62 : decode cX5_findLow 62 = .ok (.if_icmp .le 7, 3) := by decide +kernel
theorem dX5_findLow_65 : decode cX5_findLow 65 = .ok (.iconst 1, 1) := by decide +kernel
theorem dX5_findLow_66 : decode cX5_findLow 66 = .ok (.goto 4, 3) := by decide +kernel
theorem dX5_findLow_69 : decode cX5_findLow 69 = .ok (.iconst 0, 1) := by decide +kernel
theorem dX5_findLow_70 : decode cX5_findLow 70 = .ok (.istore 8, 2) := by decide +kernel
theorem dX5_findLow_72 : decode cX5_findLow 72 = .ok (.iload 8, 2) := by decide +kernel
theorem dX5_findLow_74 : decode cX5_findLow 74 = .ok (.ifCond .eq 20, 3) := by decide +kernel
theorem dX5_findLow_77 : decode cX5_findLow 77 = .ok (.iload 5, 2) := by decide +kernel
theorem dX5_findLow_79 : decode cX5_findLow 79 = .ok (.iconst (-1), 1) := by decide +kernel
theorem dX5_findLow_80 : decode cX5_findLow 80 = .ok (.if_icmp .eq 10, 3) := by decide +kernel
theorem dX5_findLow_83 : decode cX5_findLow 83 = .ok (.iload 7, 2) := by decide +kernel
theorem dX5_findLow_85 : decode cX5_findLow 85 = .ok (.iload 5, 2) := by decide +kernel
theorem dX5_findLow_87 : decode cX5_findLow 87 = .ok (.if_icmp .ge 7, 3) := by decide +kernel
theorem dX5_findLow_90 : decode cX5_findLow 90 = .ok (.iload 7, 2) := by decide +kernel
theorem dX5_findLow_92 : decode cX5_findLow 92 = .ok (.istore 5, 2) := by decide +kernel
theorem dX5_findLow_94 : decode cX5_findLow 94 = .ok (.iinc 6 1, 3) := by decide +kernel
theorem dX5_findLow_97 : decode cX5_findLow 97 = .ok (.goto (-71), 3) := by decide +kernel
theorem dX5_findLow_100 : decode cX5_findLow 100 = .ok (.iload 5, 2) := by decide +kernel
theorem dX5_findLow_102 : decode cX5_findLow 102 = .ok (.ireturn, 1) := by decide +kernel
theorem dX5_entryInOrder_0 : decode cX5_entryInOrder 0 = .ok (.iload_n 1, 1) := by decide +kernel
theorem dX5_entryInOrder_1 : decode cX5_entryInOrder 1 = .ok (.aload_n 0, 1) := by decide +kernel
theorem dX5_entryInOrder_2 : decode cX5_entryInOrder 2 = .ok (.getfield 100, 3) := by decide +kernel
theorem dX5_entryInOrder_5 : decode cX5_entryInOrder 5 = .ok (.if_icmp .ge 7, 3) := by decide +kernel
theorem dX5_entryInOrder_8 : decode cX5_entryInOrder 8 = .ok (.iload_n 1, 1) := by decide +kernel
theorem dX5_entryInOrder_9 : decode cX5_entryInOrder 9 = .ok (.goto 5, 3) := by decide +kernel
theorem dX5_entryInOrder_12 : decode cX5_entryInOrder 12 = .ok (.bipush 6, 2) := by decide +kernel
theorem dX5_entryInOrder_14 : decode cX5_entryInOrder 14 = .ok (.ireturn, 1) := by decide +kernel
theorem dX5_playGame_0 : decode cX5_playGame 0 = .ok (.aload_n 0, 1) := by decide +kernel
theorem dX5_playGame_1 : decode cX5_playGame 1 = .ok (.aload_n 1, 1) := by decide +kernel
theorem dX5_playGame_2 : decode cX5_playGame 2 = .ok (.invokevirtual 119, 3) := by decide +kernel
theorem dX5_playGame_5 : decode cX5_playGame 5 = .ok (.aload_n 0, 1) := by decide +kernel
theorem dX5_playGame_6 : decode cX5_playGame 6 = .ok (.getfield 26, 3) := by decide +kernel
theorem dX5_playGame_9 : decode cX5_playGame 9 = .ok (.aload_n 1, 1) := by decide +kernel
theorem dX5_playGame_10 : decode cX5_playGame 10 = .ok (.iload_n 2, 1) := by decide +kernel
theorem dX5_playGame_11 : decode cX5_playGame 11 = .ok (.iload_n 3, 1) := by decide +kernel
theorem dX5_playGame_12 : decode cX5_playGame 12 = .ok (.iload 4, 2) := by decide +kernel
theorem dX5_playGame_14 : decode cX5_playGame 14 = .ok (.iconst 1, 1) := by decide +kernel
theorem dX5_playGame_15 : decode cX5_playGame 15 = .ok (.invokestatic 135, 3) := by decide +kernel
theorem dX5_playGame_18 : decode cX5_playGame 18 = .ok (.ireturn, 1) := by decide +kernel
theorem dX5_valueOf_0 : decode cX5_valueOf 0 = .ok (.iload 4, 2) := by decide +kernel
theorem dX5_valueOf_2 : decode cX5_valueOf 2 = .ok (.ifCond .le 9, 3) := by decide +kernel
theorem dX5_valueOf_5 : decode cX5_valueOf 5 = .ok (.iload 4, 2) := by decide +kernel
theorem dX5_valueOf_7 : decode cX5_valueOf 7 = .ok (.iconst 3, 1) := by decide +kernel
theorem dX5_valueOf_8 : decode cX5_valueOf 8 = .ok (.if_icmp .le 35, 3) := by decide +kernel
theorem dX5_valueOf_11 : decode cX5_valueOf 11 = .ok (.aload_n 1, 1) := by decide +kernel
theorem dX5_valueOf_12 : decode cX5_valueOf 12 = .ok (.getfield 67, 3) := by decide +kernel
theorem dX5_valueOf_15 : decode cX5_valueOf 15 = .ok (.aload_n 0, 1) := by decide +kernel
theorem dX5_valueOf_16 : decode cX5_valueOf 16 = .ok (.invokevirtual 123, 3) := by decide +kernel
theorem dX5_valueOf_19 : decode cX5_valueOf 19 = .ok (.istore 6, 2) := by decide +kernel
theorem dX5_valueOf_21 : decode cX5_valueOf 21 = .ok (.aload_n 1, 1) := by decide +kernel
theorem dX5_valueOf_22 : decode cX5_valueOf 22 = .ok (.getfield 67, 3) := by decide +kernel
theorem dX5_valueOf_25 : decode cX5_valueOf 25 = .ok (.iload 6, 2) := by decide +kernel
theorem dX5_valueOf_27 : decode cX5_valueOf 27 = .ok (.iload_n 2, 1) := by decide +kernel
theorem dX5_valueOf_28 : decode cX5_valueOf 28 = .ok (.invokevirtual 127, 3) := by decide +kernel
theorem dX5_valueOf_31 : decode cX5_valueOf 31 = .ok (.aload_n 1, 1) := by decide +kernel
theorem dX5_valueOf_32 : decode cX5_valueOf 32 = .ok (.getfield 67, 3) := by decide +kernel
theorem dX5_valueOf_35 : decode cX5_valueOf 35 = .ok (.iload 6, 2) := by decide +kernel
theorem dX5_valueOf_37 : decode cX5_valueOf 37 = .ok (.iload_n 3, 1) := by decide +kernel
theorem dX5_valueOf_38 : decode cX5_valueOf 38 = .ok (.invokevirtual 127, 3) := by decide +kernel
theorem dX5_valueOf_41 : decode cX5_valueOf 41 = .ok (.isub, 1) := by decide +kernel
theorem dX5_valueOf_42 : decode cX5_valueOf 42 = .ok (.ireturn, 1) := by decide +kernel
theorem dX5_valueOf_43 : decode cX5_valueOf 43 = .ok (.iload 5, 2) := by decide +kernel
theorem dX5_valueOf_45 : decode cX5_valueOf 45 = .ok (.ifCond .eq 7, 3) := by decide +kernel
theorem dX5_valueOf_48 : decode cX5_valueOf 48 = .ok (.iload_n 2, 1) := by decide +kernel
theorem dX5_valueOf_49 : decode cX5_valueOf 49 = .ok (.goto 4, 3) := by decide +kernel
theorem dX5_valueOf_52 : decode cX5_valueOf 52 = .ok (.iload_n 3, 1) := by decide +kernel
theorem dX5_valueOf_53 : decode cX5_valueOf 53 = .ok (.istore 6, 2) := by decide +kernel
theorem dX5_valueOf_55 : decode cX5_valueOf 55 = .ok (.iload 6, 2) := by decide +kernel
theorem dX5_valueOf_57 : decode cX5_valueOf 57 = .ok (.ifCond .lt 10, 3) := by decide +kernel
theorem dX5_valueOf_60 : decode cX5_valueOf 60 = .ok (.iload 6, 2) := by decide +kernel
theorem dX5_valueOf_62 : decode cX5_valueOf 62 = .ok (.aload_n 0, 1) := by decide +kernel
theorem dX5_valueOf_63 : decode cX5_valueOf 63 = .ok (.arraylength, 1) := by decide +kernel
theorem dX5_valueOf_64 : decode cX5_valueOf 64 = .ok (.if_icmp .lt 5, 3) := by decide +kernel
theorem dX5_valueOf_67 : decode cX5_valueOf 67 = .ok (.iconst 0, 1) := by decide +kernel
theorem dX5_valueOf_68 : decode cX5_valueOf 68 = .ok (.ireturn, 1) := by decide +kernel
theorem dX5_valueOf_69 : decode cX5_valueOf 69 = .ok (.aload_n 0, 1) := by decide +kernel
theorem dX5_valueOf_70 : decode cX5_valueOf 70 = .ok (.iload 6, 2) := by decide +kernel
theorem dX5_valueOf_72 : decode cX5_valueOf 72 = .ok (.iaload, 1) := by decide +kernel
theorem dX5_valueOf_73 : decode cX5_valueOf 73 = .ok (.istore 7, 2) := by decide +kernel
theorem dX5_valueOf_75 : decode cX5_valueOf 75 = .ok (.iload 5, 2) := by decide +kernel
theorem dX5_valueOf_77 : decode cX5_valueOf 77 = .ok (.ifCond .eq 8, 3) := by decide +kernel
theorem dX5_valueOf_80 : decode cX5_valueOf 80 = .ok (.bipush (-30), 2) := by decide +kernel
theorem dX5_valueOf_82 : decode cX5_valueOf 82 = .ok (.goto 5, 3) := by decide +kernel
theorem dX5_valueOf_85 : decode cX5_valueOf 85 = .ok (.bipush 30, 2) := by decide +kernel
theorem dX5_valueOf_87 : decode cX5_valueOf 87 = .ok (.istore 8, 2) := by decide +kernel
theorem dX5_valueOf_89 : decode cX5_valueOf 89 = .ok (.iconst 0, 1) := by decide +kernel
theorem dX5_valueOf_90 : decode cX5_valueOf 90 = .ok (.istore 9, 2) := by decide +kernel
theorem dX5_valueOf_92 : decode cX5_valueOf 92 = .ok (.iload 9, 2) := by decide +kernel
theorem dX5_valueOf_94 : decode cX5_valueOf 94 = .ok (.aload_n 1, 1) := by decide +kernel
theorem dX5_valueOf_95 : decode cX5_valueOf 95 = .ok (.getfield 38, 3) := by decide +kernel
theorem dX5_valueOf_98 : decode cX5_valueOf 98 = .ok (.getfield 100, 3) := by decide +kernel
theorem dX5_valueOf_101 : decode cX5_valueOf 101 = .ok (.if_icmp .gt 69, 3) := by decide +kernel
theorem dX5_valueOf_104 : decode cX5_valueOf 104 = .ok (.aload_n 0, 1) := by decide +kernel
theorem dX5_valueOf_105 : decode cX5_valueOf 105 = .ok (.iload 6, 2) := by decide +kernel
theorem dX5_valueOf_107 : decode cX5_valueOf 107 = .ok (.aload_n 1, 1) := by decide +kernel
theorem dX5_valueOf_108 : decode cX5_valueOf 108 = .ok (.getfield 38, 3) := by decide +kernel
theorem dX5_valueOf_111 : decode cX5_valueOf 111 = .ok (.iload 9, 2) := by decide +kernel
theorem dX5_valueOf_113 : decode cX5_valueOf 113 = .ok (.invokestatic 139, 3) := by decide +kernel
theorem dX5_valueOf_116 : decode cX5_valueOf 116 = .ok (.iastore, 1) := by decide +kernel
theorem dX5_valueOf_117 : decode cX5_valueOf 117 = .ok (.aload_n 0, 1) := by decide +kernel
theorem dX5_valueOf_118 : decode cX5_valueOf 118 = .ok (.aload_n 1, 1) := by decide +kernel
theorem dX5_valueOf_119 : decode cX5_valueOf 119 = .ok (.iload_n 2, 1) := by decide +kernel
theorem dX5_valueOf_120 : decode cX5_valueOf 120 = .ok (.iload_n 3, 1) := by decide +kernel
theorem dX5_valueOf_121 : decode cX5_valueOf 121 = .ok (.iload 4, 2) := by decide +kernel
theorem dX5_valueOf_123 : decode cX5_valueOf 123 = .ok (.iconst 1, 1) := by decide +kernel
theorem dX5_valueOf_124 : decode cX5_valueOf 124 = .ok (.isub, 1) := by decide +kernel
theorem dX5_valueOf_125 : decode cX5_valueOf 125 = .ok (.iload 5, 2) := by decide +kernel
theorem dX5_valueOf_127 : decode cX5_valueOf 127 = .ok (.ifCond .ne 7, 3) := by decide +kernel
theorem dX5_valueOf_130 : decode cX5_valueOf 130 = .ok (.iconst 1, 1) := by decide +kernel
theorem dX5_valueOf_131 : decode cX5_valueOf 131 = .ok (.goto 4, 3) := by decide +kernel
theorem dX5_valueOf_134 : decode cX5_valueOf 134 = .ok (.iconst 0, 1) := by decide +kernel
theorem dX5_valueOf_135 : decode cX5_valueOf 135 = .ok (.invokestatic 135, 3) := by decide +kernel
theorem dX5_valueOf_138 : decode cX5_valueOf 138 = .ok (.istore 10, 2) := by decide +kernel
theorem dX5_valueOf_140 : decode cX5_valueOf 140 = .ok (.iload 5, 2) := by decide +kernel
theorem dX5_valueOf_142 : decode cX5_valueOf 142 = .ok (.ifCond .eq 13, 3) := by decide +kernel
theorem dX5_valueOf_145 : decode cX5_valueOf 145 = .ok (.iload 8, 2) := by decide +kernel
theorem dX5_valueOf_147 : decode cX5_valueOf 147 = .ok (.iload 10, 2) := by decide +kernel
theorem dX5_valueOf_149 : decode cX5_valueOf 149 = .ok (.invokestatic 103, 3) := by decide +kernel
theorem dX5_valueOf_152 : decode cX5_valueOf 152 = .ok (.goto 10, 3) := by decide +kernel
theorem dX5_valueOf_155 : decode cX5_valueOf 155 = .ok (.iload 8, 2) := by decide +kernel
theorem dX5_valueOf_157 : decode cX5_valueOf 157 = .ok (.iload 10, 2) := by decide +kernel
theorem dX5_valueOf_159 : decode cX5_valueOf 159 = .ok (.invokestatic 143, 3) := by decide +kernel
theorem dX5_valueOf_162 : decode cX5_valueOf 162 = .ok (.istore 8, 2) := by decide +kernel
theorem dX5_valueOf_164 : decode cX5_valueOf 164 = .ok (.iinc 9 1, 3) := by decide +kernel
theorem dX5_valueOf_167 : decode cX5_valueOf 167 = .ok (.goto (-75), 3) := by decide +kernel
theorem dX5_valueOf_170 : decode cX5_valueOf 170 = .ok (.aload_n 0, 1) := by decide +kernel
theorem dX5_valueOf_171 : decode cX5_valueOf 171 = .ok (.iload 6, 2) := by decide +kernel
theorem dX5_valueOf_173 : decode cX5_valueOf 173 = .ok (.iload 7, 2) := by decide +kernel
theorem dX5_valueOf_175 : decode cX5_valueOf 175 = .ok (.iastore, 1) := by decide +kernel
theorem dX5_valueOf_176 : decode cX5_valueOf 176 = .ok (.iload 8, 2) := by decide +kernel
theorem dX5_valueOf_178 : decode cX5_valueOf 178 = .ok (.ireturn, 1) := by decide +kernel
theorem dX5_findMove_0 : decode cX5_findMove 0 = .ok (.aload_n 0, 1) := by decide +kernel
theorem dX5_findMove_1 : decode cX5_findMove 1 = .ok (.aload_n 1, 1) := by decide +kernel
theorem dX5_findMove_2 : decode cX5_findMove 2 = .ok (.iload_n 2, 1) := by decide +kernel
theorem dX5_findMove_3 : decode cX5_findMove 3 = .ok (.iload_n 3, 1) := by decide +kernel
theorem dX5_findMove_4 : decode cX5_findMove 4 = .ok (.iload 4, 2) := by decide +kernel
theorem dX5_findMove_6 : decode cX5_findMove 6 = .ok (.invokevirtual 146, 3) := by decide +kernel
theorem dX5_findMove_9 : decode cX5_findMove 9 = .ok (.istore 5, 2) := by decide +kernel
theorem dX5_findMove_11 : decode cX5_findMove 11 = .ok (.aload_n 0, 1) := by decide +kernel
theorem dX5_findMove_12 : decode cX5_findMove 12 = .ok (.getfield 26, 3) := by decide +kernel
theorem dX5_findMove_15 : decode cX5_findMove 15 = .ok (.iload_n 2, 1) := by decide +kernel
theorem dX5_findMove_16 : decode cX5_findMove 16 = .ok (.iaload, 1) := by decide +kernel
theorem dX5_findMove_17 : decode cX5_findMove 17 = .ok (.istore 6, 2) := by decide +kernel
theorem dX5_findMove_19 : decode cX5_findMove 19 = .ok (.iconst 0, 1) := by decide +kernel
theorem dX5_findMove_20 : decode cX5_findMove 20 = .ok (.istore 7, 2) := by decide +kernel
theorem dX5_findMove_22 : decode cX5_findMove 22 = .ok (.iload 7, 2) := by decide +kernel
theorem dX5_findMove_24 : decode cX5_findMove 24 = .ok (.aload_n 1, 1) := by decide +kernel
theorem dX5_findMove_25 : decode cX5_findMove 25 = .ok (.getfield 38, 3) := by decide +kernel
theorem dX5_findMove_28 : decode cX5_findMove 28 = .ok (.getfield 100, 3) := by decide +kernel
theorem dX5_findMove_31 : decode cX5_findMove 31 = .ok (.if_icmp .gt 58, 3) := by decide +kernel
theorem dX5_findMove_34 : decode cX5_findMove 34 = .ok (.aload_n 1, 1) := by decide +kernel
theorem dX5_findMove_35 : decode cX5_findMove 35 = .ok (.getfield 38, 3) := by decide +kernel
theorem dX5_findMove_38 : decode cX5_findMove 38 = .ok (.iload 7, 2) := by decide +kernel
theorem dX5_findMove_40 : decode cX5_findMove 40 = .ok (.invokestatic 139, 3) := by decide +kernel
theorem dX5_findMove_43 : decode cX5_findMove 43 = .ok (.istore 8, 2) := by decide +kernel
theorem dX5_findMove_45 : decode cX5_findMove 45 = .ok (.aload_n 0, 1) := by decide +kernel
theorem dX5_findMove_46 : decode cX5_findMove 46 = .ok (.getfield 26, 3) := by decide +kernel
theorem dX5_findMove_49 : decode cX5_findMove 49 = .ok (.iload_n 2, 1) := by decide +kernel
theorem dX5_findMove_50 : decode cX5_findMove 50 = .ok (.iload 8, 2) := by decide +kernel
theorem dX5_findMove_52 : decode cX5_findMove 52 = .ok (.iastore, 1) := by decide +kernel
theorem dX5_findMove_53 : decode cX5_findMove 53 = .ok (.iload 8, 2) := by decide +kernel
theorem dX5_findMove_55 : decode cX5_findMove 55 = .ok (.iload 6, 2) := by decide +kernel
theorem dX5_findMove_57 : decode cX5_findMove 57 = .ok (.if_icmp .eq 26, 3) := by decide +kernel
theorem dX5_findMove_60 : decode cX5_findMove 60 = .ok (.aload_n 0, 1) := by decide +kernel
theorem dX5_findMove_61 : decode cX5_findMove 61 = .ok (.getfield 26, 3) := by decide +kernel
theorem dX5_findMove_64 : decode cX5_findMove 64 = .ok (.aload_n 1, 1) := by decide +kernel
theorem dX5_findMove_65 : decode cX5_findMove 65 = .ok (.iload_n 2, 1) := by decide +kernel
theorem dX5_findMove_66 : decode cX5_findMove 66 = .ok (.iload_n 3, 1) := by decide +kernel
theorem dX5_findMove_67 : decode cX5_findMove 67 = .ok (.iload 4, 2) := by decide +kernel
theorem dX5_findMove_69 : decode cX5_findMove 69 = .ok (.iconst 1, 1) := by decide +kernel
theorem dX5_findMove_70 : decode cX5_findMove 70 = .ok (.isub, 1) := by decide +kernel
theorem dX5_findMove_71 : decode cX5_findMove 71 = .ok (.iconst 0, 1) := by decide +kernel
theorem dX5_findMove_72 : decode cX5_findMove 72 = .ok (.invokestatic 135, 3) := by decide +kernel
theorem dX5_findMove_75 : decode cX5_findMove 75 = .ok (.iload 5, 2) := by decide +kernel
theorem dX5_findMove_77 : decode cX5_findMove 77 = .ok (.if_icmp .ne 6, 3) := by decide +kernel
theorem dX5_findMove_80 : decode cX5_findMove 80 = .ok (.iload 8, 2) := by decide +kernel
theorem dX5_findMove_82 : decode cX5_findMove 82 = .ok (.ireturn, 1) := by decide +kernel
theorem dX5_findMove_83 : decode cX5_findMove 83 = .ok (.iinc 7 1, 3) := by decide +kernel
theorem dX5_findMove_86 : decode cX5_findMove 86 = .ok (.goto (-64), 3) := by decide +kernel
theorem dX5_findMove_89 : decode cX5_findMove 89 = .ok (.iconst (-1), 1) := by decide +kernel
theorem dX5_findMove_90 : decode cX5_findMove 90 = .ok (.ireturn, 1) := by decide +kernel
theorem dX5_countAlly_0 : decode cX5_countAlly 0 = .ok (.aload_n 0, 1) := by decide +kernel
theorem dX5_countAlly_1 : decode cX5_countAlly 1 = .ok (.aload_n 1, 1) := by decide +kernel
theorem dX5_countAlly_2 : decode cX5_countAlly 2 = .ok (.invokevirtual 119, 3) := by decide +kernel
theorem dX5_countAlly_5 : decode cX5_countAlly 5 = .ok (.iconst 0, 1) := by decide +kernel
theorem dX5_countAlly_6 : decode cX5_countAlly 6 = .ok (.istore_n 3, 1) := by decide +kernel
theorem dX5_countAlly_7 : decode cX5_countAlly 7 = .ok (.iconst 0, 1) := by decide +kernel
theorem dX5_countAlly_8 : decode cX5_countAlly 8 = .ok (.istore 4, 2) := by decide +kernel
theorem dX5_countAlly_10 : decode cX5_countAlly 10 = .ok (.iload 4, 2) := by decide +kernel
theorem dX5_countAlly_12 : decode cX5_countAlly 12 = .ok (.aload_n 1, 1) := by decide +kernel
theorem dX5_countAlly_13 : decode cX5_countAlly 13 = .ok (.getfield 38, 3) := by decide +kernel
theorem dX5_countAlly_16 : decode cX5_countAlly 16 = .ok (.invokevirtual 150, 3) := by decide +kernel
theorem dX5_countAlly_19 : decode cX5_countAlly 19 = .ok (.if_icmp .ge 107, 3) := by decide +kernel
theorem dX5_countAlly_22 : decode cX5_countAlly 22 = .ok (.iconst 0, 1) := by decide +kernel
theorem dX5_countAlly_23 : decode cX5_countAlly 23 = .ok (.istore 5, 2) := by decide +kernel
theorem dX5_countAlly_25 : decode cX5_countAlly 25 = .ok (.iconst 0, 1) := by decide +kernel
theorem dX5_countAlly_26 : decode cX5_countAlly 26 = .ok (.istore 6, 2) := by decide +kernel
theorem dX5_countAlly_28 : decode cX5_countAlly 28 = .ok (.iconst 0, 1) := by decide +kernel
theorem dX5_countAlly_29 : decode cX5_countAlly 29 = .ok (.istore 7, 2) := by decide +kernel
theorem dX5_countAlly_31 : decode cX5_countAlly 31 = .ok (.iload 7, 2) := by decide +kernel
theorem dX5_countAlly_33 : decode cX5_countAlly 33 = .ok (.aload_n 1, 1) := by decide +kernel
theorem dX5_countAlly_34 : decode cX5_countAlly 34 = .ok (.getfield 38, 3) := by decide +kernel
theorem dX5_countAlly_37 : decode cX5_countAlly 37 = .ok (.getfield 154, 3) := by decide +kernel
theorem dX5_countAlly_40 : decode cX5_countAlly 40 = .ok (.if_icmp .ge 65, 3) := by decide +kernel
theorem dX5_countAlly_43 : decode cX5_countAlly 43 = .ok (.iload 7, 2) := by decide +kernel
theorem dX5_countAlly_45 : decode cX5_countAlly 45 = .ok (.bipush 6, 2) := by decide +kernel
theorem dX5_countAlly_47 : decode cX5_countAlly 47 = .ok (.if_icmp .ge 58, 3) := by decide +kernel
theorem dX5_countAlly_50 : decode cX5_countAlly 50 = .ok (.aload_n 1, 1) := by decide +kernel
theorem dX5_countAlly_51 : decode cX5_countAlly 51 = .ok (.getfield 67, 3) := by decide +kernel
theorem dX5_countAlly_54 : decode cX5_countAlly 54 = .ok (.iload 7, 2) := by decide +kernel
theorem dX5_countAlly_56 : decode cX5_countAlly 56 = .ok (.aload_n 0, 1) := by decide +kernel
theorem dX5_countAlly_57 : decode cX5_countAlly 57 = .ok (.getfield 26, 3) := by decide +kernel
theorem dX5_countAlly_60 : decode cX5_countAlly 60 = .ok (.iload 7, 2) := by decide +kernel
theorem dX5_countAlly_62 : decode cX5_countAlly 62 = .ok (.iaload, 1) := by decide +kernel
theorem dX5_countAlly_63 : decode cX5_countAlly 63 = .ok (.iload 4, 2) := by decide +kernel
theorem dX5_countAlly_65 : decode cX5_countAlly 65 = .ok (.invokevirtual 134, 3) := by decide +kernel
theorem dX5_countAlly_68 : decode cX5_countAlly 68 = .ok (.istore 8, 2) := by decide +kernel
theorem dX5_countAlly_70 : decode cX5_countAlly 70 = .ok (.iload_n 2, 1) := by decide +kernel
theorem dX5_countAlly_71 : decode cX5_countAlly 71 = .ok (.iload 7, 2) := by decide +kernel
theorem dX5_countAlly_73 : decode cX5_countAlly 73 = .ok (.ishr, 1) := by decide +kernel
theorem dX5_countAlly_74 : decode cX5_countAlly 74 = .ok (.iconst 1, 1) := by decide +kernel
theorem dX5_countAlly_75 : decode cX5_countAlly 75 = .ok (.iand, 1) := by decide +kernel
theorem dX5_countAlly_76 : decode cX5_countAlly 76 = .ok (.iconst 1, 1) := by decide +kernel
theorem dX5_countAlly_77 : decode cX5_countAlly 77 = .ok (.if_icmp .ne 13, 3) := by decide +kernel
theorem dX5_countAlly_80 : decode cX5_countAlly 80 = .ok (.iload 5, 2) := by decide +kernel
theorem dX5_countAlly_82 : decode cX5_countAlly 82 = .ok (.iload 8, 2) := by decide +kernel
theorem dX5_countAlly_84 : decode cX5_countAlly 84 = .ok (.iadd, 1) := by decide +kernel
theorem dX5_countAlly_85 : decode cX5_countAlly 85 = .ok (.istore 5, 2) := by decide +kernel
theorem dX5_countAlly_87 : decode cX5_countAlly 87 = .ok (.goto 12, 3) := by decide +kernel
theorem dX5_countAlly_90 : decode cX5_countAlly 90 = .ok (.iload 6, 2) := by decide +kernel
theorem dX5_countAlly_92 : decode cX5_countAlly 92 = .ok (.iload 8, 2) := by decide +kernel
theorem dX5_countAlly_94 : decode cX5_countAlly 94 = .ok (.invokestatic 103, 3) := by decide +kernel
theorem dX5_countAlly_97 : decode cX5_countAlly 97 = .ok (.istore 6, 2) := by decide +kernel
theorem dX5_countAlly_99 : decode cX5_countAlly 99 = .ok (.iinc 7 1, 3) := by decide +kernel
theorem dX5_countAlly_102 : decode cX5_countAlly 102 = .ok (.goto (-71), 3) := by decide +kernel
theorem dX5_countAlly_105 : decode cX5_countAlly 105 = .ok (.iload_n 3, 1) := by decide +kernel
theorem dX5_countAlly_106 : decode cX5_countAlly 106 = .ok (.iload 5, 2) := by decide +kernel
theorem dX5_countAlly_108 : decode cX5_countAlly 108 = .ok (.iload 6, 2) := by decide +kernel
theorem dX5_countAlly_110 : decode cX5_countAlly 110 = .ok (.if_icmp .le 7, 3) := by decide +kernel
theorem dX5_countAlly_113 : decode cX5_countAlly 113 = .ok (.iconst 1, 1) := by decide +kernel
theorem dX5_countAlly_114 : decode cX5_countAlly 114 = .ok (.goto 4, 3) := by decide +kernel
theorem dX5_countAlly_117 : decode cX5_countAlly 117 = .ok (.iconst 0, 1) := by decide +kernel
theorem dX5_countAlly_118 : decode cX5_countAlly 118 = .ok (.iadd, 1) := by decide +kernel
theorem dX5_countAlly_119 : decode cX5_countAlly 119 = .ok (.istore_n 3, 1) := by decide +kernel
theorem dX5_countAlly_120 : decode cX5_countAlly 120 = .ok (.iinc 4 1, 3) := by decide +kernel
theorem dX5_countAlly_123 : decode cX5_countAlly 123 = .ok (.goto (-113), 3) := by decide +kernel
theorem dX5_countAlly_126 : decode cX5_countAlly 126 = .ok (.iload_n 3, 1) := by decide +kernel
theorem dX5_countAlly_127 : decode cX5_countAlly 127 = .ok (.ireturn, 1) := by decide +kernel
theorem dX5_isStable_0 : decode cX5_isStable 0 = .ok (.aload_n 0, 1) := by decide +kernel
theorem dX5_isStable_1 : decode cX5_isStable 1 = .ok (.aload_n 1, 1) := by decide +kernel
theorem dX5_isStable_2 : decode cX5_isStable 2 = .ok (.iload_n 2, 1) := by decide +kernel
theorem dX5_isStable_3 : decode cX5_isStable 3 = .ok (.invokevirtual 157, 3) := by decide +kernel
theorem dX5_isStable_6 : decode cX5_isStable 6 = .ok (.istore_n 3, 1) := by decide +kernel
theorem dX5_isStable_7 : decode cX5_isStable 7 = .ok (.iload_n 2, 1) := by decide +kernel
theorem dX5_isStable_8 : decode cX5_isStable 8 = .ok (.invokestatic 161, 3) := by decide +kernel
theorem dX5_isStable_11 : decode cX5_isStable 11 = .ok (.istore 4, 2) := by decide +kernel
theorem dX5_isStable_13 : decode cX5_isStable 13 = .ok (.iconst 0, 1) := by decide +kernel
theorem dX5_isStable_14 : decode cX5_isStable 14 = .ok (.istore 5, 2) := by decide +kernel
theorem dX5_isStable_16 : decode cX5_isStable 16 = .ok (.iload 5, 2) := by decide +kernel
theorem dX5_isStable_18 : decode cX5_isStable 18 = .ok (.aload_n 1, 1) := by decide +kernel
theorem dX5_isStable_19 : decode cX5_isStable 19 = .ok (.getfield 38, 3) := by decide +kernel
theorem dX5_isStable_22 : decode cX5_isStable 22 = .ok (.getfield 154, 3) := by decide +kernel
theorem dX5_isStable_25 : decode cX5_isStable 25 = .ok (.if_icmp .ge 34, 3) := by decide +kernel
theorem dX5_isStable_28 : decode cX5_isStable 28 = .ok (.iload_n 2, 1) := by decide +kernel
theorem dX5_isStable_29 : decode cX5_isStable 29 = .ok (.iload 5, 2) := by decide +kernel
theorem dX5_isStable_31 : decode cX5_isStable 31 = .ok (.ishr, 1) := by decide +kernel
theorem dX5_isStable_32 : decode cX5_isStable 32 = .ok (.iconst 1, 1) := by decide +kernel
theorem dX5_isStable_33 : decode cX5_isStable 33 = .ok (.iand, 1) := by decide +kernel
theorem dX5_isStable_34 : decode cX5_isStable 34 = .ok (.iconst 1, 1) := by decide +kernel
theorem dX5_isStable_35 : decode cX5_isStable 35 = .ok (.if_icmp .ne 18, 3) := by decide +kernel
theorem dX5_isStable_38 : decode cX5_isStable 38 = .ok (.iload 4, 2) := by decide +kernel
theorem dX5_isStable_40 : decode cX5_isStable 40 = .ok (.aload_n 1, 1) := by decide +kernel
theorem dX5_isStable_41 : decode cX5_isStable 41 = .ok (.iload 5, 2) := by decide +kernel
theorem dX5_isStable_43 : decode cX5_isStable 43 = .ok (.invokevirtual 166, 3) := by decide +kernel
theorem dX5_isStable_46 : decode cX5_isStable 46 = .ok (.imul, 1) := by decide +kernel
theorem dX5_isStable_47 : decode cX5_isStable 47 = .ok (.iload_n 3, 1) := by decide +kernel
theorem dX5_isStable_48 : decode cX5_isStable 48 = .ok (.if_icmp .le 5, 3) := by decide +kernel
theorem dX5_isStable_51 : decode cX5_isStable 51 = .ok (.iconst 0, 1) := by decide +kernel
theorem dX5_isStable_52 : decode cX5_isStable 52 = .ok (.ireturn, 1) := by decide +kernel
theorem dX5_isStable_53 : decode cX5_isStable 53 = .ok (.iinc 5 1, 3) := by decide +kernel
theorem dX5_isStable_56 : decode cX5_isStable 56 = .ok (.goto (-40), 3) := by decide +kernel
theorem dX5_isStable_59 : decode cX5_isStable 59 = .ok (.iconst 1, 1) := by decide +kernel
theorem dX5_isStable_60 : decode cX5_isStable 60 = .ok (.ireturn, 1) := by decide +kernel
theorem dX5_findAlliance_0 : decode cX5_findAlliance 0 = .ok (.iconst (-1), 1) := by decide +kernel
theorem dX5_findAlliance_1 : decode cX5_findAlliance 1 = .ok (.istore_n 2, 1) := by decide +kernel
theorem dX5_findAlliance_2 : decode cX5_findAlliance 2 = .ok (.iconst (-1), 1) := by decide +kernel
theorem dX5_findAlliance_3 : decode cX5_findAlliance 3 = .ok (.istore_n 3, 1) := by decide +kernel
theorem dX5_findAlliance_4 : decode cX5_findAlliance 4 = .ok (.iconst 1, 1) := by decide +kernel
theorem dX5_findAlliance_5 : decode cX5_findAlliance 5 = .ok (.istore 4, 2) := by decide +kernel
theorem dX5_findAlliance_7 : decode cX5_findAlliance 7 = .ok (.iload 4, 2) := by decide +kernel
theorem dX5_findAlliance_9 : decode cX5_findAlliance 9 = .ok (.iconst 1, 1) := by decide +kernel
theorem dX5_findAlliance_10 : decode cX5_findAlliance 10 = .ok (.aload_n 1, 1) := by decide +kernel
theorem dX5_findAlliance_11 : decode cX5_findAlliance 11 = .ok (.getfield 38, 3) := by decide +kernel
theorem dX5_findAlliance_14 : decode cX5_findAlliance 14 = .ok (.getfield 154, 3) := by decide +kernel
theorem dX5_findAlliance_17 : decode cX5_findAlliance 17 = .ok (.ishl, 1) := by decide +kernel
theorem dX5_findAlliance_18 : decode cX5_findAlliance 18 = .ok (.if_icmp .ge 49, 3) := by decide +kernel
theorem dX5_findAlliance_21 : decode cX5_findAlliance 21 = .ok (.iload 4, 2) := by decide +kernel
theorem dX5_findAlliance_23 : decode cX5_findAlliance 23 = .ok (.invokestatic 161, 3) := by decide +kernel
theorem dX5_findAlliance_26 : decode cX5_findAlliance 26 = .ok (.iconst 2, 1) := by decide +kernel
theorem dX5_findAlliance_27 : decode cX5_findAlliance 27 = .ok (.if_icmp .lt 34, 3) := by decide +kernel
theorem dX5_findAlliance_30 : decode cX5_findAlliance 30 = .ok (.aload_n 0, 1) := by decide +kernel
theorem dX5_findAlliance_31 : decode cX5_findAlliance 31 = .ok (.aload_n 1, 1) := by decide +kernel
theorem dX5_findAlliance_32 : decode cX5_findAlliance 32 = .ok (.iload 4, 2) := by decide +kernel
theorem dX5_findAlliance_34 : decode cX5_findAlliance 34 = .ok (.invokevirtual 169, 3) := by decide +kernel
theorem dX5_findAlliance_37 : decode cX5_findAlliance 37 = .ok (.ifCond .eq 24, 3) := by decide +kernel
theorem dX5_findAlliance_40 : decode cX5_findAlliance 40 = .ok (.aload_n 0, 1) := by decide +kernel
theorem dX5_findAlliance_41 : decode cX5_findAlliance 41 = .ok (.aload_n 1, 1) := by decide +kernel
theorem dX5_findAlliance_42 : decode cX5_findAlliance 42 = .ok (.iload 4, 2) := by decide +kernel
theorem dX5_findAlliance_44 : decode cX5_findAlliance 44 = .ok (.invokevirtual 157, 3) := by decide +kernel
theorem dX5_findAlliance_47 : decode cX5_findAlliance 47 = .ok (.istore 5, 2) := by decide +kernel
theorem dX5_findAlliance_49 : decode cX5_findAlliance 49 = .ok (.iload 5, 2) := by decide +kernel
theorem dX5_findAlliance_51 : decode cX5_findAlliance 51 = .ok (.iload_n 3, 1) := by decide +kernel
theorem dX5_findAlliance_52 : decode cX5_findAlliance 52 = .ok (.if_icmp .le 9, 3) := by decide +kernel
theorem dX5_findAlliance_55 : decode cX5_findAlliance 55 = .ok (.iload 5, 2) := by decide +kernel
theorem dX5_findAlliance_57 : decode cX5_findAlliance 57 = .ok (.istore_n 3, 1) := by decide +kernel
theorem dX5_findAlliance_58 : decode cX5_findAlliance 58 = .ok (.iload 4, 2) := by decide +kernel
theorem dX5_findAlliance_60 : decode cX5_findAlliance 60 = .ok (.istore_n 2, 1) := by decide +kernel
theorem dX5_findAlliance_61 : decode cX5_findAlliance 61 = .ok (.iinc 4 1, 3) := by decide +kernel
theorem dX5_findAlliance_64 : decode cX5_findAlliance 64 = .ok (.goto (-57), 3) := by decide +kernel
theorem dX5_findAlliance_67 : decode cX5_findAlliance 67 = .ok (.iload_n 2, 1) := by decide +kernel
theorem dX5_findAlliance_68 : decode cX5_findAlliance 68 = .ok (.ireturn, 1) := by decide +kernel
theorem dX5_findQuiet_0 : decode cX5_findQuiet 0 = .ok (.iconst 0, 1) := by decide +kernel
theorem dX5_findQuiet_1 : decode cX5_findQuiet 1 = .ok (.istore 4, 2) := by decide +kernel
theorem dX5_findQuiet_3 : decode cX5_findQuiet 3 = .ok (.iload 4, 2) := by decide +kernel
theorem dX5_findQuiet_5 : decode cX5_findQuiet 5 = .ok (.aload_n 1, 1) := by decide +kernel
theorem dX5_findQuiet_6 : decode cX5_findQuiet 6 = .ok (.getfield 38, 3) := by decide +kernel
theorem dX5_findQuiet_9 : decode cX5_findQuiet 9 = .ok (.invokevirtual 150, 3) := by decide +kernel
theorem dX5_findQuiet_12 : decode cX5_findQuiet 12 = .ok (.if_icmp .ge 22, 3) := by decide +kernel
theorem dX5_findQuiet_15 : decode cX5_findQuiet 15 = .ok (.aload_n 0, 1) := by decide +kernel
theorem dX5_findQuiet_16 : decode cX5_findQuiet 16 = .ok (.getfield 29, 3) := by decide +kernel
theorem dX5_findQuiet_19 : decode cX5_findQuiet 19 = .ok (.iload 4, 2) := by decide +kernel
theorem dX5_findQuiet_21 : decode cX5_findQuiet 21 = .ok (.aload_n 1, 1) := by decide +kernel
theorem dX5_findQuiet_22 : decode cX5_findQuiet 22 = .ok (.iload 4, 2) := by decide +kernel
theorem dX5_findQuiet_24 : decode cX5_findQuiet 24 = .ok (.invokevirtual 173, 3) := by decide +kernel
theorem dX5_findQuiet_27 : decode cX5_findQuiet 27 = .ok (.iastore, 1) := by decide +kernel
theorem dX5_findQuiet_28 : decode cX5_findQuiet 28 = .ok (.iinc 4 1, 3) := by decide +kernel
theorem dX5_findQuiet_31 : decode cX5_findQuiet 31 = .ok (.goto (-28), 3) := by decide +kernel
theorem dX5_findQuiet_34 : decode cX5_findQuiet 34 = .ok (.bipush 40, 2) := by decide +kernel
theorem dX5_findQuiet_36 : decode cX5_findQuiet 36 = .ok (.istore 4, 2) := by decide +kernel
theorem dX5_findQuiet_38 : decode cX5_findQuiet 38 = .ok (.iconst 0, 1) := by decide +kernel
theorem dX5_findQuiet_39 : decode cX5_findQuiet 39 = .ok (.istore 5, 2) := by decide +kernel
theorem dX5_findQuiet_41 : decode cX5_findQuiet 41 = .ok (.iload 5, 2) := by decide +kernel
theorem dX5_findQuiet_43 : decode cX5_findQuiet 43 = .ok (.iload 4, 2) := by decide +kernel
theorem dX5_findQuiet_45 : decode cX5_findQuiet 45 = .ok (.if_icmp .ge 28, 3) := by decide +kernel
theorem dX5_findQuiet_48 : decode cX5_findQuiet 48 = .ok (.aload_n 0, 1) := by decide +kernel
theorem dX5_findQuiet_49 : decode cX5_findQuiet 49 = .ok (.aload_n 1, 1) := by decide +kernel
theorem dX5_findQuiet_50 : decode cX5_findQuiet 50 = .ok (.getfield 38, 3) := by decide +kernel
theorem dX5_findQuiet_53 : decode cX5_findQuiet 53 = .ok (.iload_n 2, 1) := by decide +kernel
theorem dX5_findQuiet_54 : decode cX5_findQuiet 54 = .ok (.iload_n 3, 1) := by decide +kernel
theorem dX5_findQuiet_55 : decode cX5_findQuiet 55 = .ok (.iload 5, 2) := by decide +kernel
theorem dX5_findQuiet_57 : decode cX5_findQuiet 57 = .ok (.invokevirtual 176, 3) := by decide +kernel
theorem dX5_findQuiet_60 : decode cX5_findQuiet 60 = .ok (.iconst (-1), 1) := by decide +kernel
theorem dX5_findQuiet_61 : decode cX5_findQuiet 61 = .ok (.if_icmp .eq 6, 3) := by decide +kernel
theorem dX5_findQuiet_64 : decode cX5_findQuiet 64 = .ok (.iload 5, 2) := by decide +kernel
theorem dX5_findQuiet_66 : decode cX5_findQuiet 66 = .ok (.ireturn, 1) := by decide +kernel
theorem dX5_findQuiet_67 : decode cX5_findQuiet 67 = .ok (.iinc 5 1, 3) := by decide +kernel
theorem dX5_findQuiet_70 : decode cX5_findQuiet 70 = .ok (.goto (-29), 3) := by decide +kernel
theorem dX5_findQuiet_73 : decode cX5_findQuiet 73 = .ok (.iload 4, 2) := by decide +kernel
theorem dX5_findQuiet_75 : decode cX5_findQuiet 75 = .ok (.ireturn, 1) := by decide +kernel
theorem dX5_countSteps_0 : decode cX5_countSteps 0 = .ok (.aload_n 1, 1) := by decide +kernel
theorem dX5_countSteps_1 : decode cX5_countSteps 1 = .ok (.invokevirtual 150, 3) := by decide +kernel
theorem dX5_countSteps_4 : decode cX5_countSteps 4 = .ok (.istore 5, 2) := by decide +kernel
theorem dX5_countSteps_6 : decode cX5_countSteps 6 = .ok (.iload_n 2, 1) := by decide +kernel
theorem dX5_countSteps_7 : decode cX5_countSteps 7 = .ok (.ifCond .lt 23, 3) := by decide +kernel
theorem dX5_countSteps_10 : decode cX5_countSteps 10 = .ok (.iload_n 2, 1) := by decide +kernel
theorem dX5_countSteps_11 : decode cX5_countSteps 11 = .ok (.iload 5, 2) := by decide +kernel
theorem dX5_countSteps_13 : decode cX5_countSteps 13 = .ok (.if_icmp .ge 17, 3) := by decide +kernel
theorem dX5_countSteps_16 : decode cX5_countSteps 16 = .ok (.iload_n 3, 1) := by decide +kernel
theorem dX5_countSteps_17 : decode cX5_countSteps 17 = .ok (.ifCond .lt 13, 3) := by decide +kernel
theorem dX5_countSteps_20 : decode cX5_countSteps 20 = .ok (.iload_n 3, 1) := by decide +kernel
theorem dX5_countSteps_21 : decode cX5_countSteps 21 = .ok (.iload 5, 2) := by decide +kernel
theorem dX5_countSteps_23 : decode cX5_countSteps 23 = .ok (.if_icmp .ge 7, 3) := by decide +kernel
theorem dX5_countSteps_26 : decode cX5_countSteps 26 = .ok (.iconst 1, 1) := by decide +kernel
theorem dX5_countSteps_27 : decode cX5_countSteps 27 = .ok (.goto 4, 3) := by decide +kernel
theorem dX5_countSteps_30 : decode cX5_countSteps 30 = .ok (.iconst 0, 1) := by decide +kernel
theorem dX5_countSteps_31 : decode cX5_countSteps 31 = .ok (.istore 6, 2) := by decide +kernel
theorem dX5_countSteps_33 : decode cX5_countSteps 33 = .ok (.iload 6, 2) := by decide +kernel
theorem dX5_countSteps_35 : decode cX5_countSteps 35 = .ok (.ifCond .eq 21, 3) := by decide +kernel
theorem dX5_countSteps_38 : decode cX5_countSteps 38 = .ok (.aload_n 1, 1) := by decide +kernel
theorem dX5_countSteps_39 : decode cX5_countSteps 39 = .ok (.getfield 179, 3) := by decide +kernel
theorem dX5_countSteps_42 : decode cX5_countSteps 42 = .ok (.ifCond .le 14, 3) := by decide +kernel
theorem dX5_countSteps_45 : decode cX5_countSteps 45 = .ok (.aload_n 0, 1) := by decide +kernel
theorem dX5_countSteps_46 : decode cX5_countSteps 46 = .ok (.getfield 29, 3) := by decide +kernel
theorem dX5_countSteps_49 : decode cX5_countSteps 49 = .ok (.iload_n 2, 1) := by decide +kernel
theorem dX5_countSteps_50 : decode cX5_countSteps 50 = .ok (.iaload, 1) := by decide +kernel
theorem dX5_countSteps_51 : decode cX5_countSteps 51 = .ok (.iload 4, 2) := by decide +kernel
theorem dX5_countSteps_53 : decode cX5_countSteps 53 = .ok (.if_icmp .le 5, 3) := by decide +kernel
theorem dX5_countSteps_56 : decode cX5_countSteps 56 = .ok (.iconst (-1), 1) := by decide +kernel
theorem dX5_countSteps_57 : decode cX5_countSteps 57 = .ok (.ireturn, 1) := by decide +kernel
theorem dX5_countSteps_58 : decode cX5_countSteps 58 = .ok (.iconst 0, 1) := by decide +kernel
theorem dX5_countSteps_59 : decode cX5_countSteps 59 = .ok (.istore 7, 2) := by decide +kernel
theorem dX5_countSteps_61 : decode cX5_countSteps 61 = .ok (.iload 7, 2) := by decide +kernel
theorem dX5_countSteps_63 : decode cX5_countSteps 63 = .ok (.iload 5, 2) := by decide +kernel
theorem dX5_countSteps_65 : decode cX5_countSteps 65 = .ok (.if_icmp .ge 17, 3) := by decide +kernel
theorem dX5_countSteps_68 : decode cX5_countSteps 68 = .ok (.aload_n 0, 1) := by decide +kernel
theorem dX5_countSteps_69 : decode cX5_countSteps 69 = .ok (.getfield 32, 3) := by decide +kernel
theorem dX5_countSteps_72 : decode cX5_countSteps 72 = .ok (.iload 7, 2) := by decide +kernel
theorem dX5_countSteps_74 : decode cX5_countSteps 74 = .ok (.iconst (-1), 1) := by decide +kernel
theorem dX5_countSteps_75 : decode cX5_countSteps 75 = .ok (.iastore, 1) := by decide +kernel
theorem dX5_countSteps_76 : decode cX5_countSteps 76 = .ok (.iinc 7 1, 3) := by decide +kernel
theorem dX5_countSteps_79 : decode cX5_countSteps 79 = .ok (.goto (-18), 3) := by decide +kernel
theorem dX5_countSteps_82 : decode cX5_countSteps 82 = .ok (.aload_n 0, 1) := by decide +kernel
theorem dX5_countSteps_83 : decode cX5_countSteps 83 = .ok (.getfield 32, 3) := by decide +kernel
theorem dX5_countSteps_86 : decode cX5_countSteps 86 = .ok (.iload_n 2, 1) := by decide +kernel
theorem dX5_countSteps_87 : decode cX5_countSteps 87 = .ok (.iconst 0, 1) := by decide +kernel
theorem dX5_countSteps_88 : decode cX5_countSteps 88 = .ok (.iastore, 1) := by decide +kernel
theorem dX5_countSteps_89 : decode cX5_countSteps 89 = .ok (.aload_n 0, 1) := by decide +kernel
theorem dX5_countSteps_90 : decode cX5_countSteps 90 = .ok (.getfield 35, 3) := by decide +kernel
theorem dX5_countSteps_93 : decode cX5_countSteps 93 = .ok (.iconst 0, 1) := by decide +kernel
theorem dX5_countSteps_94 : decode cX5_countSteps 94 = .ok (.iload_n 2, 1) := by decide +kernel
theorem dX5_countSteps_95 : decode cX5_countSteps 95 = .ok (.iastore, 1) := by decide +kernel
theorem dX5_countSteps_96 : decode cX5_countSteps 96 = .ok (.iconst 1, 1) := by decide +kernel
theorem dX5_countSteps_97 : decode cX5_countSteps 97 = .ok (.istore 7, 2) := by decide +kernel
theorem dX5_countSteps_99 : decode cX5_countSteps 99 = .ok (.iconst 0, 1) := by decide +kernel
theorem dX5_countSteps_100 : decode cX5_countSteps 100 = .ok (.istore 8, 2) := by decide +kernel
theorem dX5_countSteps_102 : decode cX5_countSteps 102 = .ok (.iload 8, 2) := by decide +kernel
theorem dX5_countSteps_104 : decode cX5_countSteps 104 = .ok (.iload 7, 2) := by decide +kernel
theorem dX5_countSteps_106 : decode cX5_countSteps 106 = .ok (.if_icmp .ge 148, 3) := by decide +kernel
theorem dX5_countSteps_109 : decode cX5_countSteps 109 = .ok (.iload 8, 2) := by decide +kernel
theorem dX5_countSteps_111 : decode cX5_countSteps 111 = .ok (.iload 5, 2) := by decide +kernel
theorem dX5_countSteps_113 : decode cX5_countSteps 113 = .ok (.if_icmp .ge 141, 3) := by decide +kernel
theorem dX5_countSteps_116 : decode cX5_countSteps 116 = .ok (.aload_n 0, 1) := by decide +kernel
theorem dX5_countSteps_117 : decode cX5_countSteps 117 = .ok (.getfield 35, 3) := by decide +kernel
theorem dX5_countSteps_120 : decode cX5_countSteps 120 = .ok (.iload 8, 2) := by decide +kernel
theorem dX5_countSteps_122 : decode cX5_countSteps 122 = .ok (.iaload, 1) := by decide +kernel
theorem dX5_countSteps_123 : decode cX5_countSteps 123 = .ok (.aload_n 1, 1) := by decide +kernel
theorem dX5_countSteps_124 : decode cX5_countSteps 124 = .ok (.getfield 179, 3) := by decide +kernel
theorem dX5_countSteps_127 : decode cX5_countSteps 127 = .ok (.irem, 1) := by decide +kernel
theorem dX5_countSteps_128 : decode cX5_countSteps 128 = .ok (.istore 9, 2) := by decide +kernel
theorem dX5_countSteps_130 : decode cX5_countSteps 130 = .ok (.aload_n 0, 1) := by decide +kernel
theorem dX5_countSteps_131 : decode cX5_countSteps 131 = .ok (.getfield 35, 3) := by decide +kernel
theorem dX5_countSteps_134 : decode cX5_countSteps 134 = .ok (.iload 8, 2) := by decide +kernel
theorem dX5_countSteps_136 : decode cX5_countSteps 136 = .ok (.iaload, 1) := by decide +kernel
theorem dX5_countSteps_137 : decode cX5_countSteps 137 = .ok (.aload_n 1, 1) := by decide +kernel
theorem dX5_countSteps_138 : decode cX5_countSteps 138 = .ok (.getfield 179, 3) := by decide +kernel
theorem dX5_countSteps_141 : decode cX5_countSteps 141 = .ok (.idiv, 1) := by decide +kernel
theorem dX5_countSteps_142 : decode cX5_countSteps 142 = .ok (.istore 10, 2) := by decide +kernel
theorem dX5_countSteps_144 : decode cX5_countSteps 144 = .ok (.aload_n 0, 1) := by decide +kernel
theorem dX5_countSteps_145 : decode cX5_countSteps 145 = .ok (.getfield 32, 3) := by decide +kernel
theorem dX5_countSteps_148 : decode cX5_countSteps 148 = .ok (.aload_n 0, 1) := by decide +kernel
theorem dX5_countSteps_149 : decode cX5_countSteps 149 = .ok (.getfield 35, 3) := by decide +kernel
theorem dX5_countSteps_152 : decode cX5_countSteps 152 = .ok (.iload 8, 2) := by decide +kernel
theorem dX5_countSteps_154 : decode cX5_countSteps 154 = .ok (.iaload, 1) := by decide +kernel
theorem dX5_countSteps_155 : decode cX5_countSteps 155 = .ok (.iaload, 1) := by decide +kernel
theorem dX5_countSteps_156 : decode cX5_countSteps 156 = .ok (.iconst 1, 1) := by decide +kernel
theorem dX5_countSteps_157 : decode cX5_countSteps 157 = .ok (.iadd, 1) := by decide +kernel
theorem dX5_countSteps_158 : decode cX5_countSteps 158 = .ok (.istore 11, 2) := by decide +kernel
theorem dX5_countSteps_160 : decode cX5_countSteps 160 = .ok (.aload_n 0, 1) := by decide +kernel
theorem dX5_countSteps_161 : decode cX5_countSteps 161 = .ok (.aload_n 1, 1) := by decide +kernel
theorem dX5_countSteps_162 : decode cX5_countSteps 162 = .ok (.iload 9, 2) := by decide +kernel
theorem dX5_countSteps_164 : decode cX5_countSteps 164 = .ok (.iconst 1, 1) := by decide +kernel
theorem dX5_countSteps_165 : decode cX5_countSteps 165 = .ok (.iadd, 1) := by decide +kernel
theorem dX5_countSteps_166 : decode cX5_countSteps 166 = .ok (.iload 10, 2) := by decide +kernel
theorem dX5_countSteps_168 : decode cX5_countSteps 168 = .ok (.invokevirtual 182, 3) := by decide +kernel
theorem dX5_countSteps_171 : decode cX5_countSteps 171 = .ok (.iload 4, 2) := by decide +kernel
theorem dX5_countSteps_173 : decode cX5_countSteps 173 = .ok (.iload 11, 2) := by decide +kernel
theorem dX5_countSteps_175 : decode cX5_countSteps 175 = .ok (.iload 7, 2) := by decide +kernel
theorem dX5_countSteps_177 : decode cX5_countSteps 177 = .ok (.invokevirtual 185, 3) := by decide +kernel
theorem dX5_countSteps_180 : decode cX5_countSteps 180 = .ok (.istore 7, 2) := by decide +kernel
theorem dX5_countSteps_182 : decode cX5_countSteps 182 = .ok (.aload_n 0, 1) := by decide +kernel
theorem dX5_countSteps_183 : decode cX5_countSteps 183 = .ok (.aload_n 1, 1) := by decide +kernel
theorem dX5_countSteps_184 : decode cX5_countSteps 184 = .ok (.iload 9, 2) := by decide +kernel
theorem dX5_countSteps_186 : decode cX5_countSteps 186 = .ok (.iload 10, 2) := by decide +kernel
theorem dX5_countSteps_188 : decode cX5_countSteps 188 = .ok (.iconst 1, 1) := by decide +kernel
theorem dX5_countSteps_189 : decode cX5_countSteps 189 = .ok (.iadd, 1) := by decide +kernel
theorem dX5_countSteps_190 : decode cX5_countSteps 190 = .ok (.invokevirtual 182, 3) := by decide +kernel
theorem dX5_countSteps_193 : decode cX5_countSteps 193 = .ok (.iload 4, 2) := by decide +kernel
theorem dX5_countSteps_195 : decode cX5_countSteps 195 = .ok (.iload 11, 2) := by decide +kernel
theorem dX5_countSteps_197 : decode cX5_countSteps 197 = .ok (.iload 7, 2) := by decide +kernel
theorem dX5_countSteps_199 : decode cX5_countSteps 199 = .ok (.invokevirtual 185, 3) := by decide +kernel
theorem dX5_countSteps_202 : decode cX5_countSteps 202 = .ok (.istore 7, 2) := by decide +kernel
theorem dX5_countSteps_204 : decode cX5_countSteps 204 = .ok (.aload_n 0, 1) := by decide +kernel
theorem dX5_countSteps_205 : decode cX5_countSteps 205 = .ok (.aload_n 1, 1) := by decide +kernel
theorem dX5_countSteps_206 : decode cX5_countSteps 206 = .ok (.iload 9, 2) := by decide +kernel
theorem dX5_countSteps_208 : decode cX5_countSteps 208 = .ok (.iconst 1, 1) := by decide +kernel
theorem dX5_countSteps_209 : decode cX5_countSteps 209 = .ok (.isub, 1) := by decide +kernel
theorem dX5_countSteps_210 : decode cX5_countSteps 210 = .ok (.iload 10, 2) := by decide +kernel
theorem dX5_countSteps_212 : decode cX5_countSteps 212 = .ok (.invokevirtual 182, 3) := by decide +kernel
theorem dX5_countSteps_215 : decode cX5_countSteps 215 = .ok (.iload 4, 2) := by decide +kernel
theorem dX5_countSteps_217 : decode cX5_countSteps 217 = .ok (.iload 11, 2) := by decide +kernel
theorem dX5_countSteps_219 : decode cX5_countSteps 219 = .ok (.iload 7, 2) := by decide +kernel
theorem dX5_countSteps_221 : decode cX5_countSteps 221 = .ok (.invokevirtual 185, 3) := by decide +kernel
theorem dX5_countSteps_224 : decode cX5_countSteps 224 = .ok (.istore 7, 2) := by decide +kernel
theorem dX5_countSteps_226 : decode cX5_countSteps 226 = .ok (.aload_n 0, 1) := by decide +kernel
theorem dX5_countSteps_227 : decode cX5_countSteps 227 = .ok (.aload_n 1, 1) := by decide +kernel
theorem dX5_countSteps_228 : decode cX5_countSteps 228 = .ok (.iload 9, 2) := by decide +kernel
theorem dX5_countSteps_230 : decode cX5_countSteps 230 = .ok (.iload 10, 2) := by decide +kernel
theorem dX5_countSteps_232 : decode cX5_countSteps 232 = .ok (.iconst 1, 1) := by decide +kernel
theorem dX5_countSteps_233 : decode cX5_countSteps 233 = .ok (.isub, 1) := by decide +kernel
theorem dX5_countSteps_234 : decode cX5_countSteps 234 = .ok (.invokevirtual 182, 3) := by decide +kernel
theorem dX5_countSteps_237 : decode cX5_countSteps 237 = .ok (.iload 4, 2) := by decide +kernel
theorem dX5_countSteps_239 : decode cX5_countSteps 239 = .ok (.iload 11, 2) := by decide +kernel
theorem dX5_countSteps_241 : decode cX5_countSteps 241 = .ok (.iload 7, 2) := by decide +kernel
theorem dX5_countSteps_243 : decode cX5_countSteps 243 = .ok (.invokevirtual 185, 3) := by decide +kernel
theorem dX5_countSteps_246 : decode cX5_countSteps 246 = .ok (.istore 7, 2) := by decide +kernel
theorem dX5_countSteps_248 : decode cX5_countSteps 248 = .ok (.iinc 8 1, 3) := by decide +kernel
theorem dX5_countSteps_251 : decode cX5_countSteps 251 = .ok (.goto (-149), 3) := by decide +kernel
theorem dX5_countSteps_254 : decode cX5_countSteps 254 = .ok (.aload_n 0, 1) := by decide +kernel
theorem dX5_countSteps_255 : decode cX5_countSteps 255 = .ok (.getfield 32, 3) := by decide +kernel
theorem dX5_countSteps_258 : decode cX5_countSteps 258 = .ok (.iload_n 3, 1) := by decide +kernel
theorem dX5_countSteps_259 : decode cX5_countSteps 259 = .ok (.iaload, 1) := by decide +kernel
theorem dX5_countSteps_260 : decode cX5_countSteps 260 = .ok (.ireturn, 1) := by decide +kernel
theorem dX5_reach_0 : decode cX5_reach 0 = .ok (.iload_n 1, 1) := by decide +kernel
theorem dX5_reach_1 : decode cX5_reach 1 = .ok (.ifCond .lt 23, 3) := by decide +kernel
theorem dX5_reach_4 : decode cX5_reach 4 = .ok (.iload_n 1, 1) := by decide +kernel
theorem dX5_reach_5 : decode cX5_reach 5 = .ok (.bipush 30, 2) := by decide +kernel
theorem dX5_reach_7 : decode cX5_reach 7 = .ok (.if_icmp .ge 17, 3) := by decide +kernel
theorem dX5_reach_10 : decode cX5_reach 10 = .ok (.aload_n 0, 1) := by decide +kernel
theorem dX5_reach_11 : decode cX5_reach 11 = .ok (.getfield 32, 3) := by decide +kernel
theorem dX5_reach_14 : decode cX5_reach 14 = .ok (.iload_n 1, 1) := by decide +kernel
theorem dX5_reach_15 : decode cX5_reach 15 = .ok (.iaload, 1) := by decide +kernel
theorem dX5_reach_16 : decode cX5_reach 16 = .ok (.iconst (-1), 1) := by decide +kernel
theorem dX5_reach_17 : decode cX5_reach 17 = .ok (.if_icmp .ne 7, 3) := by decide +kernel
theorem dX5_reach_20 : decode cX5_reach 20 = .ok (.iconst 1, 1) := by decide +kernel
theorem dX5_reach_21 : decode cX5_reach 21 = .ok (.goto 4, 3) := by decide +kernel
theorem dX5_reach_24 : decode cX5_reach 24 = .ok (.iconst 0, 1) := by decide +kernel
theorem dX5_reach_25 : decode cX5_reach 25 = .ok (.istore 5, 2) := by decide +kernel
theorem dX5_reach_27 : decode cX5_reach 27 = .ok (.iload 5, 2) := by decide +kernel
theorem dX5_reach_29 : decode cX5_reach 29 = .ok (.ifCond .eq 20, 3) := by decide +kernel
theorem dX5_reach_32 : decode cX5_reach 32 = .ok (.aload_n 0, 1) := by decide +kernel
theorem dX5_reach_33 : decode cX5_reach 33 = .ok (.getfield 29, 3) := by decide +kernel
theorem dX5_reach_36 : decode cX5_reach 36 = .ok (.iload_n 1, 1) := by decide +kernel
theorem dX5_reach_37 : decode cX5_reach 37 = .ok (.iaload, 1) := by decide +kernel
theorem dX5_reach_38 : decode cX5_reach 38 = .ok (.iload_n 2, 1) := by decide +kernel
theorem dX5_reach_39 : decode cX5_reach 39 = .ok (.if_icmp .gt 10, 3) := by decide +kernel
theorem dX5_reach_42 : decode cX5_reach 42 = .ok (.iload 4, 2) := by decide +kernel
theorem dX5_reach_44 : decode cX5_reach 44 = .ok (.bipush 30, 2) := by decide +kernel
theorem dX5_reach_46 : decode cX5_reach 46 = .ok (.if_icmp .lt 6, 3) := by decide +kernel
theorem dX5_reach_49 : decode cX5_reach 49 = .ok (.iload 4, 2) := by decide +kernel
theorem dX5_reach_51 : decode cX5_reach 51 = .ok (.ireturn, 1) := by decide +kernel
theorem dX5_reach_52 : decode cX5_reach 52 = .ok (.aload_n 0, 1) := by decide +kernel
theorem dX5_reach_53 : decode cX5_reach 53 = .ok (.getfield 32, 3) := by decide +kernel
theorem dX5_reach_56 : decode cX5_reach 56 = .ok (.iload_n 1, 1) := by decide +kernel
theorem dX5_reach_57 : decode cX5_reach 57 = .ok (.iload_n 3, 1) := by decide +kernel
theorem dX5_reach_58 : decode cX5_reach 58 = .ok (.iastore, 1) := by decide +kernel
theorem dX5_reach_59 : decode cX5_reach 59 = .ok (.aload_n 0, 1) := by decide +kernel
theorem dX5_reach_60 : decode cX5_reach 60 = .ok (.getfield 35, 3) := by decide +kernel
theorem dX5_reach_63 : decode cX5_reach 63 = .ok (.iload 4, 2) := by decide +kernel
theorem dX5_reach_65 : decode cX5_reach 65 = .ok (.iload_n 1, 1) := by decide +kernel
theorem dX5_reach_66 : decode cX5_reach 66 = .ok (.iastore, 1) := by decide +kernel
theorem dX5_reach_67 : decode cX5_reach 67 = .ok (.iload 4, 2) := by decide +kernel
theorem dX5_reach_69 : decode cX5_reach 69 = .ok (.iconst 1, 1) := by decide +kernel
theorem dX5_reach_70 : decode cX5_reach 70 = .ok (.iadd, 1) := by decide +kernel
theorem dX5_reach_71 : decode cX5_reach 71 = .ok (.ireturn, 1) := by decide +kernel
