theorem dX6_init_0 : decode cX6_init 0 = .ok (.aload_n 0, 1) := by decide +kernel
theorem dX6_init_1 : decode cX6_init 1 = .ok (.invokespecial 3, 3) := by decide +kernel
theorem dX6_init_4 : decode cX6_init 4 = .ok (.aload_n 0, 1) := by decide +kernel
theorem dX6_init_5 : decode cX6_init 5 = .ok (.bipush 6, 2) := by decide +kernel
theorem dX6_init_7 : decode cX6_init 7 = .ok (.bipush 30, 2) := by decide +kernel
theorem dX6_init_9 : decode cX6_init 9 = .ok (.multianewarray 9 2, 4) := by decide +kernel
theorem dX6_init_13 : decode cX6_init 13 = .ok (.putfield 11, 3) := by decide +kernel
theorem dX6_init_16 : decode cX6_init 16 = .ok (.aload_n 0, 1) := by decide +kernel
theorem dX6_init_17 : decode cX6_init 17 = .ok (.bipush 64, 2) := by decide +kernel
theorem dX6_init_19 : decode cX6_init 19 = .ok (.newarray .int, 2) := by decide +kernel
theorem dX6_init_21 : decode cX6_init 21 = .ok (.putfield 16, 3) := by decide +kernel
theorem dX6_init_24 : decode cX6_init 24 = .ok (.aload_n 0, 1) := by decide +kernel
theorem dX6_init_25 : decode cX6_init 25 = .ok (.sipush 384, 3) := by decide +kernel
theorem dX6_init_28 : decode cX6_init 28 = .ok (.newarray .int, 2) := by decide +kernel
theorem dX6_init_30 : decode cX6_init 30 = .ok (.putfield 20, 3) := by decide +kernel
theorem dX6_init_33 : decode cX6_init 33 = .ok (.aload_n 0, 1) := by decide +kernel
theorem dX6_init_34 : decode cX6_init 34 = .ok (.sipush 384, 3) := by decide +kernel
theorem dX6_init_37 : decode cX6_init 37 = .ok (.newarray .int, 2) := by decide +kernel
theorem dX6_init_39 : decode cX6_init 39 = .ok (.putfield 23, 3) := by decide +kernel
theorem dX6_init_42 : decode cX6_init 42 = .ok (.aload_n 0, 1) := by decide +kernel
theorem dX6_init_43 : decode cX6_init 43 = .ok (.iconst (-1), 1) := by decide +kernel
theorem dX6_init_44 : decode cX6_init 44 = .ok (.putfield 26, 3) := by decide +kernel
theorem dX6_init_47 : decode cX6_init 47 = .ok (.aload_n 0, 1) := by decide +kernel
theorem dX6_init_48 : decode cX6_init 48 = .ok (.aload_n 1, 1) := by decide +kernel
theorem dX6_init_49 : decode cX6_init 49 = .ok (.putfield 30, 3) := by decide +kernel
theorem dX6_init_52 : decode cX6_init 52 = .ok (.return_, 1) := by decide +kernel
theorem dX6_refresh_0 : decode cX6_refresh 0 = .ok (.aload_n 0, 1) := by decide +kernel
theorem dX6_refresh_1 : decode cX6_refresh 1 = .ok (.getfield 26, 3) := by decide +kernel
theorem dX6_refresh_4 : decode cX6_refresh 4 = .ok (.aload_n 0, 1) := by decide +kernel
theorem dX6_refresh_5 : decode cX6_refresh 5 = .ok (.getfield 30, 3) := by decide +kernel
theorem dX6_refresh_8 : decode cX6_refresh 8 = .ok (.getfield 34, 3) := by decide +kernel
theorem dX6_refresh_11 : decode cX6_refresh 11 = .ok (.if_icmp .ne 4, 3) := by decide +kernel
theorem dX6_refresh_14 : decode cX6_refresh 14 = .ok (.return_, 1) := by decide +kernel
theorem dX6_refresh_15 : decode cX6_refresh 15 = .ok (.aload_n 0, 1) := by decide +kernel
theorem dX6_refresh_16 : decode cX6_refresh 16 = .ok (.aload_n 0, 1) := by decide +kernel
theorem dX6_refresh_17 : decode cX6_refresh 17 = .ok (.getfield 30, 3) := by decide +kernel
theorem dX6_refresh_20 : decode cX6_refresh 20 = .ok (.getfield 34, 3) := by decide +kernel
theorem dX6_refresh_23 : decode cX6_refresh 23 = .ok (.putfield 26, 3) := by decide +kernel
theorem dX6_refresh_26 : decode cX6_refresh 26 = .ok (.iconst 0, 1) := by decide +kernel
theorem dX6_refresh_27 : decode cX6_refresh 27 = .ok (.istore_n 1, 1) := by decide +kernel
theorem dX6_refresh_28 : decode cX6_refresh 28 = .ok (.iload_n 1, 1) := by decide +kernel
theorem dX6_refresh_29 : decode cX6_refresh 29 = .ok (.bipush 64, 2) := by decide +kernel
theorem dX6_refresh_31 : decode cX6_refresh 31 = .ok (.if_icmp .ge 16, 3) := by decide +kernel
theorem dX6_refresh_34 : decode cX6_refresh 34 = .ok (.aload_n 0, 1) := by decide +kernel
theorem dX6_refresh_35 : decode cX6_refresh 35 = .ok (.getfield 16, 3) := by decide +kernel
theorem dX6_refresh_38 : decode cX6_refresh 38 = .ok (.iload_n 1, 1) := by decide +kernel
theorem dX6_refresh_39 : decode cX6_refresh 39 = .ok (.iconst (-1), 1) := by decide +kernel
theorem dX6_refresh_40 : decode cX6_refresh 40 = .ok (.iastore, 1) := by decide +kernel
theorem dX6_refresh_41 : decode cX6_refresh 41 = .ok (.iinc 1 1, 3) := by decide +kernel
theorem dX6_refresh_44 : decode cX6_refresh 44 = .ok (.goto (-16), 3) := by decide +kernel
theorem dX6_refresh_47 : decode cX6_refresh 47 = .ok (.aload_n 0, 1) := by decide +kernel
theorem dX6_refresh_48 : decode cX6_refresh 48 = .ok (.getfield 30, 3) := by decide +kernel
theorem dX6_refresh_51 : decode cX6_refresh 51 = .ok (.getfield 39, 3) := by decide +kernel
theorem dX6_refresh_54 : decode cX6_refresh 54 = .ok (.ifCond .eq 7, 3) := by decide +kernel
theorem dX6_refresh_57 : decode cX6_refresh 57 = .ok (.iconst 2, 1) := by decide +kernel
theorem dX6_refresh_58 : decode cX6_refresh 58 = .ok (.goto 4, 3) := by decide +kernel
theorem dX6_refresh_61 : decode cX6_refresh 61 = .ok (.iconst 0, 1) := by decide +kernel
theorem dX6_refresh_62 : decode cX6_refresh 62 = .ok (.istore_n 1, 1) := by decide +kernel
theorem dX6_refresh_63 : decode cX6_refresh 63 = .ok (.iconst 0, 1) := by decide +kernel
theorem dX6_refresh_64 : decode cX6_refresh 64 = .ok (.istore_n 2, 1) := by decide +kernel
theorem dX6_refresh_65 : decode cX6_refresh 65 = .ok (.iload_n 2, 1) := by decide +kernel
theorem dX6_refresh_66 : decode cX6_refresh 66 = .ok (.aload_n 0, 1) := by decide +kernel
theorem dX6_refresh_67 : decode cX6_refresh 67 = .ok (.getfield 30, 3) := by decide +kernel
theorem dX6_refresh_70 : decode cX6_refresh 70 = .ok (.getfield 43, 3) := by decide +kernel
theorem dX6_refresh_73 : decode cX6_refresh 73 = .ok (.if_icmp .ge 119, 3) := by decide +kernel
theorem dX6_refresh_76 : decode cX6_refresh 76 = .ok (.iload_n 2, 1) := by decide +kernel
theorem dX6_refresh_77 : decode cX6_refresh 77 = .ok (.bipush 6, 2) := by decide +kernel
theorem dX6_refresh_79 : decode cX6_refresh 79 = .ok (.if_icmp .ge 113, 3) := by decide +kernel
theorem dX6_refresh_82 : decode cX6_refresh 82 = .ok (.iconst 0, 1) := by decide +kernel
theorem dX6_refresh_83 : decode cX6_refresh 83 = .ok (.istore_n 3, 1) := by decide +kernel
theorem dX6_refresh_84 : decode cX6_refresh 84 = .ok (.aload_n 0, 1) := by decide +kernel
theorem dX6_refresh_85 : decode cX6_refresh 85 = .ok (.getfield 30, 3) := by decide +kernel
theorem dX6_refresh_88 : decode cX6_refresh 88 = .ok (.getfield 46, 3) := by decide +kernel
theorem dX6_refresh_91 : decode cX6_refresh 91 = .ok (.ifCond .le 95, 3) := by decide +kernel
theorem dX6_refresh_94 : decode cX6_refresh 94 = .ok (.iload_n 3, 1) := by decide +kernel
theorem dX6_refresh_95 : decode cX6_refresh 95 = .ok (.aload_n 0, 1) := by decide +kernel
theorem dX6_refresh_96 : decode cX6_refresh 96 = .ok (.getfield 30, 3) := by decide +kernel
theorem dX6_refresh_99 : decode cX6_refresh 99 = .ok (.invokevirtual 49, 3) := by decide +kernel
theorem dX6_refresh_102 : decode cX6_refresh 102 = .ok (.if_icmp .ge 84, 3) := by decide +kernel
theorem dX6_refresh_105 : decode cX6_refresh 105 = .ok (.iload_n 3, 1) := by decide +kernel
theorem dX6_refresh_106 : decode cX6_refresh 106 = .ok (.aload_n 0, 1) := by decide +kernel
theorem dX6_refresh_107 : decode cX6_refresh 107 = .ok (.getfield 30, 3) := by decide +kernel
theorem dX6_refresh_110 : decode cX6_refresh 110 = .ok (.getfield 46, 3) := by decide +kernel
theorem dX6_refresh_113 : decode cX6_refresh 113 = .ok (.irem, 1) := by decide +kernel
theorem dX6_refresh_114 : decode cX6_refresh 114 = .ok (.aload_n 0, 1) := by decide +kernel
theorem dX6_refresh_115 : decode cX6_refresh 115 = .ok (.getfield 30, 3) := by decide +kernel
theorem dX6_refresh_118 : decode cX6_refresh 118 = .ok (.getfield 53, 3) := by decide +kernel
theorem dX6_refresh_121 : decode cX6_refresh 121 = .ok (.iload_n 2, 1) := by decide +kernel
theorem dX6_refresh_122 : decode cX6_refresh 122 = .ok (.aaload, 1) := by decide +kernel
theorem dX6_refresh_123 : decode cX6_refresh 123 = .ok (.getfield 57, 3) := by decide +kernel
theorem dX6_refresh_126 : decode cX6_refresh 126 = .ok (.isub, 1) := by decide +kernel
theorem dX6_refresh_127 : decode cX6_refresh 127 = .ok (.istore 4, 2) := by decide +kernel
theorem dX6_refresh_129 : decode cX6_refresh 129 = .ok (.iload_n 3, 1) := by decide +kernel
theorem dX6_refresh_130 : decode cX6_refresh 130 = .ok (.aload_n 0, 1) := by decide +kernel
theorem dX6_refresh_131 : decode cX6_refresh 131 = .ok (.getfield 30, 3) := by decide +kernel
theorem dX6_refresh_134 : decode cX6_refresh 134 = .ok (.getfield 46, 3) := by decide +kernel
theorem dX6_refresh_137 : decode cX6_refresh 137 = .ok (.idiv, 1) := by decide +kernel
theorem dX6_refresh_138 : decode cX6_refresh 138 = .ok (.aload_n 0, 1) := by decide +kernel
theorem dX6_refresh_139 : decode cX6_refresh 139 = .ok (.getfield 30, 3) := by decide +kernel
theorem dX6_refresh_142 : decode cX6_refresh 142 = .ok (.getfield 53, 3) := by decide +kernel
theorem dX6_refresh_145 : decode cX6_refresh 145 = .ok (.iload_n 2, 1) := by decide +kernel
theorem dX6_refresh_146 : decode cX6_refresh 146 = .ok (.aaload, 1) := by decide +kernel
theorem dX6_refresh_147 : decode cX6_refresh 147 = .ok (.getfield 62, 3) := by decide +kernel
theorem dX6_refresh_150 : decode cX6_refresh 150 = .ok (.isub, 1) := by decide +kernel
theorem dX6_refresh_151 : decode cX6_refresh 151 = .ok (.istore 5, 2) := by decide +kernel
theorem dX6_refresh_153 : decode cX6_refresh 153 = .ok (.aload_n 0, 1) := by decide +kernel
theorem dX6_refresh_154 : decode cX6_refresh 154 = .ok (.getfield 11, 3) := by decide +kernel
theorem dX6_refresh_157 : decode cX6_refresh 157 = .ok (.iload_n 2, 1) := by decide +kernel
theorem dX6_refresh_158 : decode cX6_refresh 158 = .ok (.aaload, 1) := by decide +kernel
theorem dX6_refresh_159 : decode cX6_refresh 159 = .ok (.iload_n 3, 1) := by decide +kernel
theorem dX6_refresh_160 : decode cX6_refresh 160 = .ok (.iload_n 1, 1) := by decide +kernel
theorem dX6_refresh_161 : decode cX6_refresh 161 = .ok (.aload_n 0, 1) := by decide +kernel
theorem dX6_refresh_162 : decode cX6_refresh 162 = .ok (.iload 4, 2) := by decide +kernel
theorem dX6_refresh_164 : decode cX6_refresh 164 = .ok (.iconst 0, 1) := by decide +kernel
theorem dX6_refresh_165 : decode cX6_refresh 165 = .ok (.iconst 2, 1) := by decide +kernel
theorem dX6_refresh_166 : decode cX6_refresh 166 = .ok (.invokevirtual 65, 3) := by decide +kernel
theorem dX6_refresh_169 : decode cX6_refresh 169 = .ok (.iadd, 1) := by decide +kernel
theorem dX6_refresh_170 : decode cX6_refresh 170 = .ok (.aload_n 0, 1) := by decide +kernel
theorem dX6_refresh_171 : decode cX6_refresh 171 = .ok (.iload 5, 2) := by decide +kernel
theorem dX6_refresh_173 : decode cX6_refresh 173 = .ok (.iconst 1, 1) := by decide +kernel
theorem dX6_refresh_174 : decode cX6_refresh 174 = .ok (.iconst 3, 1) := by decide +kernel
theorem dX6_refresh_175 : decode cX6_refresh 175 = .ok (.invokevirtual 65, 3) := by decide +kernel
theorem dX6_refresh_178 : decode cX6_refresh 178 = .ok (.iadd, 1) := by decide +kernel
theorem dX6_refresh_179 : decode cX6_refresh 179 = .ok (.iastore, 1) := by decide +kernel
theorem dX6_refresh_180 : decode cX6_refresh 180 = .ok (.iinc 3 1, 3) := by decide +kernel
theorem dX6_refresh_183 : decode cX6_refresh 183 = .ok (.goto (-99), 3) := by decide +kernel
theorem dX6_refresh_186 : decode cX6_refresh 186 = .ok (.iinc 2 1, 3) := by decide +kernel
theorem dX6_refresh_189 : decode cX6_refresh 189 = .ok (.goto (-124), 3) := by decide +kernel
theorem dX6_refresh_192 : decode cX6_refresh 192 = .ok (.return_, 1) := by decide +kernel
theorem dX6_lossAlong_0 : decode cX6_lossAlong 0 = .ok (.iload_n 1, 1) := by decide +kernel
theorem dX6_lossAlong_1 : decode cX6_lossAlong 1 = .ok (.ifCond .le 7, 3) := by decide +kernel
theorem dX6_lossAlong_4 : decode cX6_lossAlong 4 = .ok (.iload_n 2, 1) := by decide +kernel
theorem dX6_lossAlong_5 : decode cX6_lossAlong 5 = .ok (.goto 4, 3) := by decide +kernel
theorem dX6_lossAlong_8 : decode cX6_lossAlong 8 = .ok (.iload_n 3, 1) := by decide +kernel
theorem dX6_lossAlong_9 : decode cX6_lossAlong 9 = .ok (.istore 4, 2) := by decide +kernel
theorem dX6_lossAlong_11 : decode cX6_lossAlong 11 = .ok (.iload_n 1, 1) := by decide +kernel
theorem dX6_lossAlong_12 : decode cX6_lossAlong 12 = .ok (.ifCond .le 7, 3) := by decide +kernel
theorem dX6_lossAlong_15 : decode cX6_lossAlong 15 = .ok (.iload_n 3, 1) := by decide +kernel
theorem dX6_lossAlong_16 : decode cX6_lossAlong 16 = .ok (.goto 4, 3) := by decide +kernel
theorem dX6_lossAlong_19 : decode cX6_lossAlong 19 = .ok (.iload_n 2, 1) := by decide +kernel
theorem dX6_lossAlong_20 : decode cX6_lossAlong 20 = .ok (.istore 5, 2) := by decide +kernel
theorem dX6_lossAlong_22 : decode cX6_lossAlong 22 = .ok (.iload_n 1, 1) := by decide +kernel
theorem dX6_lossAlong_23 : decode cX6_lossAlong 23 = .ok (.ifCond .le 7, 3) := by decide +kernel
theorem dX6_lossAlong_26 : decode cX6_lossAlong 26 = .ok (.iload_n 1, 1) := by decide +kernel
theorem dX6_lossAlong_27 : decode cX6_lossAlong 27 = .ok (.goto 5, 3) := by decide +kernel
theorem dX6_lossAlong_30 : decode cX6_lossAlong 30 = .ok (.iload_n 1, 1) := by decide +kernel
theorem dX6_lossAlong_31 : decode cX6_lossAlong 31 = .ok (.ineg, 1) := by decide +kernel
theorem dX6_lossAlong_32 : decode cX6_lossAlong 32 = .ok (.istore 6, 2) := by decide +kernel
theorem dX6_lossAlong_34 : decode cX6_lossAlong 34 = .ok (.aload_n 0, 1) := by decide +kernel
theorem dX6_lossAlong_35 : decode cX6_lossAlong 35 = .ok (.getfield 30, 3) := by decide +kernel
theorem dX6_lossAlong_38 : decode cX6_lossAlong 38 = .ok (.getfield 69, 3) := by decide +kernel
theorem dX6_lossAlong_41 : decode cX6_lossAlong 41 = .ok (.iload 5, 2) := by decide +kernel
theorem dX6_lossAlong_43 : decode cX6_lossAlong 43 = .ok (.if_icmp .ne 16, 3) := by decide +kernel
theorem dX6_lossAlong_46 : decode cX6_lossAlong 46 = .ok (.iload 6, 2) := by decide +kernel
theorem dX6_lossAlong_48 : decode cX6_lossAlong 48 = .ok (.aload_n 0, 1) := by decide +kernel
theorem dX6_lossAlong_49 : decode cX6_lossAlong 49 = .ok (.getfield 30, 3) := by decide +kernel
theorem dX6_lossAlong_52 : decode cX6_lossAlong 52 = .ok (.getfield 72, 3) := by decide +kernel
theorem dX6_lossAlong_55 : decode cX6_lossAlong 55 = .ok (.iconst 1, 1) := by decide +kernel
theorem dX6_lossAlong_56 : decode cX6_lossAlong 56 = .ok (.iadd, 1) := by decide +kernel
theorem dX6_lossAlong_57 : decode cX6_lossAlong 57 = .ok (.imul, 1) := by decide +kernel
theorem dX6_lossAlong_58 : decode cX6_lossAlong 58 = .ok (.ireturn, 1) := by decide +kernel
theorem dX6_lossAlong_59 : decode cX6_lossAlong 59 = .ok (.aload_n 0, 1) := by decide +kernel
theorem dX6_lossAlong_60 : decode cX6_lossAlong 60 = .ok (.getfield 30, 3) := by decide +kernel
theorem dX6_lossAlong_63 : decode cX6_lossAlong 63 = .ok (.getfield 69, 3) := by decide +kernel
theorem dX6_lossAlong_66 : decode cX6_lossAlong 66 = .ok (.iload 4, 2) := by decide +kernel
theorem dX6_lossAlong_68 : decode cX6_lossAlong 68 = .ok (.if_icmp .ne 28, 3) := by decide +kernel
theorem dX6_lossAlong_71 : decode cX6_lossAlong 71 = .ok (.aload_n 0, 1) := by decide +kernel
theorem dX6_lossAlong_72 : decode cX6_lossAlong 72 = .ok (.getfield 30, 3) := by decide +kernel
theorem dX6_lossAlong_75 : decode cX6_lossAlong 75 = .ok (.getfield 72, 3) := by decide +kernel
theorem dX6_lossAlong_78 : decode cX6_lossAlong 78 = .ok (.ifCond .le 18, 3) := by decide +kernel
theorem dX6_lossAlong_81 : decode cX6_lossAlong 81 = .ok (.iload 6, 2) := by decide +kernel
theorem dX6_lossAlong_83 : decode cX6_lossAlong 83 = .ok (.aload_n 0, 1) := by decide +kernel
theorem dX6_lossAlong_84 : decode cX6_lossAlong 84 = .ok (.getfield 30, 3) := by decide +kernel
theorem dX6_lossAlong_87 : decode cX6_lossAlong 87 = .ok (.getfield 72, 3) := by decide +kernel
theorem dX6_lossAlong_90 : decode cX6_lossAlong 90 = .ok (.iconst 1, 1) := by decide +kernel
theorem dX6_lossAlong_91 : decode cX6_lossAlong 91 = .ok (.isub, 1) := by decide +kernel
theorem dX6_lossAlong_92 : decode cX6_lossAlong 92 = .ok (.imul, 1) := by decide +kernel
theorem dX6_lossAlong_93 : decode cX6_lossAlong 93 = .ok (.goto 13, 3) := by decide +kernel
theorem dX6_lossAlong_96 : decode cX6_lossAlong 96 = .ok (.iload 6, 2) := by decide +kernel
theorem dX6_lossAlong_98 : decode cX6_lossAlong 98 = .ok (.aload_n 0, 1) := by decide +kernel
theorem dX6_lossAlong_99 : decode cX6_lossAlong 99 = .ok (.getfield 30, 3) := by decide +kernel
theorem dX6_lossAlong_102 : decode cX6_lossAlong 102 = .ok (.getfield 72, 3) := by decide +kernel
theorem dX6_lossAlong_105 : decode cX6_lossAlong 105 = .ok (.imul, 1) := by decide +kernel
theorem dX6_lossAlong_106 : decode cX6_lossAlong 106 = .ok (.ireturn, 1) := by decide +kernel
theorem dX6_levelAt_0 : decode cX6_levelAt 0 = .ok (.iload_n 2, 1) := by decide +kernel
theorem dX6_levelAt_1 : decode cX6_levelAt 1 = .ok (.ifCond .lt 24, 3) := by decide +kernel
theorem dX6_levelAt_4 : decode cX6_levelAt 4 = .ok (.iload_n 2, 1) := by decide +kernel
theorem dX6_levelAt_5 : decode cX6_levelAt 5 = .ok (.aload_n 0, 1) := by decide +kernel
theorem dX6_levelAt_6 : decode cX6_levelAt 6 = .ok (.getfield 30, 3) := by decide +kernel
theorem dX6_levelAt_9 : decode cX6_levelAt 9 = .ok (.getfield 75, 3) := by decide +kernel
theorem dX6_levelAt_12 : decode cX6_levelAt 12 = .ok (.if_icmp .ge 13, 3) := by decide +kernel
theorem dX6_levelAt_15 : decode cX6_levelAt 15 = .ok (.iload_n 2, 1) := by decide +kernel
theorem dX6_levelAt_16 : decode cX6_levelAt 16 = .ok (.bipush 6, 2) := by decide +kernel
theorem dX6_levelAt_18 : decode cX6_levelAt 18 = .ok (.if_icmp .ge 7, 3) := by decide +kernel
theorem dX6_levelAt_21 : decode cX6_levelAt 21 = .ok (.iconst 1, 1) := by decide +kernel
theorem dX6_levelAt_22 : decode cX6_levelAt 22 = .ok (.goto 4, 3) := by decide +kernel
theorem dX6_levelAt_25 : decode cX6_levelAt 25 = .ok (.iconst 0, 1) := by decide +kernel
theorem dX6_levelAt_26 : decode cX6_levelAt 26 = .ok (.istore 4, 2) := by decide +kernel
theorem dX6_levelAt_28 : decode cX6_levelAt 28 = .ok (.iload_n 1, 1) := by decide +kernel
theorem dX6_levelAt_29 : decode cX6_levelAt 29 = .ok (.ifCond .lt 23, 3) := by decide +kernel
theorem dX6_levelAt_32 : decode cX6_levelAt 32 = .ok (.iload_n 1, 1) := by decide +kernel
theorem dX6_levelAt_33 : decode cX6_levelAt 33 = .ok (.bipush 6, 2) := by decide +kernel
theorem dX6_levelAt_35 : decode cX6_levelAt 35 = .ok (.if_icmp .ge 17, 3) := by decide +kernel
theorem dX6_levelAt_38 : decode cX6_levelAt 38 = .ok (.iload_n 3, 1) := by decide +kernel
theorem dX6_levelAt_39 : decode cX6_levelAt 39 = .ok (.ifCond .lt 13, 3) := by decide +kernel
theorem dX6_levelAt_42 : decode cX6_levelAt 42 = .ok (.iload_n 3, 1) := by decide +kernel
theorem dX6_levelAt_43 : decode cX6_levelAt 43 = .ok (.bipush 30, 2) := by decide +kernel
theorem dX6_levelAt_45 : decode cX6_levelAt 45 = .ok (.if_icmp .ge 7, 3) := by decide +kernel
theorem dX6_levelAt_48 : decode cX6_levelAt 48 = .ok (.iconst 1, 1) := by decide +kernel
theorem dX6_levelAt_49 : decode cX6_levelAt 49 = .ok (.goto 4, 3) := by decide +kernel
theorem dX6_levelAt_52 : decode cX6_levelAt 52 = .ok (.iconst 0, 1) := by decide +kernel
theorem dX6_levelAt_53 : decode cX6_levelAt 53 = .ok (.istore 5, 2) := by decide +kernel
theorem dX6_levelAt_55 : decode cX6_levelAt 55 = .ok (.iload 4, 2) := by decide +kernel
theorem dX6_levelAt_57 : decode cX6_levelAt 57 = .ok (.ifCond .eq 8, 3) := by decide +kernel
theorem dX6_levelAt_60 : decode cX6_levelAt 60 = .ok (.iload 5, 2) := by decide +kernel
theorem dX6_levelAt_62 : decode cX6_levelAt 62 = .ok (.ifCond .ne 5, 3) := by decide +kernel
theorem dX6_levelAt_65 : decode cX6_levelAt 65 = .ok (.iconst 0, 1) := by decide +kernel
theorem dX6_levelAt_66 : decode cX6_levelAt 66 = .ok (.ireturn, 1) := by decide +kernel
theorem dX6_levelAt_67 : decode cX6_levelAt 67 = .ok (.aload_n 0, 1) := by decide +kernel
theorem dX6_levelAt_68 : decode cX6_levelAt 68 = .ok (.getfield 30, 3) := by decide +kernel
theorem dX6_levelAt_71 : decode cX6_levelAt 71 = .ok (.getfield 53, 3) := by decide +kernel
theorem dX6_levelAt_74 : decode cX6_levelAt 74 = .ok (.iload_n 1, 1) := by decide +kernel
theorem dX6_levelAt_75 : decode cX6_levelAt 75 = .ok (.aaload, 1) := by decide +kernel
theorem dX6_levelAt_76 : decode cX6_levelAt 76 = .ok (.getfield 78, 3) := by decide +kernel
theorem dX6_levelAt_79 : decode cX6_levelAt 79 = .ok (.aload_n 0, 1) := by decide +kernel
theorem dX6_levelAt_80 : decode cX6_levelAt 80 = .ok (.getfield 30, 3) := by decide +kernel
theorem dX6_levelAt_83 : decode cX6_levelAt 83 = .ok (.getfield 81, 3) := by decide +kernel
theorem dX6_levelAt_86 : decode cX6_levelAt 86 = .ok (.iload_n 2, 1) := by decide +kernel
theorem dX6_levelAt_87 : decode cX6_levelAt 87 = .ok (.aaload, 1) := by decide +kernel
theorem dX6_levelAt_88 : decode cX6_levelAt 88 = .ok (.getfield 85, 3) := by decide +kernel
theorem dX6_levelAt_91 : decode cX6_levelAt 91 = .ok (.iadd, 1) := by decide +kernel
theorem dX6_levelAt_92 : decode cX6_levelAt 92 = .ok (.aload_n 0, 1) := by decide +kernel
theorem dX6_levelAt_93 : decode cX6_levelAt 93 = .ok (.getfield 11, 3) := by decide +kernel
theorem dX6_levelAt_96 : decode cX6_levelAt 96 = .ok (.iload_n 1, 1) := by decide +kernel
theorem dX6_levelAt_97 : decode cX6_levelAt 97 = .ok (.aaload, 1) := by decide +kernel
theorem dX6_levelAt_98 : decode cX6_levelAt 98 = .ok (.iload_n 3, 1) := by decide +kernel
theorem dX6_levelAt_99 : decode cX6_levelAt 99 = .ok (.iaload, 1) := by decide +kernel
theorem dX6_levelAt_100 : decode cX6_levelAt 100 = .ok (.isub, 1) := by decide +kernel
theorem dX6_levelAt_101 : decode cX6_levelAt 101 = .ok (.istore 6, 2) := by decide +kernel
theorem dX6_levelAt_103 : decode cX6_levelAt 103 = .ok (.iload 6, 2) := by decide +kernel
theorem dX6_levelAt_105 : decode cX6_levelAt 105 = .ok (.ifCond .le 8, 3) := by decide +kernel
theorem dX6_levelAt_108 : decode cX6_levelAt 108 = .ok (.iload 6, 2) := by decide +kernel
theorem dX6_levelAt_110 : decode cX6_levelAt 110 = .ok (.goto 4, 3) := by decide +kernel
theorem dX6_levelAt_113 : decode cX6_levelAt 113 = .ok (.iconst 0, 1) := by decide +kernel
theorem dX6_levelAt_114 : decode cX6_levelAt 114 = .ok (.ireturn, 1) := by decide +kernel
theorem dX6_holderAt_0 : decode cX6_holderAt 0 = .ok (.iconst 0, 1) := by decide +kernel
theorem dX6_holderAt_1 : decode cX6_holderAt 1 = .ok (.istore_n 3, 1) := by decide +kernel
theorem dX6_holderAt_2 : decode cX6_holderAt 2 = .ok (.iconst (-1), 1) := by decide +kernel
theorem dX6_holderAt_3 : decode cX6_holderAt 3 = .ok (.istore 4, 2) := by decide +kernel
theorem dX6_holderAt_5 : decode cX6_holderAt 5 = .ok (.iconst 0, 1) := by decide +kernel
theorem dX6_holderAt_6 : decode cX6_holderAt 6 = .ok (.istore 5, 2) := by decide +kernel
theorem dX6_holderAt_8 : decode cX6_holderAt 8 = .ok (.iload 5, 2) := by decide +kernel
theorem dX6_holderAt_10 : decode cX6_holderAt 10 = .ok (.aload_n 0, 1) := by decide +kernel
theorem dX6_holderAt_11 : decode cX6_holderAt 11 = .ok (.getfield 30, 3) := by decide +kernel
theorem dX6_holderAt_14 : decode cX6_holderAt 14 = .ok (.getfield 43, 3) := by decide +kernel
theorem dX6_holderAt_17 : decode cX6_holderAt 17 = .ok (.if_icmp .ge 60, 3) := by decide +kernel
theorem dX6_holderAt_20 : decode cX6_holderAt 20 = .ok (.iload 5, 2) := by decide +kernel
theorem dX6_holderAt_22 : decode cX6_holderAt 22 = .ok (.aload_n 1, 1) := by decide +kernel
theorem dX6_holderAt_23 : decode cX6_holderAt 23 = .ok (.arraylength, 1) := by decide +kernel
theorem dX6_holderAt_24 : decode cX6_holderAt 24 = .ok (.if_icmp .ge 53, 3) := by decide +kernel
theorem dX6_holderAt_27 : decode cX6_holderAt 27 = .ok (.aload_n 0, 1) := by decide +kernel
theorem dX6_holderAt_28 : decode cX6_holderAt 28 = .ok (.iload 5, 2) := by decide +kernel
theorem dX6_holderAt_30 : decode cX6_holderAt 30 = .ok (.aload_n 1, 1) := by decide +kernel
theorem dX6_holderAt_31 : decode cX6_holderAt 31 = .ok (.iload 5, 2) := by decide +kernel
theorem dX6_holderAt_33 : decode cX6_holderAt 33 = .ok (.iaload, 1) := by decide +kernel
theorem dX6_holderAt_34 : decode cX6_holderAt 34 = .ok (.iload_n 2, 1) := by decide +kernel
theorem dX6_holderAt_35 : decode cX6_holderAt 35 = .ok (.invokevirtual 90, 3) := by decide +kernel
theorem dX6_holderAt_38 : decode cX6_holderAt 38 = .ok (.istore 6, 2) := by decide +kernel
theorem dX6_holderAt_40 : decode cX6_holderAt 40 = .ok (.iload 6, 2) := by decide +kernel
theorem dX6_holderAt_42 : decode cX6_holderAt 42 = .ok (.iload_n 3, 1) := by decide +kernel
theorem dX6_holderAt_43 : decode cX6_holderAt 43 = .ok (.if_icmp .le 13, 3) := by decide +kernel
theorem dX6_holderAt_46 : decode cX6_holderAt 46 = .ok (.iload 6, 2) := by decide +kernel
theorem dX6_holderAt_48 : decode cX6_holderAt 48 = .ok (.istore_n 3, 1) := by decide +kernel
theorem dX6_holderAt_49 : decode cX6_holderAt 49 = .ok (.iload 5, 2) := by decide +kernel
theorem dX6_holderAt_51 : decode cX6_holderAt 51 = .ok (.istore 4, 2) := by decide +kernel
theorem dX6_holderAt_53 : decode cX6_holderAt 53 = .ok (.goto 18, 3) := by decide +kernel
theorem dX6_holderAt_56 : decode cX6_holderAt 56 = .ok (.iload 6, 2) := by decide +kernel
theorem dX6_holderAt_58 : decode cX6_holderAt 58 = .ok (.iload_n 3, 1) := by decide +kernel
theorem dX6_holderAt_59 : decode cX6_holderAt 59 = .ok (.if_icmp .ne 12, 3) := by decide +kernel
theorem dX6_holderAt_62 : decode cX6_holderAt 62 = .ok (.iload 6, 2) := by decide +kernel
theorem dX6_holderAt_64 : decode cX6_holderAt 64 = .ok (.ifCond .le 7, 3) := by decide +kernel
theorem dX6_holderAt_67 : decode cX6_holderAt 67 = .ok (.bipush (-2), 2) := by decide +kernel
theorem dX6_holderAt_69 : decode cX6_holderAt 69 = .ok (.istore 4, 2) := by decide +kernel
theorem dX6_holderAt_71 : decode cX6_holderAt 71 = .ok (.iinc 5 1, 3) := by decide +kernel
theorem dX6_holderAt_74 : decode cX6_holderAt 74 = .ok (.goto (-66), 3) := by decide +kernel
theorem dX6_holderAt_77 : decode cX6_holderAt 77 = .ok (.iload 4, 2) := by decide +kernel
theorem dX6_holderAt_79 : decode cX6_holderAt 79 = .ok (.ireturn, 1) := by decide +kernel
theorem dX6_loudestBut_0 : decode cX6_loudestBut 0 = .ok (.iconst 0, 1) := by decide +kernel
theorem dX6_loudestBut_1 : decode cX6_loudestBut 1 = .ok (.istore 4, 2) := by decide +kernel
theorem dX6_loudestBut_3 : decode cX6_loudestBut 3 = .ok (.iconst 0, 1) := by decide +kernel
theorem dX6_loudestBut_4 : decode cX6_loudestBut 4 = .ok (.istore 5, 2) := by decide +kernel
theorem dX6_loudestBut_6 : decode cX6_loudestBut 6 = .ok (.iload 5, 2) := by decide +kernel
theorem dX6_loudestBut_8 : decode cX6_loudestBut 8 = .ok (.aload_n 0, 1) := by decide +kernel
theorem dX6_loudestBut_9 : decode cX6_loudestBut 9 = .ok (.getfield 30, 3) := by decide +kernel
theorem dX6_loudestBut_12 : decode cX6_loudestBut 12 = .ok (.getfield 43, 3) := by decide +kernel
theorem dX6_loudestBut_15 : decode cX6_loudestBut 15 = .ok (.if_icmp .ge 40, 3) := by decide +kernel
theorem dX6_loudestBut_18 : decode cX6_loudestBut 18 = .ok (.iload 5, 2) := by decide +kernel
theorem dX6_loudestBut_20 : decode cX6_loudestBut 20 = .ok (.aload_n 2, 1) := by decide +kernel
theorem dX6_loudestBut_21 : decode cX6_loudestBut 21 = .ok (.arraylength, 1) := by decide +kernel
theorem dX6_loudestBut_22 : decode cX6_loudestBut 22 = .ok (.if_icmp .ge 33, 3) := by decide +kernel
theorem dX6_loudestBut_25 : decode cX6_loudestBut 25 = .ok (.iload 5, 2) := by decide +kernel
theorem dX6_loudestBut_27 : decode cX6_loudestBut 27 = .ok (.iload_n 1, 1) := by decide +kernel
theorem dX6_loudestBut_28 : decode cX6_loudestBut 28 = .ok (.if_icmp .eq 21, 3) := by decide +kernel
theorem dX6_loudestBut_31 : decode cX6_loudestBut 31 = .ok (.iload 4, 2) := by decide +kernel
theorem dX6_loudestBut_33 : decode cX6_loudestBut 33 = .ok (.aload_n 0, 1) := by decide +kernel
theorem dX6_loudestBut_34 : decode cX6_loudestBut 34 = .ok (.iload 5, 2) := by decide +kernel
theorem dX6_loudestBut_36 : decode cX6_loudestBut 36 = .ok (.aload_n 2, 1) := by decide +kernel
theorem dX6_loudestBut_37 : decode cX6_loudestBut 37 = .ok (.iload 5, 2) := by decide +kernel
theorem dX6_loudestBut_39 : decode cX6_loudestBut 39 = .ok (.iaload, 1) := by decide +kernel
theorem dX6_loudestBut_40 : decode cX6_loudestBut 40 = .ok (.iload_n 3, 1) := by decide +kernel
theorem dX6_loudestBut_41 : decode cX6_loudestBut 41 = .ok (.invokevirtual 90, 3) := by decide +kernel
theorem dX6_loudestBut_44 : decode cX6_loudestBut 44 = .ok (.invokestatic 93, 3) := by decide +kernel
theorem dX6_loudestBut_47 : decode cX6_loudestBut 47 = .ok (.istore 4, 2) := by decide +kernel
theorem dX6_loudestBut_49 : decode cX6_loudestBut 49 = .ok (.iinc 5 1, 3) := by decide +kernel
theorem dX6_loudestBut_52 : decode cX6_loudestBut 52 = .ok (.goto (-46), 3) := by decide +kernel
theorem dX6_loudestBut_55 : decode cX6_loudestBut 55 = .ok (.iload 4, 2) := by decide +kernel
theorem dX6_loudestBut_57 : decode cX6_loudestBut 57 = .ok (.ireturn, 1) := by decide +kernel
theorem dX6_slotOf_0 : decode cX6_slotOf 0 = .ok (.iconst 0, 1) := by decide +kernel
theorem dX6_slotOf_1 : decode cX6_slotOf 1 = .ok (.istore_n 2, 1) := by decide +kernel
theorem dX6_slotOf_2 : decode cX6_slotOf 2 = .ok (.iconst 0, 1) := by decide +kernel
theorem dX6_slotOf_3 : decode cX6_slotOf 3 = .ok (.istore_n 3, 1) := by decide +kernel
theorem dX6_slotOf_4 : decode cX6_slotOf 4 = .ok (.iload_n 3, 1) := by decide +kernel
theorem dX6_slotOf_5 : decode cX6_slotOf 5 = .ok (.aload_n 0, 1) := by decide +kernel
theorem dX6_slotOf_6 : decode cX6_slotOf 6 = .ok (.getfield 30, 3) := by decide +kernel
theorem dX6_slotOf_9 : decode cX6_slotOf 9 = .ok (.getfield 43, 3) := by decide +kernel
theorem dX6_slotOf_12 : decode cX6_slotOf 12 = .ok (.if_icmp .ge 24, 3) := by decide +kernel
theorem dX6_slotOf_15 : decode cX6_slotOf 15 = .ok (.iload_n 3, 1) := by decide +kernel
theorem dX6_slotOf_16 : decode cX6_slotOf 16 = .ok (.aload_n 1, 1) := by decide +kernel
theorem dX6_slotOf_17 : decode cX6_slotOf 17 = .ok (.arraylength, 1) := by decide +kernel
theorem dX6_slotOf_18 : decode cX6_slotOf 18 = .ok (.if_icmp .ge 18, 3) := by decide +kernel
theorem dX6_slotOf_21 : decode cX6_slotOf 21 = .ok (.iload_n 2, 1) := by decide +kernel
theorem dX6_slotOf_22 : decode cX6_slotOf 22 = .ok (.bipush 8, 2) := by decide +kernel
theorem dX6_slotOf_24 : decode cX6_slotOf 24 = .ok (.imul, 1) := by decide +kernel
theorem dX6_slotOf_25 : decode cX6_slotOf 25 = .ok (.aload_n 1, 1) := by decide +kernel
theorem dX6_slotOf_26 : decode cX6_slotOf 26 = .ok (.iload_n 3, 1) := by decide +kernel
theorem dX6_slotOf_27 : decode cX6_slotOf 27 = .ok (.iaload, 1) := by decide +kernel
theorem dX6_slotOf_28 : decode cX6_slotOf 28 = .ok (.iadd, 1) := by decide +kernel
theorem dX6_slotOf_29 : decode cX6_slotOf 29 = .ok (.istore_n 2, 1) := by decide +kernel
theorem dX6_slotOf_30 : decode cX6_slotOf 30 = .ok (.iinc 3 1, 3) := by decide +kernel
theorem dX6_slotOf_33 : decode cX6_slotOf 33 = .ok (.goto (-29), 3) := by decide +kernel
theorem dX6_slotOf_36 : decode cX6_slotOf 36 = .ok (.iload_n 2, 1) := by decide +kernel
theorem dX6_slotOf_37 : decode cX6_slotOf 37 = .ok (.iload_n 2, 1) := by decide +kernel
theorem dX6_slotOf_38 : decode cX6_slotOf 38 = .ok (.bipush 6, 2) := by decide +kernel
theorem dX6_slotOf_40 : decode cX6_slotOf 40 = .ok (.ishr, 1) := by decide +kernel
theorem dX6_slotOf_41 : decode cX6_slotOf 41 = .ok (.ixor, 1) := by decide +kernel
theorem dX6_slotOf_42 : decode cX6_slotOf 42 = .ok (.iload_n 2, 1) := by decide +kernel
theorem dX6_slotOf_43 : decode cX6_slotOf 43 = .ok (.bipush 12, 2) := by decide +kernel
theorem dX6_slotOf_45 : decode cX6_slotOf 45 = .ok (.ishr, 1) := by decide +kernel
theorem dX6_slotOf_46 : decode cX6_slotOf 46 = .ok (.ixor, 1) := by decide +kernel
theorem dX6_slotOf_47 : decode cX6_slotOf 47 = .ok (.bipush 63, 2) := by decide +kernel
theorem dX6_slotOf_49 : decode cX6_slotOf 49 = .ok (.iand, 1) := by decide +kernel
theorem dX6_slotOf_50 : decode cX6_slotOf 50 = .ok (.istore_n 3, 1) := by decide +kernel
theorem dX6_slotOf_51 : decode cX6_slotOf 51 = .ok (.aload_n 0, 1) := by decide +kernel
theorem dX6_slotOf_52 : decode cX6_slotOf 52 = .ok (.getfield 16, 3) := by decide +kernel
theorem dX6_slotOf_55 : decode cX6_slotOf 55 = .ok (.iload_n 3, 1) := by decide +kernel
theorem dX6_slotOf_56 : decode cX6_slotOf 56 = .ok (.iaload, 1) := by decide +kernel
theorem dX6_slotOf_57 : decode cX6_slotOf 57 = .ok (.iload_n 2, 1) := by decide +kernel
theorem dX6_slotOf_58 : decode cX6_slotOf 58 = .ok (.if_icmp .eq 16, 3) := by decide +kernel
theorem dX6_slotOf_61 : decode cX6_slotOf 61 = .ok (.aload_n 0, 1) := by decide +kernel
theorem dX6_slotOf_62 : decode cX6_slotOf 62 = .ok (.getfield 16, 3) := by decide +kernel
theorem dX6_slotOf_65 : decode cX6_slotOf 65 = .ok (.iload_n 3, 1) := by decide +kernel
theorem dX6_slotOf_66 : decode cX6_slotOf 66 = .ok (.iload_n 2, 1) := by decide +kernel
theorem dX6_slotOf_67 : decode cX6_slotOf 67 = .ok (.iastore, 1) := by decide +kernel
theorem dX6_slotOf_68 : decode cX6_slotOf 68 = .ok (.aload_n 0, 1) := by decide +kernel
theorem dX6_slotOf_69 : decode cX6_slotOf 69 = .ok (.iload_n 3, 1) := by decide +kernel
theorem dX6_slotOf_70 : decode cX6_slotOf 70 = .ok (.aload_n 1, 1) := by decide +kernel
theorem dX6_slotOf_71 : decode cX6_slotOf 71 = .ok (.invokevirtual 99, 3) := by decide +kernel
theorem dX6_slotOf_74 : decode cX6_slotOf 74 = .ok (.iload_n 3, 1) := by decide +kernel
theorem dX6_slotOf_75 : decode cX6_slotOf 75 = .ok (.ireturn, 1) := by decide +kernel
theorem dX6_fillSlot_0 : decode cX6_fillSlot 0 = .ok (.iload_n 1, 1) := by decide +kernel
theorem dX6_fillSlot_1 : decode cX6_fillSlot 1 = .ok (.bipush 6, 2) := by decide +kernel
theorem dX6_fillSlot_3 : decode cX6_fillSlot 3 = .ok (.imul, 1) := by decide +kernel
theorem dX6_fillSlot_4 : decode cX6_fillSlot 4 = .ok (.istore_n 3, 1) := by decide +kernel
theorem dX6_fillSlot_5 : decode cX6_fillSlot 5 = .ok (.iconst 0, 1) := by decide +kernel
theorem dX6_fillSlot_6 : decode cX6_fillSlot 6 = .ok (.istore 4, 2) := by decide +kernel
theorem dX6_fillSlot_8 : decode cX6_fillSlot 8 = .ok (.iload 4, 2) := by decide +kernel
theorem dX6_fillSlot_10 : decode cX6_fillSlot 10 = .ok (.bipush 6, 2) := by decide +kernel
theorem dX6_fillSlot_12 : decode cX6_fillSlot 12 = .ok (.if_icmp .ge 29, 3) := by decide +kernel
theorem dX6_fillSlot_15 : decode cX6_fillSlot 15 = .ok (.aload_n 0, 1) := by decide +kernel
theorem dX6_fillSlot_16 : decode cX6_fillSlot 16 = .ok (.getfield 20, 3) := by decide +kernel
theorem dX6_fillSlot_19 : decode cX6_fillSlot 19 = .ok (.iload_n 3, 1) := by decide +kernel
theorem dX6_fillSlot_20 : decode cX6_fillSlot 20 = .ok (.iload 4, 2) := by decide +kernel
theorem dX6_fillSlot_22 : decode cX6_fillSlot 22 = .ok (.iadd, 1) := by decide +kernel
theorem dX6_fillSlot_23 : decode cX6_fillSlot 23 = .ok (.iconst 0, 1) := by decide +kernel
theorem dX6_fillSlot_24 : decode cX6_fillSlot 24 = .ok (.iastore, 1) := by decide +kernel
theorem dX6_fillSlot_25 : decode cX6_fillSlot 25 = .ok (.aload_n 0, 1) := by decide +kernel
theorem dX6_fillSlot_26 : decode cX6_fillSlot 26 = .ok (.getfield 23, 3) := by decide +kernel
theorem dX6_fillSlot_29 : decode cX6_fillSlot 29 = .ok (.iload_n 3, 1) := by decide +kernel
theorem dX6_fillSlot_30 : decode cX6_fillSlot 30 = .ok (.iload 4, 2) := by decide +kernel
theorem dX6_fillSlot_32 : decode cX6_fillSlot 32 = .ok (.iadd, 1) := by decide +kernel
theorem dX6_fillSlot_33 : decode cX6_fillSlot 33 = .ok (.iconst 0, 1) := by decide +kernel
theorem dX6_fillSlot_34 : decode cX6_fillSlot 34 = .ok (.iastore, 1) := by decide +kernel
theorem dX6_fillSlot_35 : decode cX6_fillSlot 35 = .ok (.iinc 4 1, 3) := by decide +kernel
theorem dX6_fillSlot_38 : decode cX6_fillSlot 38 = .ok (.goto (-30), 3) := by decide +kernel
theorem dX6_fillSlot_41 : decode cX6_fillSlot 41 = .ok (.iconst 0, 1) := by decide +kernel
theorem dX6_fillSlot_42 : decode cX6_fillSlot 42 = .ok (.istore 4, 2) := by decide +kernel
theorem dX6_fillSlot_44 : decode cX6_fillSlot 44 = .ok (.iload 4, 2) := by decide +kernel
theorem dX6_fillSlot_46 : decode cX6_fillSlot 46 = .ok (.aload_n 0, 1) := by decide +kernel
theorem dX6_fillSlot_47 : decode cX6_fillSlot 47 = .ok (.getfield 30, 3) := by decide +kernel
theorem dX6_fillSlot_50 : decode cX6_fillSlot 50 = .ok (.invokevirtual 49, 3) := by decide +kernel
theorem dX6_fillSlot_53 : decode cX6_fillSlot 53 = .ok (.if_icmp .ge 66, 3) := by decide +kernel
theorem dX6_fillSlot_56 : decode cX6_fillSlot 56 = .ok (.aload_n 0, 1) := by decide +kernel
theorem dX6_fillSlot_57 : decode cX6_fillSlot 57 = .ok (.aload_n 2, 1) := by decide +kernel
theorem dX6_fillSlot_58 : decode cX6_fillSlot 58 = .ok (.iload 4, 2) := by decide +kernel
theorem dX6_fillSlot_60 : decode cX6_fillSlot 60 = .ok (.invokevirtual 103, 3) := by decide +kernel
theorem dX6_fillSlot_63 : decode cX6_fillSlot 63 = .ok (.istore 5, 2) := by decide +kernel
theorem dX6_fillSlot_65 : decode cX6_fillSlot 65 = .ok (.iload 5, 2) := by decide +kernel
theorem dX6_fillSlot_67 : decode cX6_fillSlot 67 = .ok (.ifCond .lt 46, 3) := by decide +kernel
theorem dX6_fillSlot_70 : decode cX6_fillSlot 70 = .ok (.aload_n 0, 1) := by decide +kernel
theorem dX6_fillSlot_71 : decode cX6_fillSlot 71 = .ok (.getfield 20, 3) := by decide +kernel
theorem dX6_fillSlot_74 : decode cX6_fillSlot 74 = .ok (.iload_n 3, 1) := by decide +kernel
theorem dX6_fillSlot_75 : decode cX6_fillSlot 75 = .ok (.iload 5, 2) := by decide +kernel
theorem dX6_fillSlot_77 : decode cX6_fillSlot 77 = .ok (.iadd, 1) := by decide +kernel
theorem dX6_fillSlot_78 : decode cX6_fillSlot 78 = .ok (.dup2, 1) := by decide +kernel
theorem dX6_fillSlot_79 : decode cX6_fillSlot 79 = .ok (.iaload, 1) := by decide +kernel
theorem dX6_fillSlot_80 : decode cX6_fillSlot 80 = .ok (.iconst 1, 1) := by decide +kernel
theorem dX6_fillSlot_81 : decode cX6_fillSlot 81 = .ok (.iadd, 1) := by decide +kernel
theorem dX6_fillSlot_82 : decode cX6_fillSlot 82 = .ok (.iastore, 1) := by decide +kernel
theorem dX6_fillSlot_83 : decode cX6_fillSlot 83 = .ok (.aload_n 0, 1) := by decide +kernel
theorem dX6_fillSlot_84 : decode cX6_fillSlot 84 = .ok (.getfield 23, 3) := by decide +kernel
theorem dX6_fillSlot_87 : decode cX6_fillSlot 87 = .ok (.iload_n 3, 1) := by decide +kernel
theorem dX6_fillSlot_88 : decode cX6_fillSlot 88 = .ok (.iload 5, 2) := by decide +kernel
theorem dX6_fillSlot_90 : decode cX6_fillSlot 90 = .ok (.iadd, 1) := by decide +kernel
theorem dX6_fillSlot_91 : decode cX6_fillSlot 91 = .ok (.dup2, 1) := by decide +kernel
theorem dX6_fillSlot_92 : decode cX6_fillSlot 92 = .ok (.iaload, 1) := by decide +kernel
theorem dX6_fillSlot_93 : decode cX6_fillSlot 93 = .ok (.aload_n 0, 1) := by decide +kernel
theorem dX6_fillSlot_94 : decode cX6_fillSlot 94 = .ok (.getfield 30, 3) := by decide +kernel
theorem dX6_fillSlot_97 : decode cX6_fillSlot 97 = .ok (.getfield 107, 3) := by decide +kernel
theorem dX6_fillSlot_100 : decode cX6_fillSlot 100 = .ok (.iload 4, 2) := by decide +kernel
theorem dX6_fillSlot_102 : decode cX6_fillSlot 102 = .ok (.baload, 1) := by decide +kernel
theorem dX6_fillSlot_103 : decode cX6_fillSlot 103 = .ok (.ifCond .eq 7, 3) := by decide +kernel
theorem dX6_fillSlot_106 : decode cX6_fillSlot 106 = .ok (.iconst 3, 1) := by decide +kernel
theorem dX6_fillSlot_107 : decode cX6_fillSlot 107 = .ok (.goto 4, 3) := by decide +kernel
theorem dX6_fillSlot_110 : decode cX6_fillSlot 110 = .ok (.iconst 1, 1) := by decide +kernel
theorem dX6_fillSlot_111 : decode cX6_fillSlot 111 = .ok (.iadd, 1) := by decide +kernel
theorem dX6_fillSlot_112 : decode cX6_fillSlot 112 = .ok (.iastore, 1) := by decide +kernel
theorem dX6_fillSlot_113 : decode cX6_fillSlot 113 = .ok (.iinc 4 1, 3) := by decide +kernel
theorem dX6_fillSlot_116 : decode cX6_fillSlot 116 = .ok (.goto (-72), 3) := by decide +kernel
theorem dX6_fillSlot_119 : decode cX6_fillSlot 119 = .ok (.return_, 1) := by decide +kernel
theorem dX6_lawnsIn_0 : decode cX6_lawnsIn 0 = .ok (.iload_n 1, 1) := by decide +kernel
theorem dX6_lawnsIn_1 : decode cX6_lawnsIn 1 = .ok (.iload_n 2, 1) := by decide +kernel
theorem dX6_lawnsIn_2 : decode cX6_lawnsIn 2 = .ok (.invokestatic 111, 3) := by decide +kernel
theorem dX6_lawnsIn_5 : decode cX6_lawnsIn 5 = .ok (.ifCond .eq 17, 3) := by decide +kernel
theorem dX6_lawnsIn_8 : decode cX6_lawnsIn 8 = .ok (.aload_n 0, 1) := by decide +kernel
theorem dX6_lawnsIn_9 : decode cX6_lawnsIn 9 = .ok (.getfield 20, 3) := by decide +kernel
theorem dX6_lawnsIn_12 : decode cX6_lawnsIn 12 = .ok (.iload_n 1, 1) := by decide +kernel
theorem dX6_lawnsIn_13 : decode cX6_lawnsIn 13 = .ok (.bipush 6, 2) := by decide +kernel
theorem dX6_lawnsIn_15 : decode cX6_lawnsIn 15 = .ok (.imul, 1) := by decide +kernel
theorem dX6_lawnsIn_16 : decode cX6_lawnsIn 16 = .ok (.iload_n 2, 1) := by decide +kernel
theorem dX6_lawnsIn_17 : decode cX6_lawnsIn 17 = .ok (.iadd, 1) := by decide +kernel
theorem dX6_lawnsIn_18 : decode cX6_lawnsIn 18 = .ok (.iaload, 1) := by decide +kernel
theorem dX6_lawnsIn_19 : decode cX6_lawnsIn 19 = .ok (.goto 4, 3) := by decide +kernel
theorem dX6_lawnsIn_22 : decode cX6_lawnsIn 22 = .ok (.iconst 0, 1) := by decide +kernel
theorem dX6_lawnsIn_23 : decode cX6_lawnsIn 23 = .ok (.ireturn, 1) := by decide +kernel
theorem dX6_gainIn_0 : decode cX6_gainIn 0 = .ok (.iload_n 1, 1) := by decide +kernel
theorem dX6_gainIn_1 : decode cX6_gainIn 1 = .ok (.iload_n 2, 1) := by decide +kernel
theorem dX6_gainIn_2 : decode cX6_gainIn 2 = .ok (.invokestatic 111, 3) := by decide +kernel
theorem dX6_gainIn_5 : decode cX6_gainIn 5 = .ok (.ifCond .eq 17, 3) := by decide +kernel
theorem dX6_gainIn_8 : decode cX6_gainIn 8 = .ok (.aload_n 0, 1) := by decide +kernel
theorem dX6_gainIn_9 : decode cX6_gainIn 9 = .ok (.getfield 23, 3) := by decide +kernel
theorem dX6_gainIn_12 : decode cX6_gainIn 12 = .ok (.iload_n 1, 1) := by decide +kernel
theorem dX6_gainIn_13 : decode cX6_gainIn 13 = .ok (.bipush 6, 2) := by decide +kernel
theorem dX6_gainIn_15 : decode cX6_gainIn 15 = .ok (.imul, 1) := by decide +kernel
theorem dX6_gainIn_16 : decode cX6_gainIn 16 = .ok (.iload_n 2, 1) := by decide +kernel
theorem dX6_gainIn_17 : decode cX6_gainIn 17 = .ok (.iadd, 1) := by decide +kernel
theorem dX6_gainIn_18 : decode cX6_gainIn 18 = .ok (.iaload, 1) := by decide +kernel
theorem dX6_gainIn_19 : decode cX6_gainIn 19 = .ok (.goto 4, 3) := by decide +kernel
theorem dX6_gainIn_22 : decode cX6_gainIn 22 = .ok (.iconst 0, 1) := by decide +kernel
theorem dX6_gainIn_23 : decode cX6_gainIn 23 = .ok (.ireturn, 1) := by decide +kernel
theorem dX6_isKept_0 : decode cX6_isKept 0 = .ok (.iload_n 0, 1) := by decide +kernel
theorem dX6_isKept_1 : decode cX6_isKept 1 = .ok (.ifCond .lt 23, 3) := by decide +kernel
theorem dX6_isKept_4 : decode cX6_isKept 4 = .ok (.iload_n 0, 1) := by decide +kernel
theorem dX6_isKept_5 : decode cX6_isKept 5 = .ok (.bipush 64, 2) := by decide +kernel
theorem dX6_isKept_7 : decode cX6_isKept 7 = .ok (.if_icmp .ge 17, 3) := by decide +kernel
theorem dX6_isKept_10 : decode cX6_isKept 10 = .ok (.iload_n 1, 1) := by decide +kernel
theorem dX6_isKept_11 : decode cX6_isKept 11 = .ok (.ifCond .lt 13, 3) := by decide +kernel
theorem dX6_isKept_14 : decode cX6_isKept 14 = .ok (.iload_n 1, 1) := by decide +kernel
theorem dX6_isKept_15 : decode cX6_isKept 15 = .ok (.bipush 6, 2) := by decide +kernel
theorem dX6_isKept_17 : decode cX6_isKept 17 = .ok (.if_icmp .ge 7, 3) := by decide +kernel
theorem dX6_isKept_20 : decode cX6_isKept 20 = .ok (.iconst 1, 1) := by decide +kernel
theorem dX6_isKept_21 : decode cX6_isKept 21 = .ok (.goto 4, 3) := by decide +kernel
theorem dX6_isKept_24 : decode cX6_isKept 24 = .ok (.iconst 0, 1) := by decide +kernel
theorem dX6_isKept_25 : decode cX6_isKept 25 = .ok (.ireturn, 1) := by decide +kernel
theorem dX7_init_0 : decode cX7_init 0 = .ok (.aload_n 0, 1) := by decide +kernel
theorem dX7_init_1 : decode cX7_init 1 = .ok (.invokespecial 3, 3) := by decide +kernel
theorem dX7_init_4 : decode cX7_init 4 = .ok (.aload_n 0, 1) := by decide +kernel
theorem dX7_init_5 : decode cX7_init 5 = .ok (.new 9, 3) := by decide +kernel
theorem dX7_init_8 : decode cX7_init 8 = .ok (.dup, 1) := by decide +kernel
theorem dX7_init_9 : decode cX7_init 9 = .ok (.invokespecial 11, 3) := by decide +kernel
theorem dX7_init_12 : decode cX7_init 12 = .ok (.putfield 12, 3) := by decide +kernel
theorem dX7_init_15 : decode cX7_init 15 = .ok (.aload_n 0, 1) := by decide +kernel
theorem dX7_init_16 : decode cX7_init 16 = .ok (.new 18, 3) := by decide +kernel
theorem dX7_init_19 : decode cX7_init 19 = .ok (.dup, 1) := by decide +kernel
theorem dX7_init_20 : decode cX7_init 20 = .ok (.aload_n 0, 1) := by decide +kernel
theorem dX7_init_21 : decode cX7_init 21 = .ok (.getfield 12, 3) := by decide +kernel
theorem dX7_init_24 : decode cX7_init 24 = .ok (.invokespecial 20, 3) := by decide +kernel
theorem dX7_init_27 : decode cX7_init 27 = .ok (.putfield 23, 3) := by decide +kernel
theorem dX7_init_30 : decode cX7_init 30 = .ok (.aload_n 0, 1) := by decide +kernel
theorem dX7_init_31 : decode cX7_init 31 = .ok (.bipush 6, 2) := by decide +kernel
theorem dX7_init_33 : decode cX7_init 33 = .ok (.newarray .int, 2) := by decide +kernel
theorem dX7_init_35 : decode cX7_init 35 = .ok (.putfield 27, 3) := by decide +kernel
theorem dX7_init_38 : decode cX7_init 38 = .ok (.aload_n 0, 1) := by decide +kernel
theorem dX7_init_39 : decode cX7_init 39 = .ok (.iconst 0, 1) := by decide +kernel
theorem dX7_init_40 : decode cX7_init 40 = .ok (.putfield 31, 3) := by decide +kernel
theorem dX7_init_43 : decode cX7_init 43 = .ok (.aload_n 0, 1) := by decide +kernel
theorem dX7_init_44 : decode cX7_init 44 = .ok (.iconst 0, 1) := by decide +kernel
theorem dX7_init_45 : decode cX7_init 45 = .ok (.putfield 35, 3) := by decide +kernel
theorem dX7_init_48 : decode cX7_init 48 = .ok (.aload_n 0, 1) := by decide +kernel
theorem dX7_init_49 : decode cX7_init 49 = .ok (.iconst 0, 1) := by decide +kernel
theorem dX7_init_50 : decode cX7_init 50 = .ok (.putfield 38, 3) := by decide +kernel
theorem dX7_init_53 : decode cX7_init 53 = .ok (.aload_n 0, 1) := by decide +kernel
theorem dX7_init_54 : decode cX7_init 54 = .ok (.iconst 0, 1) := by decide +kernel
theorem dX7_init_55 : decode cX7_init 55 = .ok (.putfield 41, 3) := by decide +kernel
theorem dX7_init_58 : decode cX7_init 58 = .ok (.aload_n 0, 1) := by decide +kernel
theorem dX7_init_59 : decode cX7_init 59 = .ok (.iconst 0, 1) := by decide +kernel
theorem dX7_init_60 : decode cX7_init 60 = .ok (.putfield 44, 3) := by decide +kernel
theorem dX7_init_63 : decode cX7_init 63 = .ok (.aload_n 0, 1) := by decide +kernel
theorem dX7_init_64 : decode cX7_init 64 = .ok (.iconst 0, 1) := by decide +kernel
theorem dX7_init_65 : decode cX7_init 65 = .ok (.putfield 47, 3) := by decide +kernel
theorem dX7_init_68 : decode cX7_init 68 = .ok (.aload_n 0, 1) := by decide +kernel
theorem dX7_init_69 : decode cX7_init 69 = .ok (.iconst 0, 1) := by decide +kernel
theorem dX7_init_70 : decode cX7_init 70 = .ok (.putfield 50, 3) := by decide +kernel
theorem dX7_init_73 : decode cX7_init 73 = .ok (.aload_n 0, 1) := by decide +kernel
theorem dX7_init_74 : decode cX7_init 74 = .ok (.iconst 0, 1) := by decide +kernel
theorem dX7_init_75 : decode cX7_init 75 = .ok (.putfield 54, 3) := by decide +kernel
theorem dX7_init_78 : decode cX7_init 78 = .ok (.aload_n 0, 1) := by decide +kernel
theorem dX7_init_79 : decode cX7_init 79 = .ok (.iconst 0, 1) := by decide +kernel
theorem dX7_init_80 : decode cX7_init 80 = .ok (.putfield 57, 3) := by decide +kernel
theorem dX7_init_83 : decode cX7_init 83 = .ok (.return_, 1) := by decide +kernel
theorem dX7_look_0 : decode cX7_look 0 = .ok (.aload_n 0, 1) := by decide +kernel
theorem dX7_look_1 : decode cX7_look 1 = .ok (.getfield 23, 3) := by decide +kernel
theorem dX7_look_4 : decode cX7_look 4 = .ok (.invokevirtual 60, 3) := by decide +kernel
theorem dX7_look_7 : decode cX7_look 7 = .ok (.aload_n 0, 1) := by decide +kernel
theorem dX7_look_8 : decode cX7_look 8 = .ok (.iconst 0, 1) := by decide +kernel
theorem dX7_look_9 : decode cX7_look 9 = .ok (.putfield 35, 3) := by decide +kernel
theorem dX7_look_12 : decode cX7_look 12 = .ok (.iconst 0, 1) := by decide +kernel
theorem dX7_look_13 : decode cX7_look 13 = .ok (.istore_n 1, 1) := by decide +kernel
theorem dX7_look_14 : decode cX7_look 14 = .ok (.iload_n 1, 1) := by decide +kernel
theorem dX7_look_15 : decode cX7_look 15 = .ok (.bipush 6, 2) := by decide +kernel
theorem dX7_look_17 : decode cX7_look 17 = .ok (.if_icmp .ge 93, 3) := by decide +kernel
theorem dX7_look_20 : decode cX7_look 20 = .ok (.aload_n 0, 1) := by decide +kernel
theorem dX7_look_21 : decode cX7_look 21 = .ok (.getfield 27, 3) := by decide +kernel
theorem dX7_look_24 : decode cX7_look 24 = .ok (.iload_n 1, 1) := by decide +kernel
theorem dX7_look_25 : decode cX7_look 25 = .ok (.bipush 6, 2) := by decide +kernel
theorem dX7_look_27 : decode cX7_look 27 = .ok (.iastore, 1) := by decide +kernel
theorem dX7_look_28 : decode cX7_look 28 = .ok (.iload_n 1, 1) := by decide +kernel
theorem dX7_look_29 : decode cX7_look 29 = .ok (.aload_n 0, 1) := by decide +kernel
theorem dX7_look_30 : decode cX7_look 30 = .ok (.getfield 12, 3) := by decide +kernel
theorem dX7_look_33 : decode cX7_look 33 = .ok (.getfield 63, 3) := by decide +kernel
theorem dX7_look_36 : decode cX7_look 36 = .ok (.if_icmp .ge 68, 3) := by decide +kernel
theorem dX7_look_39 : decode cX7_look 39 = .ok (.aload_n 0, 1) := by decide +kernel
theorem dX7_look_40 : decode cX7_look 40 = .ok (.getfield 12, 3) := by decide +kernel
theorem dX7_look_43 : decode cX7_look 43 = .ok (.getfield 66, 3) := by decide +kernel
theorem dX7_look_46 : decode cX7_look 46 = .ok (.iload_n 1, 1) := by decide +kernel
theorem dX7_look_47 : decode cX7_look 47 = .ok (.aaload, 1) := by decide +kernel
theorem dX7_look_48 : decode cX7_look 48 = .ok (.aload_n 0, 1) := by decide +kernel
theorem dX7_look_49 : decode cX7_look 49 = .ok (.getfield 12, 3) := by decide +kernel
theorem dX7_look_52 : decode cX7_look 52 = .ok (.getfield 70, 3) := by decide +kernel
theorem dX7_look_55 : decode cX7_look 55 = .ok (.invokevirtual 73, 3) := by decide +kernel
theorem dX7_look_58 : decode cX7_look 58 = .ok (.istore_n 2, 1) := by decide +kernel
theorem dX7_look_59 : decode cX7_look 59 = .ok (.aload_n 0, 1) := by decide +kernel
theorem dX7_look_60 : decode cX7_look 60 = .ok (.getfield 12, 3) := by decide +kernel
theorem dX7_look_63 : decode cX7_look 63 = .ok (.getfield 66, 3) := by decide +kernel
theorem dX7_look_66 : decode cX7_look 66 = .ok (.iload_n 1, 1) := by decide +kernel
theorem dX7_look_67 : decode cX7_look 67 = .ok (.aaload, 1) := by decide +kernel
theorem dX7_look_68 : decode cX7_look 68 = .ok (.getfield 79, 3) := by decide +kernel
theorem dX7_look_71 : decode cX7_look 71 = .ok (.aload_n 0, 1) := by decide +kernel
theorem dX7_look_72 : decode cX7_look 72 = .ok (.getfield 12, 3) := by decide +kernel
theorem dX7_look_75 : decode cX7_look 75 = .ok (.iload_n 2, 1) := by decide +kernel
theorem dX7_look_76 : decode cX7_look 76 = .ok (.invokevirtual 82, 3) := by decide +kernel
theorem dX7_look_79 : decode cX7_look 79 = .ok (.if_icmp .lt 13, 3) := by decide +kernel
theorem dX7_look_82 : decode cX7_look 82 = .ok (.aload_n 0, 1) := by decide +kernel
theorem dX7_look_83 : decode cX7_look 83 = .ok (.getfield 27, 3) := by decide +kernel
theorem dX7_look_86 : decode cX7_look 86 = .ok (.iload_n 1, 1) := by decide +kernel
theorem dX7_look_87 : decode cX7_look 87 = .ok (.iload_n 2, 1) := by decide +kernel
theorem dX7_look_88 : decode cX7_look 88 = .ok (.iastore, 1) := by decide +kernel
theorem dX7_look_89 : decode cX7_look 89 = .ok (.goto 15, 3) := by decide +kernel
theorem dX7_look_92 : decode cX7_look 92 = .ok (.aload_n 0, 1) := by decide +kernel
theorem dX7_look_93 : decode cX7_look 93 = .ok (.dup, 1) := by decide +kernel
theorem dX7_look_94 : decode cX7_look 94 = .ok (.getfield 35, 3) := by decide +kernel
theorem dX7_look_97 : decode cX7_look 97 = .ok (.iconst 1, 1) := by decide +kernel
theorem dX7_look_98 : decode cX7_look 98 = .ok (.iload_n 1, 1) := by decide +kernel
theorem dX7_look_99 : decode cX7_look 99 = .ok (.ishl, 1) := by decide +kernel
theorem dX7_look_100 : decode cX7_look 100 = .ok (.ior, 1) := by decide +kernel
theorem dX7_look_101 : decode cX7_look 101 = .ok (.putfield 35, 3) := by decide +kernel
theorem dX7_look_104 : decode cX7_look 104 = .ok (.iinc 1 1, 3) := by decide +kernel
theorem dX7_look_107 : decode cX7_look 107 = .ok (.goto (-93), 3) := by decide +kernel
theorem dX7_look_110 : decode cX7_look 110 = .ok (.return_, 1) := by decide +kernel
theorem dX7_playedBy_0 : decode cX7_playedBy 0 = .ok (.aload_n 0, 1) := by decide +kernel
theorem dX7_playedBy_1 : decode cX7_playedBy 1 = .ok (.invokevirtual 85, 3) := by decide +kernel
theorem dX7_playedBy_4 : decode cX7_playedBy 4 = .ok (.aload_n 0, 1) := by decide +kernel
theorem dX7_playedBy_5 : decode cX7_playedBy 5 = .ok (.getfield 12, 3) := by decide +kernel
theorem dX7_playedBy_8 : decode cX7_playedBy 8 = .ok (.iload_n 1, 1) := by decide +kernel
theorem dX7_playedBy_9 : decode cX7_playedBy 9 = .ok (.invokevirtual 88, 3) := by decide +kernel
theorem dX7_playedBy_12 : decode cX7_playedBy 12 = .ok (.ifCond .eq 12, 3) := by decide +kernel
theorem dX7_playedBy_15 : decode cX7_playedBy 15 = .ok (.aload_n 0, 1) := by decide +kernel
theorem dX7_playedBy_16 : decode cX7_playedBy 16 = .ok (.getfield 27, 3) := by decide +kernel
theorem dX7_playedBy_19 : decode cX7_playedBy 19 = .ok (.iload_n 1, 1) := by decide +kernel
theorem dX7_playedBy_20 : decode cX7_playedBy 20 = .ok (.iaload, 1) := by decide +kernel
theorem dX7_playedBy_21 : decode cX7_playedBy 21 = .ok (.goto 5, 3) := by decide +kernel
theorem dX7_playedBy_24 : decode cX7_playedBy 24 = .ok (.bipush 6, 2) := by decide +kernel
theorem dX7_playedBy_26 : decode cX7_playedBy 26 = .ok (.ireturn, 1) := by decide +kernel
theorem dX7_playingSet_0 : decode cX7_playingSet 0 = .ok (.aload_n 0, 1) := by decide +kernel
theorem dX7_playingSet_1 : decode cX7_playingSet 1 = .ok (.invokevirtual 85, 3) := by decide +kernel
theorem dX7_playingSet_4 : decode cX7_playingSet 4 = .ok (.iconst 0, 1) := by decide +kernel
theorem dX7_playingSet_5 : decode cX7_playingSet 5 = .ok (.istore_n 1, 1) := by decide +kernel
theorem dX7_playingSet_6 : decode cX7_playingSet 6 = .ok (.iconst 0, 1) := by decide +kernel
theorem dX7_playingSet_7 : decode cX7_playingSet 7 = .ok (.istore_n 2, 1) := by decide +kernel
theorem dX7_playingSet_8 : decode cX7_playingSet 8 = .ok (.iload_n 2, 1) := by decide +kernel
theorem dX7_playingSet_9 : decode cX7_playingSet 9 = .ok (.bipush 6, 2) := by decide +kernel
theorem dX7_playingSet_11 : decode cX7_playingSet 11 = .ok (.if_icmp .ge 30, 3) := by decide +kernel
theorem dX7_playingSet_14 : decode cX7_playingSet 14 = .ok (.iload_n 1, 1) := by decide +kernel
theorem dX7_playingSet_15 : decode cX7_playingSet 15 = .ok (.aload_n 0, 1) := by decide +kernel
theorem dX7_playingSet_16 : decode cX7_playingSet 16 = .ok (.getfield 27, 3) := by decide +kernel
theorem dX7_playingSet_19 : decode cX7_playingSet 19 = .ok (.iload_n 2, 1) := by decide +kernel
theorem dX7_playingSet_20 : decode cX7_playingSet 20 = .ok (.iaload, 1) := by decide +kernel
theorem dX7_playingSet_21 : decode cX7_playingSet 21 = .ok (.bipush 6, 2) := by decide +kernel
theorem dX7_playingSet_23 : decode cX7_playingSet 23 = .ok (.if_icmp .ne 7, 3) := by decide +kernel
theorem dX7_playingSet_26 : decode cX7_playingSet 26 = .ok (.iconst 0, 1) := by decide +kernel
theorem dX7_playingSet_27 : decode cX7_playingSet 27 = .ok (.goto 6, 3) := by decide +kernel
theorem dX7_playingSet_30 : decode cX7_playingSet 30 = .ok (.iconst 1, 1) := by decide +kernel
theorem dX7_playingSet_31 : decode cX7_playingSet 31 = .ok (.iload_n 2, 1) := by decide +kernel
theorem dX7_playingSet_32 : decode cX7_playingSet 32 = .ok (.ishl, 1) := by decide +kernel
theorem dX7_playingSet_33 : decode cX7_playingSet 33 = .ok (.ior, 1) := by decide +kernel
theorem dX7_playingSet_34 : decode cX7_playingSet 34 = .ok (.istore_n 1, 1) := by decide +kernel
theorem dX7_playingSet_35 : decode cX7_playingSet 35 = .ok (.iinc 2 1, 3) := by decide +kernel
theorem dX7_playingSet_38 : decode cX7_playingSet 38 = .ok (.goto (-30), 3) := by decide +kernel
theorem dX7_playingSet_41 : decode cX7_playingSet 41 = .ok (.iload_n 1, 1) := by decide +kernel
theorem dX7_playingSet_42 : decode cX7_playingSet 42 = .ok (.ireturn, 1) := by decide +kernel
theorem dX7_tiredSet_0 : decode cX7_tiredSet 0 = .ok (.aload_n 0, 1) := by decide +kernel
theorem dX7_tiredSet_1 : decode cX7_tiredSet 1 = .ok (.invokevirtual 85, 3) := by decide +kernel
theorem dX7_tiredSet_4 : decode cX7_tiredSet 4 = .ok (.aload_n 0, 1) := by decide +kernel
theorem dX7_tiredSet_5 : decode cX7_tiredSet 5 = .ok (.getfield 35, 3) := by decide +kernel
theorem dX7_tiredSet_8 : decode cX7_tiredSet 8 = .ok (.ireturn, 1) := by decide +kernel
theorem dX7_levelAt_0 : decode cX7_levelAt 0 = .ok (.aload_n 0, 1) := by decide +kernel
theorem dX7_levelAt_1 : decode cX7_levelAt 1 = .ok (.invokevirtual 85, 3) := by decide +kernel
theorem dX7_levelAt_4 : decode cX7_levelAt 4 = .ok (.aload_n 0, 1) := by decide +kernel
theorem dX7_levelAt_5 : decode cX7_levelAt 5 = .ok (.getfield 23, 3) := by decide +kernel
theorem dX7_levelAt_8 : decode cX7_levelAt 8 = .ok (.iload_n 1, 1) := by decide +kernel
theorem dX7_levelAt_9 : decode cX7_levelAt 9 = .ok (.iload_n 2, 1) := by decide +kernel
theorem dX7_levelAt_10 : decode cX7_levelAt 10 = .ok (.iload_n 3, 1) := by decide +kernel
theorem dX7_levelAt_11 : decode cX7_levelAt 11 = .ok (.invokevirtual 92, 3) := by decide +kernel
theorem dX7_levelAt_14 : decode cX7_levelAt 14 = .ok (.ireturn, 1) := by decide +kernel
theorem dX7_holderAt_0 : decode cX7_holderAt 0 = .ok (.aload_n 0, 1) := by decide +kernel
theorem dX7_holderAt_1 : decode cX7_holderAt 1 = .ok (.invokevirtual 85, 3) := by decide +kernel
theorem dX7_holderAt_4 : decode cX7_holderAt 4 = .ok (.aload_n 0, 1) := by decide +kernel
theorem dX7_holderAt_5 : decode cX7_holderAt 5 = .ok (.getfield 23, 3) := by decide +kernel
theorem dX7_holderAt_8 : decode cX7_holderAt 8 = .ok (.aload_n 0, 1) := by decide +kernel
theorem dX7_holderAt_9 : decode cX7_holderAt 9 = .ok (.getfield 27, 3) := by decide +kernel
theorem dX7_holderAt_12 : decode cX7_holderAt 12 = .ok (.iload_n 1, 1) := by decide +kernel
theorem dX7_holderAt_13 : decode cX7_holderAt 13 = .ok (.invokevirtual 96, 3) := by decide +kernel
theorem dX7_holderAt_16 : decode cX7_holderAt 16 = .ok (.ireturn, 1) := by decide +kernel
theorem dX7_loudestAt_0 : decode cX7_loudestAt 0 = .ok (.aload_n 0, 1) := by decide +kernel
theorem dX7_loudestAt_1 : decode cX7_loudestAt 1 = .ok (.invokevirtual 85, 3) := by decide +kernel
theorem dX7_loudestAt_4 : decode cX7_loudestAt 4 = .ok (.aload_n 0, 1) := by decide +kernel
theorem dX7_loudestAt_5 : decode cX7_loudestAt 5 = .ok (.getfield 23, 3) := by decide +kernel
theorem dX7_loudestAt_8 : decode cX7_loudestAt 8 = .ok (.iconst (-1), 1) := by decide +kernel
theorem dX7_loudestAt_9 : decode cX7_loudestAt 9 = .ok (.aload_n 0, 1) := by decide +kernel
theorem dX7_loudestAt_10 : decode cX7_loudestAt 10 = .ok (.getfield 27, 3) := by decide +kernel
theorem dX7_loudestAt_13 : decode cX7_loudestAt 13 = .ok (.iload_n 1, 1) := by decide +kernel
theorem dX7_loudestAt_14 : decode cX7_loudestAt 14 = .ok (.invokevirtual 100, 3) := by decide +kernel
theorem dX7_loudestAt_17 : decode cX7_loudestAt 17 = .ok (.ireturn, 1) := by decide +kernel
theorem dX7_lawnsOf_0 : decode cX7_lawnsOf 0 = .ok (.aload_n 0, 1) := by decide +kernel
theorem dX7_lawnsOf_1 : decode cX7_lawnsOf 1 = .ok (.invokevirtual 85, 3) := by decide +kernel
theorem dX7_lawnsOf_4 : decode cX7_lawnsOf 4 = .ok (.aload_n 0, 1) := by decide +kernel
theorem dX7_lawnsOf_5 : decode cX7_lawnsOf 5 = .ok (.getfield 23, 3) := by decide +kernel
theorem dX7_lawnsOf_8 : decode cX7_lawnsOf 8 = .ok (.aload_n 0, 1) := by decide +kernel
theorem dX7_lawnsOf_9 : decode cX7_lawnsOf 9 = .ok (.getfield 23, 3) := by decide +kernel
theorem dX7_lawnsOf_12 : decode cX7_lawnsOf 12 = .ok (.aload_n 0, 1) := by decide +kernel
theorem dX7_lawnsOf_13 : decode cX7_lawnsOf 13 = .ok (.getfield 27, 3) := by decide +kernel
theorem dX7_lawnsOf_16 : decode cX7_lawnsOf 16 = .ok (.invokevirtual 104, 3) := by decide +kernel
theorem dX7_lawnsOf_19 : decode cX7_lawnsOf 19 = .ok (.iload_n 1, 1) := by decide +kernel
theorem dX7_lawnsOf_20 : decode cX7_lawnsOf 20 = .ok (.invokevirtual 108, 3) := by decide +kernel
theorem dX7_lawnsOf_23 : decode cX7_lawnsOf 23 = .ok (.ireturn, 1) := by decide +kernel
theorem dX7_countHeldBy_0 : decode cX7_countHeldBy 0 = .ok (.aload_n 0, 1) := by decide +kernel
theorem dX7_countHeldBy_1 : decode cX7_countHeldBy 1 = .ok (.invokevirtual 85, 3) := by decide +kernel
theorem dX7_countHeldBy_4 : decode cX7_countHeldBy 4 = .ok (.iconst 0, 1) := by decide +kernel
theorem dX7_countHeldBy_5 : decode cX7_countHeldBy 5 = .ok (.istore_n 2, 1) := by decide +kernel
theorem dX7_countHeldBy_6 : decode cX7_countHeldBy 6 = .ok (.iconst 0, 1) := by decide +kernel
theorem dX7_countHeldBy_7 : decode cX7_countHeldBy 7 = .ok (.istore_n 3, 1) := by decide +kernel
theorem dX7_countHeldBy_8 : decode cX7_countHeldBy 8 = .ok (.iload_n 3, 1) := by decide +kernel
theorem dX7_countHeldBy_9 : decode cX7_countHeldBy 9 = .ok (.aload_n 0, 1) := by decide +kernel
theorem dX7_countHeldBy_10 : decode cX7_countHeldBy 10 = .ok (.getfield 12, 3) := by decide +kernel
theorem dX7_countHeldBy_13 : decode cX7_countHeldBy 13 = .ok (.invokevirtual 112, 3) := by decide +kernel
theorem dX7_countHeldBy_16 : decode cX7_countHeldBy 16 = .ok (.if_icmp .ge 33, 3) := by decide +kernel
theorem dX7_countHeldBy_19 : decode cX7_countHeldBy 19 = .ok (.iload_n 2, 1) := by decide +kernel
theorem dX7_countHeldBy_20 : decode cX7_countHeldBy 20 = .ok (.aload_n 0, 1) := by decide +kernel
theorem dX7_countHeldBy_21 : decode cX7_countHeldBy 21 = .ok (.getfield 23, 3) := by decide +kernel
theorem dX7_countHeldBy_24 : decode cX7_countHeldBy 24 = .ok (.aload_n 0, 1) := by decide +kernel
theorem dX7_countHeldBy_25 : decode cX7_countHeldBy 25 = .ok (.getfield 27, 3) := by decide +kernel
theorem dX7_countHeldBy_28 : decode cX7_countHeldBy 28 = .ok (.iload_n 3, 1) := by decide +kernel
theorem dX7_countHeldBy_29 : decode cX7_countHeldBy 29 = .ok (.invokevirtual 96, 3) := by decide +kernel
theorem dX7_countHeldBy_32 : decode cX7_countHeldBy 32 = .ok (.iload_n 1, 1) := by decide +kernel
theorem dX7_countHeldBy_33 : decode cX7_countHeldBy 33 = .ok (.if_icmp .ne 7, 3) := by decide +kernel
theorem dX7_countHeldBy_36 : decode cX7_countHeldBy 36 = .ok (.iconst 1, 1) := by decide +kernel
theorem dX7_countHeldBy_37 : decode cX7_countHeldBy 37 = .ok (.goto 4, 3) := by decide +kernel
theorem dX7_countHeldBy_40 : decode cX7_countHeldBy 40 = .ok (.iconst 0, 1) := by decide +kernel
theorem dX7_countHeldBy_41 : decode cX7_countHeldBy 41 = .ok (.iadd, 1) := by decide +kernel
theorem dX7_countHeldBy_42 : decode cX7_countHeldBy 42 = .ok (.istore_n 2, 1) := by decide +kernel
theorem dX7_countHeldBy_43 : decode cX7_countHeldBy 43 = .ok (.iinc 3 1, 3) := by decide +kernel
theorem dX7_countHeldBy_46 : decode cX7_countHeldBy 46 = .ok (.goto (-38), 3) := by decide +kernel
theorem dX7_countHeldBy_49 : decode cX7_countHeldBy 49 = .ok (.iload_n 2, 1) := by decide +kernel
theorem dX7_countHeldBy_50 : decode cX7_countHeldBy 50 = .ok (.ireturn, 1) := by decide +kernel
theorem dX7_countPondsHeldBy_0 : decode cX7_countPondsHeldBy 0 = .ok (.aload_n 0, 1) := by decide +kernel
theorem dX7_countPondsHeldBy_1 : decode cX7_countPondsHeldBy 1 = .ok (.invokevirtual 85, 3) := by decide +kernel
theorem dX7_countPondsHeldBy_4 : decode cX7_countPondsHeldBy 4 = .ok (.iconst 0, 1) := by decide +kernel
theorem dX7_countPondsHeldBy_5 : decode cX7_countPondsHeldBy 5 = .ok (.istore_n 2, 1) := by decide +kernel
theorem dX7_countPondsHeldBy_6 : decode cX7_countPondsHeldBy 6 = .ok (.iconst 0, 1) := by decide +kernel
theorem dX7_countPondsHeldBy_7 : decode cX7_countPondsHeldBy 7 = .ok (.istore_n 3, 1) := by decide +kernel
theorem dX7_countPondsHeldBy_8 : decode cX7_countPondsHeldBy 8 = .ok (.iload_n 3, 1) := by decide +kernel
theorem dX7_countPondsHeldBy_9 : decode cX7_countPondsHeldBy 9 = .ok (.aload_n 0, 1) := by decide +kernel
theorem dX7_countPondsHeldBy_10 : decode cX7_countPondsHeldBy 10 = .ok (.getfield 12, 3) := by decide +kernel
theorem dX7_countPondsHeldBy_13 : decode cX7_countPondsHeldBy 13 = .ok (.invokevirtual 112, 3) := by decide +kernel
theorem dX7_countPondsHeldBy_16 : decode cX7_countPondsHeldBy 16 = .ok (.if_icmp .ge 45, 3) := by decide +kernel
theorem dX7_countPondsHeldBy_19 : decode cX7_countPondsHeldBy 19 = .ok (.iload_n 2, 1) := by decide +kernel
theorem dX7_countPondsHeldBy_20 : decode cX7_countPondsHeldBy 20 = .ok (.aload_n 0, 1) := by decide +kernel
theorem dX7_countPondsHeldBy_21 : decode cX7_countPondsHeldBy 21 = .ok (.getfield 12, 3) := by decide +kernel
theorem dX7_countPondsHeldBy_24 : decode cX7_countPondsHeldBy 24 = .ok (.getfield 116, 3) := by decide +kernel
theorem dX7_countPondsHeldBy_27 : decode cX7_countPondsHeldBy 27 = .ok (.iload_n 3, 1) := by decide +kernel
theorem dX7_countPondsHeldBy_28 : decode cX7_countPondsHeldBy 28 = .ok (.baload, 1) := by decide +kernel
theorem dX7_countPondsHeldBy_29 : decode cX7_countPondsHeldBy 29 = .ok (.ifCond .eq 23, 3) := by decide +kernel
theorem dX7_countPondsHeldBy_32 : decode cX7_countPondsHeldBy 32 = .ok (.aload_n 0, 1) := by decide +kernel
theorem dX7_countPondsHeldBy_33 : decode cX7_countPondsHeldBy 33 = .ok (.getfield 23, 3) := by decide +kernel
theorem dX7_countPondsHeldBy_36 : decode cX7_countPondsHeldBy 36 = .ok (.aload_n 0, 1) := by decide +kernel
theorem dX7_countPondsHeldBy_37 : decode cX7_countPondsHeldBy 37 = .ok (.getfield 27, 3) := by decide +kernel
theorem dX7_countPondsHeldBy_40 : decode cX7_countPondsHeldBy 40 = .ok (.iload_n 3, 1) := by decide +kernel
theorem dX7_countPondsHeldBy_41 : decode cX7_countPondsHeldBy 41 = .ok (.invokevirtual 96, 3) := by decide +kernel
theorem dX7_countPondsHeldBy_44 : decode cX7_countPondsHeldBy 44 = .ok (.iload_n 1, 1) := by decide +kernel
theorem dX7_countPondsHeldBy_45 : decode cX7_countPondsHeldBy 45 = .ok (.if_icmp .ne 7, 3) := by decide +kernel
theorem dX7_countPondsHeldBy_48 : decode cX7_countPondsHeldBy 48 = .ok (.iconst 1, 1) := by decide +kernel
theorem dX7_countPondsHeldBy_49 : decode cX7_countPondsHeldBy 49 = .ok (.goto 4, 3) := by decide +kernel
theorem dX7_countPondsHeldBy_52 : decode cX7_countPondsHeldBy 52 = .ok (.iconst 0, 1) := by decide +kernel
theorem dX7_countPondsHeldBy_53 : decode cX7_countPondsHeldBy 53 = .ok (.iadd, 1) := by decide +kernel
theorem dX7_countPondsHeldBy_54 : decode cX7_countPondsHeldBy 54 = .ok (.istore_n 2, 1) := by decide +kernel
theorem dX7_countPondsHeldBy_55 : decode cX7_countPondsHeldBy 55 = .ok (.iinc 3 1, 3) := by decide +kernel
theorem dX7_countPondsHeldBy_58 : decode cX7_countPondsHeldBy 58 = .ok (.goto (-50), 3) := by decide +kernel
theorem dX7_countPondsHeldBy_61 : decode cX7_countPondsHeldBy 61 = .ok (.iload_n 2, 1) := by decide +kernel
theorem dX7_countPondsHeldBy_62 : decode cX7_countPondsHeldBy 62 = .ok (.ireturn, 1) := by decide +kernel
theorem dX7_passHours_0 : decode cX7_passHours 0 = .ok (.iconst 0, 1) := by decide +kernel
theorem dX7_passHours_1 : decode cX7_passHours 1 = .ok (.istore_n 2, 1) := by decide +kernel
theorem dX7_passHours_2 : decode cX7_passHours 2 = .ok (.iconst 0, 1) := by decide +kernel
theorem dX7_passHours_3 : decode cX7_passHours 3 = .ok (.istore_n 3, 1) := by decide +kernel
theorem dX7_passHours_4 : decode cX7_passHours 4 = .ok (.iload_n 3, 1) := by decide +kernel
theorem dX7_passHours_5 : decode cX7_passHours 5 = .ok (.iload_n 1, 1) := by decide +kernel
theorem dX7_passHours_6 : decode cX7_passHours 6 = .ok (.if_icmp .ge 178, 3) := by decide +kernel
theorem dX7_passHours_9 : decode cX7_passHours 9 = .ok (.aload_n 0, 1) := by decide +kernel
theorem dX7_passHours_10 : decode cX7_passHours 10 = .ok (.invokevirtual 85, 3) := by decide +kernel
theorem dX7_passHours_13 : decode cX7_passHours 13 = .ok (.aload_n 0, 1) := by decide +kernel
theorem dX7_passHours_14 : decode cX7_passHours 14 = .ok (.getfield 23, 3) := by decide +kernel
theorem dX7_passHours_17 : decode cX7_passHours 17 = .ok (.aload_n 0, 1) := by decide +kernel
theorem dX7_passHours_18 : decode cX7_passHours 18 = .ok (.getfield 27, 3) := by decide +kernel
theorem dX7_passHours_21 : decode cX7_passHours 21 = .ok (.invokevirtual 104, 3) := by decide +kernel
theorem dX7_passHours_24 : decode cX7_passHours 24 = .ok (.istore 4, 2) := by decide +kernel
theorem dX7_passHours_26 : decode cX7_passHours 26 = .ok (.iconst 0, 1) := by decide +kernel
theorem dX7_passHours_27 : decode cX7_passHours 27 = .ok (.istore 5, 2) := by decide +kernel
theorem dX7_passHours_29 : decode cX7_passHours 29 = .ok (.iload 5, 2) := by decide +kernel
theorem dX7_passHours_31 : decode cX7_passHours 31 = .ok (.aload_n 0, 1) := by decide +kernel
theorem dX7_passHours_32 : decode cX7_passHours 32 = .ok (.getfield 12, 3) := by decide +kernel
theorem dX7_passHours_35 : decode cX7_passHours 35 = .ok (.getfield 63, 3) := by decide +kernel
theorem dX7_passHours_38 : decode cX7_passHours 38 = .ok (.if_icmp .ge 111, 3) := by decide +kernel
theorem dX7_passHours_41 : decode cX7_passHours 41 = .ok (.iload 5, 2) := by decide +kernel
theorem dX7_passHours_43 : decode cX7_passHours 43 = .ok (.bipush 6, 2) := by decide +kernel
theorem dX7_passHours_45 : decode cX7_passHours 45 = .ok (.if_icmp .ge 104, 3) := by decide +kernel
theorem dX7_passHours_48 : decode cX7_passHours 48 = .ok (.aload_n 0, 1) := by decide +kernel
theorem dX7_passHours_49 : decode cX7_passHours 49 = .ok (.getfield 12, 3) := by decide +kernel
theorem dX7_passHours_52 : decode cX7_passHours 52 = .ok (.getfield 66, 3) := by decide +kernel
theorem dX7_passHours_55 : decode cX7_passHours 55 = .ok (.iload 5, 2) := by decide +kernel
theorem dX7_passHours_57 : decode cX7_passHours 57 = .ok (.aaload, 1) := by decide +kernel
theorem dX7_passHours_58 : decode cX7_passHours 58 = .ok (.astore 6, 2) := by decide +kernel
theorem dX7_passHours_60 : decode cX7_passHours 60 = .ok (.aload_n 0, 1) := by decide +kernel
theorem dX7_passHours_61 : decode cX7_passHours 61 = .ok (.getfield 23, 3) := by decide +kernel
theorem dX7_passHours_64 : decode cX7_passHours 64 = .ok (.iload 4, 2) := by decide +kernel
theorem dX7_passHours_66 : decode cX7_passHours 66 = .ok (.iload 5, 2) := by decide +kernel
theorem dX7_passHours_68 : decode cX7_passHours 68 = .ok (.invokevirtual 120, 3) := by decide +kernel
theorem dX7_passHours_71 : decode cX7_passHours 71 = .ok (.istore 7, 2) := by decide +kernel
theorem dX7_passHours_73 : decode cX7_passHours 73 = .ok (.aload 6, 2) := by decide +kernel
theorem dX7_passHours_75 : decode cX7_passHours 75 = .ok (.dup, 1) := by decide +kernel
theorem dX7_passHours_76 : decode cX7_passHours 76 = .ok (.getfield 123, 3) := by decide +kernel
theorem dX7_passHours_79 : decode cX7_passHours 79 = .ok (.iload 7, 2) := by decide +kernel
theorem dX7_passHours_81 : decode cX7_passHours 81 = .ok (.iadd, 1) := by decide +kernel
theorem dX7_passHours_82 : decode cX7_passHours 82 = .ok (.putfield 123, 3) := by decide +kernel
theorem dX7_passHours_85 : decode cX7_passHours 85 = .ok (.iload_n 2, 1) := by decide +kernel
theorem dX7_passHours_86 : decode cX7_passHours 86 = .ok (.iload 7, 2) := by decide +kernel
theorem dX7_passHours_88 : decode cX7_passHours 88 = .ok (.iadd, 1) := by decide +kernel
theorem dX7_passHours_89 : decode cX7_passHours 89 = .ok (.istore_n 2, 1) := by decide +kernel
theorem dX7_passHours_90 : decode cX7_passHours 90 = .ok (.aload 6, 2) := by decide +kernel
theorem dX7_passHours_92 : decode cX7_passHours 92 = .ok (.aload 6, 2) := by decide +kernel
theorem dX7_passHours_94 : decode cX7_passHours 94 = .ok (.aload 6, 2) := by decide +kernel
theorem dX7_passHours_96 : decode cX7_passHours 96 = .ok (.getfield 79, 3) := by decide +kernel
theorem dX7_passHours_99 : decode cX7_passHours 99 = .ok (.aload_n 0, 1) := by decide +kernel
theorem dX7_passHours_100 : decode cX7_passHours 100 = .ok (.getfield 27, 3) := by decide +kernel
theorem dX7_passHours_103 : decode cX7_passHours 103 = .ok (.iload 5, 2) := by decide +kernel
theorem dX7_passHours_105 : decode cX7_passHours 105 = .ok (.iaload, 1) := by decide +kernel
theorem dX7_passHours_106 : decode cX7_passHours 106 = .ok (.bipush 6, 2) := by decide +kernel
theorem dX7_passHours_108 : decode cX7_passHours 108 = .ok (.if_icmp .eq 7, 3) := by decide +kernel
theorem dX7_passHours_111 : decode cX7_passHours 111 = .ok (.iconst 1, 1) := by decide +kernel
theorem dX7_passHours_112 : decode cX7_passHours 112 = .ok (.goto 4, 3) := by decide +kernel
theorem dX7_passHours_115 : decode cX7_passHours 115 = .ok (.iconst 0, 1) := by decide +kernel
theorem dX7_passHours_116 : decode cX7_passHours 116 = .ok (.aload_n 0, 1) := by decide +kernel
theorem dX7_passHours_117 : decode cX7_passHours 117 = .ok (.getfield 12, 3) := by decide +kernel
theorem dX7_passHours_120 : decode cX7_passHours 120 = .ok (.aload_n 0, 1) := by decide +kernel
theorem dX7_passHours_121 : decode cX7_passHours 121 = .ok (.getfield 27, 3) := by decide +kernel
theorem dX7_passHours_124 : decode cX7_passHours 124 = .ok (.iload 5, 2) := by decide +kernel
theorem dX7_passHours_126 : decode cX7_passHours 126 = .ok (.iaload, 1) := by decide +kernel
theorem dX7_passHours_127 : decode cX7_passHours 127 = .ok (.invokevirtual 82, 3) := by decide +kernel
theorem dX7_passHours_130 : decode cX7_passHours 130 = .ok (.aload_n 0, 1) := by decide +kernel
theorem dX7_passHours_131 : decode cX7_passHours 131 = .ok (.getfield 12, 3) := by decide +kernel
theorem dX7_passHours_134 : decode cX7_passHours 134 = .ok (.getfield 124, 3) := by decide +kernel
theorem dX7_passHours_137 : decode cX7_passHours 137 = .ok (.invokevirtual 127, 3) := by decide +kernel
theorem dX7_passHours_140 : decode cX7_passHours 140 = .ok (.putfield 79, 3) := by decide +kernel
theorem dX7_passHours_143 : decode cX7_passHours 143 = .ok (.iinc 5 1, 3) := by decide +kernel
theorem dX7_passHours_146 : decode cX7_passHours 146 = .ok (.goto (-117), 3) := by decide +kernel
theorem dX7_passHours_149 : decode cX7_passHours 149 = .ok (.aload_n 0, 1) := by decide +kernel
theorem dX7_passHours_150 : decode cX7_passHours 150 = .ok (.dup, 1) := by decide +kernel
theorem dX7_passHours_151 : decode cX7_passHours 151 = .ok (.getfield 47, 3) := by decide +kernel
theorem dX7_passHours_154 : decode cX7_passHours 154 = .ok (.aload_n 0, 1) := by decide +kernel
theorem dX7_passHours_155 : decode cX7_passHours 155 = .ok (.getfield 35, 3) := by decide +kernel
theorem dX7_passHours_158 : decode cX7_passHours 158 = .ok (.invokestatic 131, 3) := by decide +kernel
theorem dX7_passHours_161 : decode cX7_passHours 161 = .ok (.iadd, 1) := by decide +kernel
theorem dX7_passHours_162 : decode cX7_passHours 162 = .ok (.putfield 47, 3) := by decide +kernel
theorem dX7_passHours_165 : decode cX7_passHours 165 = .ok (.aload_n 0, 1) := by decide +kernel
theorem dX7_passHours_166 : decode cX7_passHours 166 = .ok (.getfield 12, 3) := by decide +kernel
theorem dX7_passHours_169 : decode cX7_passHours 169 = .ok (.dup, 1) := by decide +kernel
theorem dX7_passHours_170 : decode cX7_passHours 170 = .ok (.getfield 70, 3) := by decide +kernel
theorem dX7_passHours_173 : decode cX7_passHours 173 = .ok (.iconst 1, 1) := by decide +kernel
theorem dX7_passHours_174 : decode cX7_passHours 174 = .ok (.iadd, 1) := by decide +kernel
theorem dX7_passHours_175 : decode cX7_passHours 175 = .ok (.putfield 70, 3) := by decide +kernel
theorem dX7_passHours_178 : decode cX7_passHours 178 = .ok (.iinc 3 1, 3) := by decide +kernel
theorem dX7_passHours_181 : decode cX7_passHours 181 = .ok (.goto (-177), 3) := by decide +kernel
theorem dX7_passHours_184 : decode cX7_passHours 184 = .ok (.iload_n 2, 1) := by decide +kernel
theorem dX7_passHours_185 : decode cX7_passHours 185 = .ok (.ireturn, 1) := by decide +kernel
theorem dX7_beginEvenings_0 : decode cX7_beginEvenings 0 = .ok (.aload_n 0, 1) := by decide +kernel
theorem dX7_beginEvenings_1 : decode cX7_beginEvenings 1 = .ok (.iload_n 1, 1) := by decide +kernel
theorem dX7_beginEvenings_2 : decode cX7_beginEvenings 2 = .ok (.putfield 57, 3) := by decide +kernel
theorem dX7_beginEvenings_5 : decode cX7_beginEvenings 5 = .ok (.aload_n 0, 1) := by decide +kernel
theorem dX7_beginEvenings_6 : decode cX7_beginEvenings 6 = .ok (.iconst 0, 1) := by decide +kernel
theorem dX7_beginEvenings_7 : decode cX7_beginEvenings 7 = .ok (.putfield 31, 3) := by decide +kernel
theorem dX7_beginEvenings_10 : decode cX7_beginEvenings 10 = .ok (.aload_n 0, 1) := by decide +kernel
theorem dX7_beginEvenings_11 : decode cX7_beginEvenings 11 = .ok (.iconst 0, 1) := by decide +kernel
theorem dX7_beginEvenings_12 : decode cX7_beginEvenings 12 = .ok (.putfield 38, 3) := by decide +kernel
theorem dX7_beginEvenings_15 : decode cX7_beginEvenings 15 = .ok (.aload_n 0, 1) := by decide +kernel
theorem dX7_beginEvenings_16 : decode cX7_beginEvenings 16 = .ok (.iconst 0, 1) := by decide +kernel
theorem dX7_beginEvenings_17 : decode cX7_beginEvenings 17 = .ok (.putfield 41, 3) := by decide +kernel
theorem dX7_beginEvenings_20 : decode cX7_beginEvenings 20 = .ok (.aload_n 0, 1) := by decide +kernel
theorem dX7_beginEvenings_21 : decode cX7_beginEvenings 21 = .ok (.iconst 0, 1) := by decide +kernel
theorem dX7_beginEvenings_22 : decode cX7_beginEvenings 22 = .ok (.putfield 44, 3) := by decide +kernel
theorem dX7_beginEvenings_25 : decode cX7_beginEvenings 25 = .ok (.aload_n 0, 1) := by decide +kernel
theorem dX7_beginEvenings_26 : decode cX7_beginEvenings 26 = .ok (.iconst 0, 1) := by decide +kernel
theorem dX7_beginEvenings_27 : decode cX7_beginEvenings 27 = .ok (.putfield 47, 3) := by decide +kernel
theorem dX7_beginEvenings_30 : decode cX7_beginEvenings 30 = .ok (.aload_n 0, 1) := by decide +kernel
theorem dX7_beginEvenings_31 : decode cX7_beginEvenings 31 = .ok (.iconst 0, 1) := by decide +kernel
theorem dX7_beginEvenings_32 : decode cX7_beginEvenings 32 = .ok (.putfield 50, 3) := by decide +kernel
theorem dX7_beginEvenings_35 : decode cX7_beginEvenings 35 = .ok (.aload_n 0, 1) := by decide +kernel
theorem dX7_beginEvenings_36 : decode cX7_beginEvenings 36 = .ok (.iconst 0, 1) := by decide +kernel
theorem dX7_beginEvenings_37 : decode cX7_beginEvenings 37 = .ok (.putfield 54, 3) := by decide +kernel
theorem dX7_beginEvenings_40 : decode cX7_beginEvenings 40 = .ok (.return_, 1) := by decide +kernel
theorem dX7_copyTallies_0 : decode cX7_copyTallies 0 = .ok (.aload_n 1, 1) := by decide +kernel
theorem dX7_copyTallies_1 : decode cX7_copyTallies 1 = .ok (.arraylength, 1) := by decide +kernel
theorem dX7_copyTallies_2 : decode cX7_copyTallies 2 = .ok (.iconst 5, 1) := by decide +kernel
theorem dX7_copyTallies_3 : decode cX7_copyTallies 3 = .ok (.if_icmp .lt 46, 3) := by decide +kernel
theorem dX7_copyTallies_6 : decode cX7_copyTallies 6 = .ok (.aload_n 1, 1) := by decide +kernel
theorem dX7_copyTallies_7 : decode cX7_copyTallies 7 = .ok (.iconst 0, 1) := by decide +kernel
theorem dX7_copyTallies_8 : decode cX7_copyTallies 8 = .ok (.aload_n 0, 1) := by decide +kernel
theorem dX7_copyTallies_9 : decode cX7_copyTallies 9 = .ok (.getfield 38, 3) := by decide +kernel
theorem dX7_copyTallies_12 : decode cX7_copyTallies 12 = .ok (.iastore, 1) := by decide +kernel
theorem dX7_copyTallies_13 : decode cX7_copyTallies 13 = .ok (.aload_n 1, 1) := by decide +kernel
theorem dX7_copyTallies_14 : decode cX7_copyTallies 14 = .ok (.iconst 1, 1) := by decide +kernel
theorem dX7_copyTallies_15 : decode cX7_copyTallies 15 = .ok (.aload_n 0, 1) := by decide +kernel
theorem dX7_copyTallies_16 : decode cX7_copyTallies 16 = .ok (.getfield 41, 3) := by decide +kernel
theorem dX7_copyTallies_19 : decode cX7_copyTallies 19 = .ok (.iastore, 1) := by decide +kernel
theorem dX7_copyTallies_20 : decode cX7_copyTallies 20 = .ok (.aload_n 1, 1) := by decide +kernel
theorem dX7_copyTallies_21 : decode cX7_copyTallies 21 = .ok (.iconst 2, 1) := by decide +kernel
theorem dX7_copyTallies_22 : decode cX7_copyTallies 22 = .ok (.aload_n 0, 1) := by decide +kernel
theorem dX7_copyTallies_23 : decode cX7_copyTallies 23 = .ok (.getfield 44, 3) := by decide +kernel
theorem dX7_copyTallies_26 : decode cX7_copyTallies 26 = .ok (.iastore, 1) := by decide +kernel
theorem dX7_copyTallies_27 : decode cX7_copyTallies 27 = .ok (.aload_n 1, 1) := by decide +kernel
theorem dX7_copyTallies_28 : decode cX7_copyTallies 28 = .ok (.iconst 3, 1) := by decide +kernel
theorem dX7_copyTallies_29 : decode cX7_copyTallies 29 = .ok (.aload_n 0, 1) := by decide +kernel
theorem dX7_copyTallies_30 : decode cX7_copyTallies 30 = .ok (.getfield 47, 3) := by decide +kernel
theorem dX7_copyTallies_33 : decode cX7_copyTallies 33 = .ok (.iastore, 1) := by decide +kernel
theorem dX7_copyTallies_34 : decode cX7_copyTallies 34 = .ok (.aload_n 1, 1) := by decide +kernel
theorem dX7_copyTallies_35 : decode cX7_copyTallies 35 = .ok (.iconst 4, 1) := by decide +kernel
theorem dX7_copyTallies_36 : decode cX7_copyTallies 36 = .ok (.aload_n 0, 1) := by decide +kernel
theorem dX7_copyTallies_37 : decode cX7_copyTallies 37 = .ok (.getfield 50, 3) := by decide +kernel
theorem dX7_copyTallies_40 : decode cX7_copyTallies 40 = .ok (.ifCond .eq 7, 3) := by decide +kernel
theorem dX7_copyTallies_43 : decode cX7_copyTallies 43 = .ok (.iconst 1, 1) := by decide +kernel
theorem dX7_copyTallies_44 : decode cX7_copyTallies 44 = .ok (.goto 4, 3) := by decide +kernel
theorem dX7_copyTallies_47 : decode cX7_copyTallies 47 = .ok (.iconst 0, 1) := by decide +kernel
theorem dX7_copyTallies_48 : decode cX7_copyTallies 48 = .ok (.iastore, 1) := by decide +kernel
theorem dX7_copyTallies_49 : decode cX7_copyTallies 49 = .ok (.return_, 1) := by decide +kernel
theorem dX7_doSteps_0 : decode cX7_doSteps 0 = .ok (.iload_n 3, 1) := by decide +kernel
theorem dX7_doSteps_1 : decode cX7_doSteps 1 = .ok (.iconst 3, 1) := by decide +kernel
theorem dX7_doSteps_2 : decode cX7_doSteps 2 = .ok (.if_icmp .gt 13, 3) := by decide +kernel
theorem dX7_doSteps_5 : decode cX7_doSteps 5 = .ok (.iload_n 1, 1) := by decide +kernel
theorem dX7_doSteps_6 : decode cX7_doSteps 6 = .ok (.ifCond .lt 9, 3) := by decide +kernel
theorem dX7_doSteps_9 : decode cX7_doSteps 9 = .ok (.iload_n 2, 1) := by decide +kernel
theorem dX7_doSteps_10 : decode cX7_doSteps 10 = .ok (.bipush 30, 2) := by decide +kernel
theorem dX7_doSteps_12 : decode cX7_doSteps 12 = .ok (.if_icmp .le 4, 3) := by decide +kernel
theorem dX7_doSteps_15 : decode cX7_doSteps 15 = .ok (.return_, 1) := by decide +kernel
theorem dX7_doSteps_16 : decode cX7_doSteps 16 = .ok (.aload_n 0, 1) := by decide +kernel
theorem dX7_doSteps_17 : decode cX7_doSteps 17 = .ok (.getfield 12, 3) := by decide +kernel
theorem dX7_doSteps_20 : decode cX7_doSteps 20 = .ok (.getfield 136, 3) := by decide +kernel
theorem dX7_doSteps_23 : decode cX7_doSteps 23 = .ok (.astore 4, 2) := by decide +kernel
theorem dX7_doSteps_25 : decode cX7_doSteps 25 = .ok (.iload_n 1, 1) := by decide +kernel
theorem dX7_doSteps_26 : decode cX7_doSteps 26 = .ok (.istore 5, 2) := by decide +kernel
theorem dX7_doSteps_28 : decode cX7_doSteps 28 = .ok (.iload 5, 2) := by decide +kernel
theorem dX7_doSteps_30 : decode cX7_doSteps 30 = .ok (.iload_n 2, 1) := by decide +kernel
theorem dX7_doSteps_31 : decode cX7_doSteps 31 = .ok (.if_icmp .ge 189, 3) := by decide +kernel
theorem dX7_doSteps_34 : decode cX7_doSteps 34 = .ok (.aload_n 0, 1) := by decide +kernel
theorem dX7_doSteps_35 : decode cX7_doSteps 35 = .ok (.getfield 54, 3) := by decide +kernel
theorem dX7_doSteps_38 : decode cX7_doSteps 38 = .ok (.ifCond .ne 182, 3) := by decide +kernel
theorem dX7_doSteps_41 : decode cX7_doSteps 41 = .ok (.aload_n 0, 1) := by decide +kernel
theorem dX7_doSteps_42 : decode cX7_doSteps 42 = .ok (.getfield 31, 3) := by decide +kernel
theorem dX7_doSteps_45 : decode cX7_doSteps 45 = .ok (.sipush 300, 3) := by decide +kernel
theorem dX7_doSteps_48 : decode cX7_doSteps 48 = .ok (.if_icmp .lt 14, 3) := by decide +kernel
theorem dX7_doSteps_51 : decode cX7_doSteps 51 = .ok (.aload_n 0, 1) := by decide +kernel
theorem dX7_doSteps_52 : decode cX7_doSteps 52 = .ok (.iconst 1, 1) := by decide +kernel
theorem dX7_doSteps_53 : decode cX7_doSteps 53 = .ok (.putfield 50, 3) := by decide +kernel
theorem dX7_doSteps_56 : decode cX7_doSteps 56 = .ok (.aload_n 0, 1) := by decide +kernel
theorem dX7_doSteps_57 : decode cX7_doSteps 57 = .ok (.iconst 1, 1) := by decide +kernel
theorem dX7_doSteps_58 : decode cX7_doSteps 58 = .ok (.putfield 54, 3) := by decide +kernel
theorem dX7_doSteps_61 : decode cX7_doSteps 61 = .ok (.return_, 1) := by decide +kernel
theorem dX7_doSteps_62 : decode cX7_doSteps 62 = .ok (.aload_n 0, 1) := by decide +kernel
theorem dX7_doSteps_63 : decode cX7_doSteps 63 = .ok (.dup, 1) := by decide +kernel
theorem dX7_doSteps_64 : decode cX7_doSteps 64 = .ok (.getfield 31, 3) := by decide +kernel
theorem dX7_doSteps_67 : decode cX7_doSteps 67 = .ok (.iconst 1, 1) := by decide +kernel
theorem dX7_doSteps_68 : decode cX7_doSteps 68 = .ok (.iadd, 1) := by decide +kernel
theorem dX7_doSteps_69 : decode cX7_doSteps 69 = .ok (.putfield 31, 3) := by decide +kernel
theorem dX7_doSteps_72 : decode cX7_doSteps 72 = .ok (.aload 4, 2) := by decide +kernel
theorem dX7_doSteps_74 : decode cX7_doSteps 74 = .ok (.getfield 140, 3) := by decide +kernel
theorem dX7_doSteps_77 : decode cX7_doSteps 77 = .ok (.iload 5, 2) := by decide +kernel
theorem dX7_doSteps_79 : decode cX7_doSteps 79 = .ok (.iaload, 1) := by decide +kernel
theorem dX7_doSteps_80 : decode cX7_doSteps 80 = .ok (.istore 6, 2) := by decide +kernel
theorem dX7_doSteps_82 : decode cX7_doSteps 82 = .ok (.aload 4, 2) := by decide +kernel
theorem dX7_doSteps_84 : decode cX7_doSteps 84 = .ok (.getfield 145, 3) := by decide +kernel
theorem dX7_doSteps_87 : decode cX7_doSteps 87 = .ok (.iload 5, 2) := by decide +kernel
theorem dX7_doSteps_89 : decode cX7_doSteps 89 = .ok (.iaload, 1) := by decide +kernel
theorem dX7_doSteps_90 : decode cX7_doSteps 90 = .ok (.iload 5, 2) := by decide +kernel
theorem dX7_doSteps_92 : decode cX7_doSteps 92 = .ok (.iconst 1, 1) := by decide +kernel
theorem dX7_doSteps_93 : decode cX7_doSteps 93 = .ok (.iadd, 1) := by decide +kernel
theorem dX7_doSteps_94 : decode cX7_doSteps 94 = .ok (.invokestatic 148, 3) := by decide +kernel
theorem dX7_doSteps_97 : decode cX7_doSteps 97 = .ok (.istore 7, 2) := by decide +kernel
theorem dX7_doSteps_99 : decode cX7_doSteps 99 = .ok (.iload 6, 2) := by decide +kernel
theorem dX7_doSteps_101 : decode cX7_doSteps 101 = .ok (.bipush 27, 2) := by decide +kernel
theorem dX7_doSteps_103 : decode cX7_doSteps 103 = .ok (.if_icmp .ne 14, 3) := by decide +kernel
theorem dX7_doSteps_106 : decode cX7_doSteps 106 = .ok (.aload 4, 2) := by decide +kernel
theorem dX7_doSteps_108 : decode cX7_doSteps 108 = .ok (.getfield 153, 3) := by decide +kernel
theorem dX7_doSteps_111 : decode cX7_doSteps 111 = .ok (.iload 5, 2) := by decide +kernel
theorem dX7_doSteps_113 : decode cX7_doSteps 113 = .ok (.iaload, 1) := by decide +kernel
theorem dX7_doSteps_114 : decode cX7_doSteps 114 = .ok (.goto 4, 3) := by decide +kernel
theorem dX7_doSteps_117 : decode cX7_doSteps 117 = .ok (.iconst 0, 1) := by decide +kernel
theorem dX7_doSteps_118 : decode cX7_doSteps 118 = .ok (.istore 8, 2) := by decide +kernel
theorem dX7_doSteps_120 : decode cX7_doSteps 120 = .ok (.iload 6, 2) := by decide +kernel
theorem dX7_doSteps_122 : decode cX7_doSteps 122 = .ok (.bipush 23, 2) := by decide +kernel
theorem dX7_doSteps_124 : decode cX7_doSteps 124 = .ok (.if_icmp .ne 22, 3) := by decide +kernel
theorem dX7_doSteps_127 : decode cX7_doSteps 127 = .ok (.aload_n 0, 1) := by decide +kernel
theorem dX7_doSteps_128 : decode cX7_doSteps 128 = .ok (.iload 5, 2) := by decide +kernel
theorem dX7_doSteps_130 : decode cX7_doSteps 130 = .ok (.invokevirtual 156, 3) := by decide +kernel
theorem dX7_doSteps_133 : decode cX7_doSteps 133 = .ok (.ifCond .eq 7, 3) := by decide +kernel
theorem dX7_doSteps_136 : decode cX7_doSteps 136 = .ok (.iconst 1, 1) := by decide +kernel
theorem dX7_doSteps_137 : decode cX7_doSteps 137 = .ok (.goto 4, 3) := by decide +kernel
theorem dX7_doSteps_140 : decode cX7_doSteps 140 = .ok (.iconst 0, 1) := by decide +kernel
theorem dX7_doSteps_141 : decode cX7_doSteps 141 = .ok (.istore 8, 2) := by decide +kernel
theorem dX7_doSteps_143 : decode cX7_doSteps 143 = .ok (.goto 29, 3) := by decide +kernel
theorem dX7_doSteps_146 : decode cX7_doSteps 146 = .ok (.iload 6, 2) := by decide +kernel
theorem dX7_doSteps_148 : decode cX7_doSteps 148 = .ok (.bipush 27, 2) := by decide +kernel
theorem dX7_doSteps_150 : decode cX7_doSteps 150 = .ok (.if_icmp .eq 22, 3) := by decide +kernel
theorem dX7_doSteps_153 : decode cX7_doSteps 153 = .ok (.aload_n 0, 1) := by decide +kernel
theorem dX7_doSteps_154 : decode cX7_doSteps 154 = .ok (.iload 5, 2) := by decide +kernel
theorem dX7_doSteps_156 : decode cX7_doSteps 156 = .ok (.invokevirtual 159, 3) := by decide +kernel
theorem dX7_doSteps_159 : decode cX7_doSteps 159 = .ok (.ifCond .ne 13, 3) := by decide +kernel
theorem dX7_doSteps_162 : decode cX7_doSteps 162 = .ok (.aload_n 0, 1) := by decide +kernel
theorem dX7_doSteps_163 : decode cX7_doSteps 163 = .ok (.dup, 1) := by decide +kernel
theorem dX7_doSteps_164 : decode cX7_doSteps 164 = .ok (.getfield 38, 3) := by decide +kernel
theorem dX7_doSteps_167 : decode cX7_doSteps 167 = .ok (.iconst 1, 1) := by decide +kernel
theorem dX7_doSteps_168 : decode cX7_doSteps 168 = .ok (.iadd, 1) := by decide +kernel
theorem dX7_doSteps_169 : decode cX7_doSteps 169 = .ok (.putfield 38, 3) := by decide +kernel
theorem dX7_doSteps_172 : decode cX7_doSteps 172 = .ok (.iconst 0, 1) := by decide +kernel
theorem dX7_doSteps_173 : decode cX7_doSteps 173 = .ok (.istore 9, 2) := by decide +kernel
theorem dX7_doSteps_175 : decode cX7_doSteps 175 = .ok (.iload 9, 2) := by decide +kernel
theorem dX7_doSteps_177 : decode cX7_doSteps 177 = .ok (.iload 8, 2) := by decide +kernel
theorem dX7_doSteps_179 : decode cX7_doSteps 179 = .ok (.if_icmp .ge 29, 3) := by decide +kernel
theorem dX7_doSteps_182 : decode cX7_doSteps 182 = .ok (.aload_n 0, 1) := by decide +kernel
theorem dX7_doSteps_183 : decode cX7_doSteps 183 = .ok (.getfield 54, 3) := by decide +kernel
theorem dX7_doSteps_186 : decode cX7_doSteps 186 = .ok (.ifCond .ne 22, 3) := by decide +kernel
theorem dX7_doSteps_189 : decode cX7_doSteps 189 = .ok (.aload_n 0, 1) := by decide +kernel
theorem dX7_doSteps_190 : decode cX7_doSteps 190 = .ok (.iload 5, 2) := by decide +kernel
theorem dX7_doSteps_192 : decode cX7_doSteps 192 = .ok (.iconst 1, 1) := by decide +kernel
theorem dX7_doSteps_193 : decode cX7_doSteps 193 = .ok (.iadd, 1) := by decide +kernel
theorem dX7_doSteps_194 : decode cX7_doSteps 194 = .ok (.iload 7, 2) := by decide +kernel
theorem dX7_doSteps_196 : decode cX7_doSteps 196 = .ok (.iload_n 3, 1) := by decide +kernel
theorem dX7_doSteps_197 : decode cX7_doSteps 197 = .ok (.iconst 1, 1) := by decide +kernel
theorem dX7_doSteps_198 : decode cX7_doSteps 198 = .ok (.iadd, 1) := by decide +kernel
theorem dX7_doSteps_199 : decode cX7_doSteps 199 = .ok (.invokestatic 162, 3) := by decide +kernel
theorem dX7_doSteps_202 : decode cX7_doSteps 202 = .ok (.iinc 9 1, 3) := by decide +kernel
theorem dX7_doSteps_205 : decode cX7_doSteps 205 = .ok (.goto (-30), 3) := by decide +kernel
theorem dX7_doSteps_208 : decode cX7_doSteps 208 = .ok (.iload 7, 2) := by decide +kernel
theorem dX7_doSteps_210 : decode cX7_doSteps 210 = .ok (.iconst 1, 1) := by decide +kernel
theorem dX7_doSteps_211 : decode cX7_doSteps 211 = .ok (.isub, 1) := by decide +kernel
theorem dX7_doSteps_212 : decode cX7_doSteps 212 = .ok (.istore 5, 2) := by decide +kernel
theorem dX7_doSteps_214 : decode cX7_doSteps 214 = .ok (.iinc 5 1, 3) := by decide +kernel
theorem dX7_doSteps_217 : decode cX7_doSteps 217 = .ok (.goto (-189), 3) := by decide +kernel
theorem dX7_doSteps_220 : decode cX7_doSteps 220 = .ok (.return_, 1) := by decide +kernel
theorem dX7_isSo_0 : decode cX7_isSo 0 = .ok (.aload_n 0, 1) := by decide +kernel
theorem dX7_isSo_1 : decode cX7_isSo 1 = .ok (.getfield 12, 3) := by decide +kernel
theorem dX7_isSo_4 : decode cX7_isSo 4 = .ok (.getfield 136, 3) := by decide +kernel
theorem dX7_isSo_7 : decode cX7_isSo 7 = .ok (.getfield 166, 3) := by decide +kernel
theorem dX7_isSo_10 : decode cX7_isSo 10 = .ok (.iload_n 1, 1) := by decide +kernel
theorem dX7_isSo_11 : decode cX7_isSo 11 = .ok (.iaload, 1) := by decide +kernel
theorem dX7_isSo_12 : decode cX7_isSo 12 = .ok (.istore_n 2, 1) := by decide +kernel
theorem dX7_isSo_13 : decode cX7_isSo 13 = .ok (.aload_n 0, 1) := by decide +kernel
theorem dX7_isSo_14 : decode cX7_isSo 14 = .ok (.getfield 12, 3) := by decide +kernel
theorem dX7_isSo_17 : decode cX7_isSo 17 = .ok (.getfield 136, 3) := by decide +kernel
theorem dX7_isSo_20 : decode cX7_isSo 20 = .ok (.getfield 169, 3) := by decide +kernel
theorem dX7_isSo_23 : decode cX7_isSo 23 = .ok (.iload_n 1, 1) := by decide +kernel
theorem dX7_isSo_24 : decode cX7_isSo 24 = .ok (.iaload, 1) := by decide +kernel
theorem dX7_isSo_25 : decode cX7_isSo 25 = .ok (.lookupswitch 56 #[(24, 27), (25, 38)], 27) := by decide +kernel
theorem dX7_isSo_52 : decode cX7_isSo 52 = .ok (.aload_n 0, 1) := by decide +kernel
theorem dX7_isSo_53 : decode cX7_isSo 53 = .ok (.aload_n 0, 1) := by decide +kernel
theorem dX7_isSo_54 : decode cX7_isSo 54 = .ok (.iload_n 2, 1) := by decide +kernel
theorem dX7_isSo_55 : decode cX7_isSo 55 = .ok (.invokevirtual 172, 3) := by decide +kernel
theorem dX7_isSo_58 : decode cX7_isSo 58 = .ok (.iload_n 1, 1) := by decide +kernel
theorem dX7_isSo_59 : decode cX7_isSo 59 = .ok (.invokevirtual 175, 3) := by decide +kernel
theorem dX7_isSo_62 : decode cX7_isSo 62 = .ok (.ireturn, 1) := by decide +kernel
theorem dX7_isSo_63 : decode cX7_isSo 63 = .ok (.aload_n 0, 1) := by decide +kernel
theorem dX7_isSo_64 : decode cX7_isSo 64 = .ok (.invokevirtual 179, 3) := by decide +kernel
theorem dX7_isSo_67 : decode cX7_isSo 67 = .ok (.iload_n 2, 1) := by decide +kernel
theorem dX7_isSo_68 : decode cX7_isSo 68 = .ok (.ishr, 1) := by decide +kernel
theorem dX7_isSo_69 : decode cX7_isSo 69 = .ok (.iconst 1, 1) := by decide +kernel
theorem dX7_isSo_70 : decode cX7_isSo 70 = .ok (.iand, 1) := by decide +kernel
theorem dX7_isSo_71 : decode cX7_isSo 71 = .ok (.iconst 1, 1) := by decide +kernel
theorem dX7_isSo_72 : decode cX7_isSo 72 = .ok (.if_icmp .ne 7, 3) := by decide +kernel
theorem dX7_isSo_75 : decode cX7_isSo 75 = .ok (.iconst 1, 1) := by decide +kernel
theorem dX7_isSo_76 : decode cX7_isSo 76 = .ok (.goto 4, 3) := by decide +kernel
theorem dX7_isSo_79 : decode cX7_isSo 79 = .ok (.iconst 0, 1) := by decide +kernel
theorem dX7_isSo_80 : decode cX7_isSo 80 = .ok (.ireturn, 1) := by decide +kernel
theorem dX7_isSo_81 : decode cX7_isSo 81 = .ok (.aload_n 0, 1) := by decide +kernel
theorem dX7_isSo_82 : decode cX7_isSo 82 = .ok (.getfield 12, 3) := by decide +kernel
theorem dX7_isSo_85 : decode cX7_isSo 85 = .ok (.getfield 182, 3) := by decide +kernel
theorem dX7_isSo_88 : decode cX7_isSo 88 = .ok (.ireturn, 1) := by decide +kernel
theorem dX7_compares_0 : decode cX7_compares 0 = .ok (.aload_n 0, 1) := by decide +kernel
theorem dX7_compares_1 : decode cX7_compares 1 = .ok (.getfield 12, 3) := by decide +kernel
theorem dX7_compares_4 : decode cX7_compares 4 = .ok (.getfield 136, 3) := by decide +kernel
theorem dX7_compares_7 : decode cX7_compares 7 = .ok (.getfield 153, 3) := by decide +kernel
theorem dX7_compares_10 : decode cX7_compares 10 = .ok (.iload_n 2, 1) := by decide +kernel
theorem dX7_compares_11 : decode cX7_compares 11 = .ok (.iaload, 1) := by decide +kernel
theorem dX7_compares_12 : decode cX7_compares 12 = .ok (.istore_n 3, 1) := by decide +kernel
theorem dX7_compares_13 : decode cX7_compares 13 = .ok (.aload_n 0, 1) := by decide +kernel
theorem dX7_compares_14 : decode cX7_compares 14 = .ok (.getfield 12, 3) := by decide +kernel
theorem dX7_compares_17 : decode cX7_compares 17 = .ok (.getfield 136, 3) := by decide +kernel
theorem dX7_compares_20 : decode cX7_compares 20 = .ok (.getfield 185, 3) := by decide +kernel
theorem dX7_compares_23 : decode cX7_compares 23 = .ok (.iload_n 2, 1) := by decide +kernel
theorem dX7_compares_24 : decode cX7_compares 24 = .ok (.iaload, 1) := by decide +kernel
theorem dX7_compares_25 : decode cX7_compares 25 = .ok (.lookupswitch 49 #[(60, 27), (62, 38)], 27) := by decide +kernel
theorem dX7_compares_52 : decode cX7_compares 52 = .ok (.iload_n 1, 1) := by decide +kernel
theorem dX7_compares_53 : decode cX7_compares 53 = .ok (.iload_n 3, 1) := by decide +kernel
theorem dX7_compares_54 : decode cX7_compares 54 = .ok (.if_icmp .ge 7, 3) := by decide +kernel
theorem dX7_compares_57 : decode cX7_compares 57 = .ok (.iconst 1, 1) := by decide +kernel
theorem dX7_compares_58 : decode cX7_compares 58 = .ok (.goto 4, 3) := by decide +kernel
theorem dX7_compares_61 : decode cX7_compares 61 = .ok (.iconst 0, 1) := by decide +kernel
theorem dX7_compares_62 : decode cX7_compares 62 = .ok (.ireturn, 1) := by decide +kernel
theorem dX7_compares_63 : decode cX7_compares 63 = .ok (.iload_n 1, 1) := by decide +kernel
theorem dX7_compares_64 : decode cX7_compares 64 = .ok (.iload_n 3, 1) := by decide +kernel
theorem dX7_compares_65 : decode cX7_compares 65 = .ok (.if_icmp .le 7, 3) := by decide +kernel
theorem dX7_compares_68 : decode cX7_compares 68 = .ok (.iconst 1, 1) := by decide +kernel
theorem dX7_compares_69 : decode cX7_compares 69 = .ok (.goto 4, 3) := by decide +kernel
theorem dX7_compares_72 : decode cX7_compares 72 = .ok (.iconst 0, 1) := by decide +kernel
theorem dX7_compares_73 : decode cX7_compares 73 = .ok (.ireturn, 1) := by decide +kernel
theorem dX7_compares_74 : decode cX7_compares 74 = .ok (.iload_n 1, 1) := by decide +kernel
theorem dX7_compares_75 : decode cX7_compares 75 = .ok (.iload_n 3, 1) := by decide +kernel
theorem dX7_compares_76 : decode cX7_compares 76 = .ok (.if_icmp .ne 7, 3) := by decide +kernel
theorem dX7_compares_79 : decode cX7_compares 79 = .ok (.iconst 1, 1) := by decide +kernel
theorem dX7_compares_80 : decode cX7_compares 80 = .ok (.goto 4, 3) := by decide +kernel
theorem dX7_compares_83 : decode cX7_compares 83 = .ok (.iconst 0, 1) := by decide +kernel
theorem dX7_compares_84 : decode cX7_compares 84 = .ok (.ireturn, 1) := by decide +kernel
theorem dX7_doPlain_0 : decode cX7_doPlain 0 = .ok (.aload_n 0, 1) := by decide +kernel
theorem dX7_doPlain_1 : decode cX7_doPlain 1 = .ok (.getfield 12, 3) := by decide +kernel
theorem dX7_doPlain_4 : decode cX7_doPlain 4 = .ok (.getfield 136, 3) := by decide +kernel
theorem dX7_doPlain_7 : decode cX7_doPlain 7 = .ok (.getfield 153, 3) := by decide +kernel
theorem dX7_doPlain_10 : decode cX7_doPlain 10 = .ok (.iload_n 1, 1) := by decide +kernel
theorem dX7_doPlain_11 : decode cX7_doPlain 11 = .ok (.iaload, 1) := by decide +kernel
theorem dX7_doPlain_12 : decode cX7_doPlain 12 = .ok (.istore_n 2, 1) := by decide +kernel
theorem dX7_doPlain_13 : decode cX7_doPlain 13 = .ok (.aload_n 0, 1) := by decide +kernel
theorem dX7_doPlain_14 : decode cX7_doPlain 14 = .ok (.getfield 12, 3) := by decide +kernel
theorem dX7_doPlain_17 : decode cX7_doPlain 17 = .ok (.getfield 136, 3) := by decide +kernel
theorem dX7_doPlain_20 : decode cX7_doPlain 20 = .ok (.getfield 140, 3) := by decide +kernel
theorem dX7_doPlain_23 : decode cX7_doPlain 23 = .ok (.iload_n 1, 1) := by decide +kernel
theorem dX7_doPlain_24 : decode cX7_doPlain 24 = .ok (.iaload, 1) := by decide +kernel
theorem dX7_doPlain_25 : decode cX7_doPlain 25 = .ok (.tableswitch 172 16 22 #[43, 86, 95, 104, 113, 122, 128], 43) := by decide +kernel
theorem dX7_doPlain_68 : decode cX7_doPlain 68 = .ok (.aload_n 0, 1) := by decide +kernel
theorem dX7_doPlain_69 : decode cX7_doPlain 69 = .ok (.getfield 12, 3) := by decide +kernel
theorem dX7_doPlain_72 : decode cX7_doPlain 72 = .ok (.getfield 70, 3) := by decide +kernel
theorem dX7_doPlain_75 : decode cX7_doPlain 75 = .ok (.iload_n 2, 1) := by decide +kernel
theorem dX7_doPlain_76 : decode cX7_doPlain 76 = .ok (.iadd, 1) := by decide +kernel
theorem dX7_doPlain_77 : decode cX7_doPlain 77 = .ok (.sipush 9999, 3) := by decide +kernel
theorem dX7_doPlain_80 : decode cX7_doPlain 80 = .ok (.if_icmp .le 5, 3) := by decide +kernel
theorem dX7_doPlain_83 : decode cX7_doPlain 83 = .ok (.iconst 0, 1) := by decide +kernel
theorem dX7_doPlain_84 : decode cX7_doPlain 84 = .ok (.ireturn, 1) := by decide +kernel
theorem dX7_doPlain_85 : decode cX7_doPlain 85 = .ok (.aload_n 0, 1) := by decide +kernel
theorem dX7_doPlain_86 : decode cX7_doPlain 86 = .ok (.dup, 1) := by decide +kernel
theorem dX7_doPlain_87 : decode cX7_doPlain 87 = .ok (.getfield 44, 3) := by decide +kernel
theorem dX7_doPlain_90 : decode cX7_doPlain 90 = .ok (.aload_n 0, 1) := by decide +kernel
theorem dX7_doPlain_91 : decode cX7_doPlain 91 = .ok (.iload_n 2, 1) := by decide +kernel
theorem dX7_doPlain_92 : decode cX7_doPlain 92 = .ok (.invokevirtual 188, 3) := by decide +kernel
theorem dX7_doPlain_95 : decode cX7_doPlain 95 = .ok (.iadd, 1) := by decide +kernel
theorem dX7_doPlain_96 : decode cX7_doPlain 96 = .ok (.putfield 44, 3) := by decide +kernel
theorem dX7_doPlain_99 : decode cX7_doPlain 99 = .ok (.aload_n 0, 1) := by decide +kernel
theorem dX7_doPlain_100 : decode cX7_doPlain 100 = .ok (.dup, 1) := by decide +kernel
theorem dX7_doPlain_101 : decode cX7_doPlain 101 = .ok (.getfield 41, 3) := by decide +kernel
theorem dX7_doPlain_104 : decode cX7_doPlain 104 = .ok (.iload_n 2, 1) := by decide +kernel
theorem dX7_doPlain_105 : decode cX7_doPlain 105 = .ok (.iadd, 1) := by decide +kernel
theorem dX7_doPlain_106 : decode cX7_doPlain 106 = .ok (.putfield 41, 3) := by decide +kernel
theorem dX7_doPlain_109 : decode cX7_doPlain 109 = .ok (.iconst 1, 1) := by decide +kernel
theorem dX7_doPlain_110 : decode cX7_doPlain 110 = .ok (.ireturn, 1) := by decide +kernel
theorem dX7_doPlain_111 : decode cX7_doPlain 111 = .ok (.aload_n 0, 1) := by decide +kernel
theorem dX7_doPlain_112 : decode cX7_doPlain 112 = .ok (.getfield 12, 3) := by decide +kernel
theorem dX7_doPlain_115 : decode cX7_doPlain 115 = .ok (.iload_n 2, 1) := by decide +kernel
theorem dX7_doPlain_116 : decode cX7_doPlain 116 = .ok (.invokevirtual 191, 3) := by decide +kernel
theorem dX7_doPlain_119 : decode cX7_doPlain 119 = .ok (.ireturn, 1) := by decide +kernel
theorem dX7_doPlain_120 : decode cX7_doPlain 120 = .ok (.aload_n 0, 1) := by decide +kernel
theorem dX7_doPlain_121 : decode cX7_doPlain 121 = .ok (.getfield 12, 3) := by decide +kernel
theorem dX7_doPlain_124 : decode cX7_doPlain 124 = .ok (.iconst 4, 1) := by decide +kernel
theorem dX7_doPlain_125 : decode cX7_doPlain 125 = .ok (.invokevirtual 191, 3) := by decide +kernel
theorem dX7_doPlain_128 : decode cX7_doPlain 128 = .ok (.ireturn, 1) := by decide +kernel
theorem dX7_doPlain_129 : decode cX7_doPlain 129 = .ok (.aload_n 0, 1) := by decide +kernel
theorem dX7_doPlain_130 : decode cX7_doPlain 130 = .ok (.getfield 12, 3) := by decide +kernel
theorem dX7_doPlain_133 : decode cX7_doPlain 133 = .ok (.iconst 1, 1) := by decide +kernel
theorem dX7_doPlain_134 : decode cX7_doPlain 134 = .ok (.invokevirtual 194, 3) := by decide +kernel
theorem dX7_doPlain_137 : decode cX7_doPlain 137 = .ok (.ireturn, 1) := by decide +kernel
theorem dX7_doPlain_138 : decode cX7_doPlain 138 = .ok (.aload_n 0, 1) := by decide +kernel
theorem dX7_doPlain_139 : decode cX7_doPlain 139 = .ok (.getfield 12, 3) := by decide +kernel
theorem dX7_doPlain_142 : decode cX7_doPlain 142 = .ok (.iconst 0, 1) := by decide +kernel
theorem dX7_doPlain_143 : decode cX7_doPlain 143 = .ok (.invokevirtual 194, 3) := by decide +kernel
theorem dX7_doPlain_146 : decode cX7_doPlain 146 = .ok (.ireturn, 1) := by decide +kernel
theorem dX7_doPlain_147 : decode cX7_doPlain 147 = .ok (.aload_n 0, 1) := by decide +kernel
theorem dX7_doPlain_148 : decode cX7_doPlain 148 = .ok (.iload_n 1, 1) := by decide +kernel
theorem dX7_doPlain_149 : decode cX7_doPlain 149 = .ok (.invokevirtual 198, 3) := by decide +kernel
theorem dX7_doPlain_152 : decode cX7_doPlain 152 = .ok (.ireturn, 1) := by decide +kernel
theorem dX7_doPlain_153 : decode cX7_doPlain 153 = .ok (.aload_n 0, 1) := by decide +kernel
theorem dX7_doPlain_154 : decode cX7_doPlain 154 = .ok (.getfield 12, 3) := by decide +kernel
theorem dX7_doPlain_157 : decode cX7_doPlain 157 = .ok (.aload_n 0, 1) := by decide +kernel
theorem dX7_doPlain_158 : decode cX7_doPlain 158 = .ok (.bipush 16, 2) := by decide +kernel
theorem dX7_doPlain_160 : decode cX7_doPlain 160 = .ok (.invokevirtual 201, 3) := by decide +kernel
theorem dX7_doPlain_163 : decode cX7_doPlain 163 = .ok (.aload_n 0, 1) := by decide +kernel
theorem dX7_doPlain_164 : decode cX7_doPlain 164 = .ok (.getfield 12, 3) := by decide +kernel
theorem dX7_doPlain_167 : decode cX7_doPlain 167 = .ok (.getfield 204, 3) := by decide +kernel
theorem dX7_doPlain_170 : decode cX7_doPlain 170 = .ok (.if_icmp .ge 7, 3) := by decide +kernel
theorem dX7_doPlain_173 : decode cX7_doPlain 173 = .ok (.iconst 1, 1) := by decide +kernel
theorem dX7_doPlain_174 : decode cX7_doPlain 174 = .ok (.goto 4, 3) := by decide +kernel
theorem dX7_doPlain_177 : decode cX7_doPlain 177 = .ok (.iconst 0, 1) := by decide +kernel
theorem dX7_doPlain_178 : decode cX7_doPlain 178 = .ok (.invokevirtual 194, 3) := by decide +kernel
theorem dX7_doPlain_181 : decode cX7_doPlain 181 = .ok (.pop, 1) := by decide +kernel
theorem dX7_doPlain_182 : decode cX7_doPlain 182 = .ok (.aload_n 0, 1) := by decide +kernel
theorem dX7_doPlain_183 : decode cX7_doPlain 183 = .ok (.getfield 12, 3) := by decide +kernel
theorem dX7_doPlain_186 : decode cX7_doPlain 186 = .ok (.aload_n 0, 1) := by decide +kernel
theorem dX7_doPlain_187 : decode cX7_doPlain 187 = .ok (.iconst 5, 1) := by decide +kernel
theorem dX7_doPlain_188 : decode cX7_doPlain 188 = .ok (.invokevirtual 201, 3) := by decide +kernel
theorem dX7_doPlain_191 : decode cX7_doPlain 191 = .ok (.invokevirtual 191, 3) := by decide +kernel
theorem dX7_doPlain_194 : decode cX7_doPlain 194 = .ok (.pop, 1) := by decide +kernel
theorem dX7_doPlain_195 : decode cX7_doPlain 195 = .ok (.iconst 1, 1) := by decide +kernel
theorem dX7_doPlain_196 : decode cX7_doPlain 196 = .ok (.ireturn, 1) := by decide +kernel
theorem dX7_doPlain_197 : decode cX7_doPlain 197 = .ok (.aload_n 0, 1) := by decide +kernel
theorem dX7_doPlain_198 : decode cX7_doPlain 198 = .ok (.iconst 1, 1) := by decide +kernel
theorem dX7_doPlain_199 : decode cX7_doPlain 199 = .ok (.putfield 54, 3) := by decide +kernel
theorem dX7_doPlain_202 : decode cX7_doPlain 202 = .ok (.iconst 1, 1) := by decide +kernel
theorem dX7_doPlain_203 : decode cX7_doPlain 203 = .ok (.ireturn, 1) := by decide +kernel
theorem dX7_doSet_0 : decode cX7_doSet 0 = .ok (.aload_n 0, 1) := by decide +kernel
theorem dX7_doSet_1 : decode cX7_doSet 1 = .ok (.getfield 12, 3) := by decide +kernel
theorem dX7_doSet_4 : decode cX7_doSet 4 = .ok (.getfield 136, 3) := by decide +kernel
theorem dX7_doSet_7 : decode cX7_doSet 7 = .ok (.getfield 166, 3) := by decide +kernel
theorem dX7_doSet_10 : decode cX7_doSet 10 = .ok (.iload_n 1, 1) := by decide +kernel
theorem dX7_doSet_11 : decode cX7_doSet 11 = .ok (.iaload, 1) := by decide +kernel
theorem dX7_doSet_12 : decode cX7_doSet 12 = .ok (.istore_n 2, 1) := by decide +kernel
theorem dX7_doSet_13 : decode cX7_doSet 13 = .ok (.aload_n 0, 1) := by decide +kernel
theorem dX7_doSet_14 : decode cX7_doSet 14 = .ok (.getfield 12, 3) := by decide +kernel
theorem dX7_doSet_17 : decode cX7_doSet 17 = .ok (.getfield 136, 3) := by decide +kernel
theorem dX7_doSet_20 : decode cX7_doSet 20 = .ok (.getfield 153, 3) := by decide +kernel
theorem dX7_doSet_23 : decode cX7_doSet 23 = .ok (.iload_n 1, 1) := by decide +kernel
theorem dX7_doSet_24 : decode cX7_doSet 24 = .ok (.iaload, 1) := by decide +kernel
theorem dX7_doSet_25 : decode cX7_doSet 25 = .ok (.istore_n 3, 1) := by decide +kernel
theorem dX7_doSet_26 : decode cX7_doSet 26 = .ok (.aload_n 0, 1) := by decide +kernel
theorem dX7_doSet_27 : decode cX7_doSet 27 = .ok (.getfield 12, 3) := by decide +kernel
theorem dX7_doSet_30 : decode cX7_doSet 30 = .ok (.iload_n 2, 1) := by decide +kernel
theorem dX7_doSet_31 : decode cX7_doSet 31 = .ok (.invokevirtual 88, 3) := by decide +kernel
theorem dX7_doSet_34 : decode cX7_doSet 34 = .ok (.ifCond .eq 23, 3) := by decide +kernel
theorem dX7_doSet_37 : decode cX7_doSet 37 = .ok (.iload_n 3, 1) := by decide +kernel
theorem dX7_doSet_38 : decode cX7_doSet 38 = .ok (.ifCond .lt 19, 3) := by decide +kernel
theorem dX7_doSet_41 : decode cX7_doSet 41 = .ok (.iload_n 3, 1) := by decide +kernel
theorem dX7_doSet_42 : decode cX7_doSet 42 = .ok (.aload_n 0, 1) := by decide +kernel
theorem dX7_doSet_43 : decode cX7_doSet 43 = .ok (.getfield 12, 3) := by decide +kernel
theorem dX7_doSet_46 : decode cX7_doSet 46 = .ok (.getfield 66, 3) := by decide +kernel
theorem dX7_doSet_49 : decode cX7_doSet 49 = .ok (.iload_n 2, 1) := by decide +kernel
theorem dX7_doSet_50 : decode cX7_doSet 50 = .ok (.aaload, 1) := by decide +kernel
theorem dX7_doSet_51 : decode cX7_doSet 51 = .ok (.getfield 207, 3) := by decide +kernel
theorem dX7_doSet_54 : decode cX7_doSet 54 = .ok (.if_icmp .lt 5, 3) := by decide +kernel
theorem dX7_doSet_57 : decode cX7_doSet 57 = .ok (.iconst 0, 1) := by decide +kernel
theorem dX7_doSet_58 : decode cX7_doSet 58 = .ok (.ireturn, 1) := by decide +kernel
theorem dX7_doSet_59 : decode cX7_doSet 59 = .ok (.aload_n 0, 1) := by decide +kernel
theorem dX7_doSet_60 : decode cX7_doSet 60 = .ok (.getfield 12, 3) := by decide +kernel
theorem dX7_doSet_63 : decode cX7_doSet 63 = .ok (.getfield 66, 3) := by decide +kernel
theorem dX7_doSet_66 : decode cX7_doSet 66 = .ok (.iload_n 2, 1) := by decide +kernel
theorem dX7_doSet_67 : decode cX7_doSet 67 = .ok (.aaload, 1) := by decide +kernel
theorem dX7_doSet_68 : decode cX7_doSet 68 = .ok (.getfield 210, 3) := by decide +kernel
theorem dX7_doSet_71 : decode cX7_doSet 71 = .ok (.iload_n 3, 1) := by decide +kernel
theorem dX7_doSet_72 : decode cX7_doSet 72 = .ok (.aload_n 0, 1) := by decide +kernel
theorem dX7_doSet_73 : decode cX7_doSet 73 = .ok (.getfield 12, 3) := by decide +kernel
theorem dX7_doSet_76 : decode cX7_doSet 76 = .ok (.getfield 136, 3) := by decide +kernel
theorem dX7_doSet_79 : decode cX7_doSet 79 = .ok (.getfield 185, 3) := by decide +kernel
theorem dX7_doSet_82 : decode cX7_doSet 82 = .ok (.iload_n 1, 1) := by decide +kernel
theorem dX7_doSet_83 : decode cX7_doSet 83 = .ok (.iaload, 1) := by decide +kernel
theorem dX7_doSet_84 : decode cX7_doSet 84 = .ok (.iastore, 1) := by decide +kernel
theorem dX7_doSet_85 : decode cX7_doSet 85 = .ok (.iconst 1, 1) := by decide +kernel
theorem dX7_doSet_86 : decode cX7_doSet 86 = .ok (.ireturn, 1) := by decide +kernel
theorem dX7_draw_0 : decode cX7_draw 0 = .ok (.aload_n 0, 1) := by decide +kernel
theorem dX7_draw_1 : decode cX7_draw 1 = .ok (.aload_n 0, 1) := by decide +kernel
theorem dX7_draw_2 : decode cX7_draw 2 = .ok (.getfield 57, 3) := by decide +kernel
theorem dX7_draw_5 : decode cX7_draw 5 = .ok (.sipush 2971, 3) := by decide +kernel
theorem dX7_draw_8 : decode cX7_draw 8 = .ok (.imul, 1) := by decide +kernel
theorem dX7_draw_9 : decode cX7_draw 9 = .ok (.sipush 10781, 3) := by decide +kernel
theorem dX7_draw_12 : decode cX7_draw 12 = .ok (.iadd, 1) := by decide +kernel
theorem dX7_draw_13 : decode cX7_draw 13 = .ok (.ldc 213, 2) := by decide +kernel
theorem dX7_draw_15 : decode cX7_draw 15 = .ok (.irem, 1) := by decide +kernel
theorem dX7_draw_16 : decode cX7_draw 16 = .ok (.putfield 57, 3) := by decide +kernel
theorem dX7_draw_19 : decode cX7_draw 19 = .ok (.iload_n 1, 1) := by decide +kernel
theorem dX7_draw_20 : decode cX7_draw 20 = .ok (.ifCond .le 15, 3) := by decide +kernel
theorem dX7_draw_23 : decode cX7_draw 23 = .ok (.aload_n 0, 1) := by decide +kernel
theorem dX7_draw_24 : decode cX7_draw 24 = .ok (.getfield 57, 3) := by decide +kernel
theorem dX7_draw_27 : decode cX7_draw 27 = .ok (.bipush 8, 2) := by decide +kernel
theorem dX7_draw_29 : decode cX7_draw 29 = .ok (.idiv, 1) := by decide +kernel
theorem dX7_draw_30 : decode cX7_draw 30 = .ok (.iload_n 1, 1) := by decide +kernel
theorem dX7_draw_31 : decode cX7_draw 31 = .ok (.irem, 1) := by decide +kernel
theorem dX7_draw_32 : decode cX7_draw 32 = .ok (.goto 4, 3) := by decide +kernel
theorem dX7_draw_35 : decode cX7_draw 35 = .ok (.iconst 0, 1) := by decide +kernel
theorem dX7_draw_36 : decode cX7_draw 36 = .ok (.ireturn, 1) := by decide +kernel
