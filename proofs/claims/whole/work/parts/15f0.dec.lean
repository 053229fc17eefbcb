theorem dX11_init_0 : decode cX11_init 0 = .ok (.aload_n 0, 1) := by decide +kernel
theorem dX11_init_1 : decode cX11_init 1 = .ok (.invokespecial 1, 3) := by decide +kernel
theorem dX11_init_4 : decode cX11_init 4 = .ok (.aload_n 0, 1) := by decide +kernel
theorem dX11_init_5 : decode cX11_init 5 = .ok (.iconst 4, 1) := by decide +kernel
theorem dX11_init_6 : decode cX11_init 6 = .ok (.anewarray 9, 3) := by decide +kernel
theorem dX11_init_9 : decode cX11_init 9 = .ok (.putfield 11, 3) := by decide +kernel
theorem dX11_init_12 : decode cX11_init 12 = .ok (.aload_n 0, 1) := by decide +kernel
theorem dX11_init_13 : decode cX11_init 13 = .ok (.new 15, 3) := by decide +kernel
theorem dX11_init_16 : decode cX11_init 16 = .ok (.dup, 1) := by decide +kernel
theorem dX11_init_17 : decode cX11_init 17 = .ok (.invokespecial 17, 3) := by decide +kernel
theorem dX11_init_20 : decode cX11_init 20 = .ok (.putfield 18, 3) := by decide +kernel
theorem dX11_init_23 : decode cX11_init 23 = .ok (.aload_n 0, 1) := by decide +kernel
theorem dX11_init_24 : decode cX11_init 24 = .ok (.new 22, 3) := by decide +kernel
theorem dX11_init_27 : decode cX11_init 27 = .ok (.dup, 1) := by decide +kernel
theorem dX11_init_28 : decode cX11_init 28 = .ok (.invokespecial 24, 3) := by decide +kernel
theorem dX11_init_31 : decode cX11_init 31 = .ok (.putfield 25, 3) := by decide +kernel
theorem dX11_init_34 : decode cX11_init 34 = .ok (.aload_n 0, 1) := by decide +kernel
theorem dX11_init_35 : decode cX11_init 35 = .ok (.new 29, 3) := by decide +kernel
theorem dX11_init_38 : decode cX11_init 38 = .ok (.dup, 1) := by decide +kernel
theorem dX11_init_39 : decode cX11_init 39 = .ok (.aload_n 0, 1) := by decide +kernel
theorem dX11_init_40 : decode cX11_init 40 = .ok (.getfield 18, 3) := by decide +kernel
theorem dX11_init_43 : decode cX11_init 43 = .ok (.invokespecial 31, 3) := by decide +kernel
theorem dX11_init_46 : decode cX11_init 46 = .ok (.putfield 34, 3) := by decide +kernel
theorem dX11_init_49 : decode cX11_init 49 = .ok (.aload_n 0, 1) := by decide +kernel
theorem dX11_init_50 : decode cX11_init 50 = .ok (.new 38, 3) := by decide +kernel
theorem dX11_init_53 : decode cX11_init 53 = .ok (.dup, 1) := by decide +kernel
theorem dX11_init_54 : decode cX11_init 54 = .ok (.aload_n 0, 1) := by decide +kernel
theorem dX11_init_55 : decode cX11_init 55 = .ok (.getfield 18, 3) := by decide +kernel
theorem dX11_init_58 : decode cX11_init 58 = .ok (.aload_n 0, 1) := by decide +kernel
theorem dX11_init_59 : decode cX11_init 59 = .ok (.getfield 25, 3) := by decide +kernel
theorem dX11_init_62 : decode cX11_init 62 = .ok (.getfield 40, 3) := by decide +kernel
theorem dX11_init_65 : decode cX11_init 65 = .ok (.invokespecial 44, 3) := by decide +kernel
theorem dX11_init_68 : decode cX11_init 68 = .ok (.putfield 47, 3) := by decide +kernel
theorem dX11_init_71 : decode cX11_init 71 = .ok (.aload_n 0, 1) := by decide +kernel
theorem dX11_init_72 : decode cX11_init 72 = .ok (.new 22, 3) := by decide +kernel
theorem dX11_init_75 : decode cX11_init 75 = .ok (.dup, 1) := by decide +kernel
theorem dX11_init_76 : decode cX11_init 76 = .ok (.invokespecial 24, 3) := by decide +kernel
theorem dX11_init_79 : decode cX11_init 79 = .ok (.putfield 51, 3) := by decide +kernel
theorem dX11_init_82 : decode cX11_init 82 = .ok (.aload_n 0, 1) := by decide +kernel
theorem dX11_init_83 : decode cX11_init 83 = .ok (.new 54, 3) := by decide +kernel
theorem dX11_init_86 : decode cX11_init 86 = .ok (.dup, 1) := by decide +kernel
theorem dX11_init_87 : decode cX11_init 87 = .ok (.invokespecial 56, 3) := by decide +kernel
theorem dX11_init_90 : decode cX11_init 90 = .ok (.putfield 57, 3) := by decide +kernel
theorem dX11_init_93 : decode cX11_init 93 = .ok (.aload_n 0, 1) := by decide +kernel
theorem dX11_init_94 : decode cX11_init 94 = .ok (.iconst 3, 1) := by decide +kernel
theorem dX11_init_95 : decode cX11_init 95 = .ok (.anewarray 61, 3) := by decide +kernel
theorem dX11_init_98 : decode cX11_init 98 = .ok (.putfield 63, 3) := by decide +kernel
theorem dX11_init_101 : decode cX11_init 101 = .ok (.aload_n 0, 1) := by decide +kernel
theorem dX11_init_102 : decode cX11_init 102 = .ok (.iconst 5, 1) := by decide +kernel
theorem dX11_init_103 : decode cX11_init 103 = .ok (.newarray .int, 2) := by decide +kernel
theorem dX11_init_105 : decode cX11_init 105 = .ok (.putfield 67, 3) := by decide +kernel
theorem dX11_init_108 : decode cX11_init 108 = .ok (.aload_n 0, 1) := by decide +kernel
theorem dX11_init_109 : decode cX11_init 109 = .ok (.iconst 0, 1) := by decide +kernel
theorem dX11_init_110 : decode cX11_init 110 = .ok (.putfield 71, 3) := by decide +kernel
theorem dX11_init_113 : decode cX11_init 113 = .ok (.aload_n 0, 1) := by decide +kernel
theorem dX11_init_114 : decode cX11_init 114 = .ok (.iconst 0, 1) := by decide +kernel
theorem dX11_init_115 : decode cX11_init 115 = .ok (.putfield 75, 3) := by decide +kernel
theorem dX11_init_118 : decode cX11_init 118 = .ok (.aload_n 0, 1) := by decide +kernel
theorem dX11_init_119 : decode cX11_init 119 = .ok (.iconst 0, 1) := by decide +kernel
theorem dX11_init_120 : decode cX11_init 120 = .ok (.putfield 79, 3) := by decide +kernel
theorem dX11_init_123 : decode cX11_init 123 = .ok (.aload_n 0, 1) := by decide +kernel
theorem dX11_init_124 : decode cX11_init 124 = .ok (.iconst (-1), 1) := by decide +kernel
theorem dX11_init_125 : decode cX11_init 125 = .ok (.putfield 82, 3) := by decide +kernel
theorem dX11_init_128 : decode cX11_init 128 = .ok (.aload_n 0, 1) := by decide +kernel
theorem dX11_init_129 : decode cX11_init 129 = .ok (.iconst (-1), 1) := by decide +kernel
theorem dX11_init_130 : decode cX11_init 130 = .ok (.putfield 85, 3) := by decide +kernel
theorem dX11_init_133 : decode cX11_init 133 = .ok (.aload_n 0, 1) := by decide +kernel
theorem dX11_init_134 : decode cX11_init 134 = .ok (.lconst 0, 1) := by decide +kernel
theorem dX11_init_135 : decode cX11_init 135 = .ok (.putfield 88, 3) := by decide +kernel
theorem dX11_init_138 : decode cX11_init 138 = .ok (.aload_n 0, 1) := by decide +kernel
theorem dX11_init_139 : decode cX11_init 139 = .ok (.lconst 1, 1) := by decide +kernel
theorem dX11_init_140 : decode cX11_init 140 = .ok (.putfield 92, 3) := by decide +kernel
theorem dX11_init_143 : decode cX11_init 143 = .ok (.iconst 0, 1) := by decide +kernel
theorem dX11_init_144 : decode cX11_init 144 = .ok (.istore_n 1, 1) := by decide +kernel
theorem dX11_init_145 : decode cX11_init 145 = .ok (.iload_n 1, 1) := by decide +kernel
theorem dX11_init_146 : decode cX11_init 146 = .ok (.iconst 4, 1) := by decide +kernel
theorem dX11_init_147 : decode cX11_init 147 = .ok (.if_icmp .ge 22, 3) := by decide +kernel
theorem dX11_init_150 : decode cX11_init 150 = .ok (.aload_n 0, 1) := by decide +kernel
theorem dX11_init_151 : decode cX11_init 151 = .ok (.getfield 11, 3) := by decide +kernel
theorem dX11_init_154 : decode cX11_init 154 = .ok (.iload_n 1, 1) := by decide +kernel
theorem dX11_init_155 : decode cX11_init 155 = .ok (.new 9, 3) := by decide +kernel
theorem dX11_init_158 : decode cX11_init 158 = .ok (.dup, 1) := by decide +kernel
theorem dX11_init_159 : decode cX11_init 159 = .ok (.invokespecial 95, 3) := by decide +kernel
theorem dX11_init_162 : decode cX11_init 162 = .ok (.aastore, 1) := by decide +kernel
theorem dX11_init_163 : decode cX11_init 163 = .ok (.iinc 1 1, 3) := by decide +kernel
theorem dX11_init_166 : decode cX11_init 166 = .ok (.goto (-21), 3) := by decide +kernel
theorem dX11_init_169 : decode cX11_init 169 = .ok (.iconst 0, 1) := by decide +kernel
theorem dX11_init_170 : decode cX11_init 170 = .ok (.istore_n 1, 1) := by decide +kernel
theorem dX11_init_171 : decode cX11_init 171 = .ok (.iload_n 1, 1) := by decide +kernel
theorem dX11_init_172 : decode cX11_init 172 = .ok (.iconst 3, 1) := by decide +kernel
theorem dX11_init_173 : decode cX11_init 173 = .ok (.if_icmp .ge 22, 3) := by decide +kernel
theorem dX11_init_176 : decode cX11_init 176 = .ok (.aload_n 0, 1) := by decide +kernel
theorem dX11_init_177 : decode cX11_init 177 = .ok (.getfield 63, 3) := by decide +kernel
theorem dX11_init_180 : decode cX11_init 180 = .ok (.iload_n 1, 1) := by decide +kernel
theorem dX11_init_181 : decode cX11_init 181 = .ok (.new 61, 3) := by decide +kernel
theorem dX11_init_184 : decode cX11_init 184 = .ok (.dup, 1) := by decide +kernel
theorem dX11_init_185 : decode cX11_init 185 = .ok (.invokespecial 96, 3) := by decide +kernel
theorem dX11_init_188 : decode cX11_init 188 = .ok (.aastore, 1) := by decide +kernel
theorem dX11_init_189 : decode cX11_init 189 = .ok (.iinc 1 1, 3) := by decide +kernel
theorem dX11_init_192 : decode cX11_init 192 = .ok (.goto (-21), 3) := by decide +kernel
theorem dX11_init_195 : decode cX11_init 195 = .ok (.return_, 1) := by decide +kernel
theorem dX11_status_0 : decode cX11_status 0 = .ok (.aload_n 0, 1) := by decide +kernel
theorem dX11_status_1 : decode cX11_status 1 = .ok (.getfield 79, 3) := by decide +kernel
theorem dX11_status_4 : decode cX11_status 4 = .ok (.ireturn, 1) := by decide +kernel
theorem dX11_top_0 : decode cX11_top 0 = .ok (.aload_n 0, 1) := by decide +kernel
theorem dX11_top_1 : decode cX11_top 1 = .ok (.getfield 88, 3) := by decide +kernel
theorem dX11_top_4 : decode cX11_top 4 = .ok (.lreturn, 1) := by decide +kernel
theorem dX11_bottom_0 : decode cX11_bottom 0 = .ok (.aload_n 0, 1) := by decide +kernel
theorem dX11_bottom_1 : decode cX11_bottom 1 = .ok (.getfield 92, 3) := by decide +kernel
theorem dX11_bottom_4 : decode cX11_bottom 4 = .ok (.lreturn, 1) := by decide +kernel
theorem dX11_tray_0 : decode cX11_tray 0 = .ok (.iload_n 1, 1) := by decide +kernel
theorem dX11_tray_1 : decode cX11_tray 1 = .ok (.invokestatic 97, 3) := by decide +kernel
theorem dX11_tray_4 : decode cX11_tray 4 = .ok (.ifCond .eq 12, 3) := by decide +kernel
theorem dX11_tray_7 : decode cX11_tray 7 = .ok (.iload_n 2, 1) := by decide +kernel
theorem dX11_tray_8 : decode cX11_tray 8 = .ok (.ifCond .lt 8, 3) := by decide +kernel
theorem dX11_tray_11 : decode cX11_tray 11 = .ok (.iload_n 2, 1) := by decide +kernel
theorem dX11_tray_12 : decode cX11_tray 12 = .ok (.iconst 3, 1) := by decide +kernel
theorem dX11_tray_13 : decode cX11_tray 13 = .ok (.if_icmp .le 9, 3) := by decide +kernel
theorem dX11_tray_16 : decode cX11_tray 16 = .ok (.aload_n 0, 1) := by decide +kernel
theorem dX11_tray_17 : decode cX11_tray 17 = .ok (.iconst 1, 1) := by decide +kernel
theorem dX11_tray_18 : decode cX11_tray 18 = .ok (.invokevirtual 101, 3) := by decide +kernel
theorem dX11_tray_21 : decode cX11_tray 21 = .ok (.ireturn, 1) := by decide +kernel
theorem dX11_tray_22 : decode cX11_tray 22 = .ok (.iload_n 3, 1) := by decide +kernel
theorem dX11_tray_23 : decode cX11_tray 23 = .ok (.bipush 60, 2) := by decide +kernel
theorem dX11_tray_25 : decode cX11_tray 25 = .ok (.if_icmp .le 9, 3) := by decide +kernel
theorem dX11_tray_28 : decode cX11_tray 28 = .ok (.aload_n 0, 1) := by decide +kernel
theorem dX11_tray_29 : decode cX11_tray 29 = .ok (.iconst 5, 1) := by decide +kernel
theorem dX11_tray_30 : decode cX11_tray 30 = .ok (.invokevirtual 101, 3) := by decide +kernel
theorem dX11_tray_33 : decode cX11_tray 33 = .ok (.ireturn, 1) := by decide +kernel
theorem dX11_tray_34 : decode cX11_tray 34 = .ok (.iload_n 3, 1) := by decide +kernel
theorem dX11_tray_35 : decode cX11_tray 35 = .ok (.ifCond .ge 10, 3) := by decide +kernel
theorem dX11_tray_38 : decode cX11_tray 38 = .ok (.aload_n 0, 1) := by decide +kernel
theorem dX11_tray_39 : decode cX11_tray 39 = .ok (.bipush 6, 2) := by decide +kernel
theorem dX11_tray_41 : decode cX11_tray 41 = .ok (.invokevirtual 101, 3) := by decide +kernel
theorem dX11_tray_44 : decode cX11_tray 44 = .ok (.ireturn, 1) := by decide +kernel
theorem dX11_tray_45 : decode cX11_tray 45 = .ok (.aload_n 0, 1) := by decide +kernel
theorem dX11_tray_46 : decode cX11_tray 46 = .ok (.getfield 11, 3) := by decide +kernel
theorem dX11_tray_49 : decode cX11_tray 49 = .ok (.iload_n 1, 1) := by decide +kernel
theorem dX11_tray_50 : decode cX11_tray 50 = .ok (.aaload, 1) := by decide +kernel
theorem dX11_tray_51 : decode cX11_tray 51 = .ok (.iload_n 2, 1) := by decide +kernel
theorem dX11_tray_52 : decode cX11_tray 52 = .ok (.iload_n 3, 1) := by decide +kernel
theorem dX11_tray_53 : decode cX11_tray 53 = .ok (.invokevirtual 104, 3) := by decide +kernel
theorem dX11_tray_56 : decode cX11_tray 56 = .ok (.aload_n 0, 1) := by decide +kernel
theorem dX11_tray_57 : decode cX11_tray 57 = .ok (.invokevirtual 108, 3) := by decide +kernel
theorem dX11_tray_60 : decode cX11_tray 60 = .ok (.ireturn, 1) := by decide +kernel
theorem dX11_write_0 : decode cX11_write 0 = .ok (.aload_n 0, 1) := by decide +kernel
theorem dX11_write_1 : decode cX11_write 1 = .ok (.iload_n 1, 1) := by decide +kernel
theorem dX11_write_2 : decode cX11_write 2 = .ok (.iload_n 2, 1) := by decide +kernel
theorem dX11_write_3 : decode cX11_write 3 = .ok (.invokevirtual 112, 3) := by decide +kernel
theorem dX11_write_6 : decode cX11_write 6 = .ok (.istore 5, 2) := by decide +kernel
theorem dX11_write_8 : decode cX11_write 8 = .ok (.iload 5, 2) := by decide +kernel
theorem dX11_write_10 : decode cX11_write 10 = .ok (.ifCond .eq 10, 3) := by decide +kernel
theorem dX11_write_13 : decode cX11_write 13 = .ok (.aload_n 0, 1) := by decide +kernel
theorem dX11_write_14 : decode cX11_write 14 = .ok (.iload 5, 2) := by decide +kernel
theorem dX11_write_16 : decode cX11_write 16 = .ok (.invokevirtual 101, 3) := by decide +kernel
theorem dX11_write_19 : decode cX11_write 19 = .ok (.ireturn, 1) := by decide +kernel
theorem dX11_write_20 : decode cX11_write 20 = .ok (.aload_n 0, 1) := by decide +kernel
theorem dX11_write_21 : decode cX11_write 21 = .ok (.getfield 11, 3) := by decide +kernel
theorem dX11_write_24 : decode cX11_write 24 = .ok (.iload_n 1, 1) := by decide +kernel
theorem dX11_write_25 : decode cX11_write 25 = .ok (.aaload, 1) := by decide +kernel
theorem dX11_write_26 : decode cX11_write 26 = .ok (.iload_n 2, 1) := by decide +kernel
theorem dX11_write_27 : decode cX11_write 27 = .ok (.lload_n 3, 1) := by decide +kernel
theorem dX11_write_28 : decode cX11_write 28 = .ok (.invokevirtual 116, 3) := by decide +kernel
theorem dX11_write_31 : decode cX11_write 31 = .ok (.aload_n 0, 1) := by decide +kernel
theorem dX11_write_32 : decode cX11_write 32 = .ok (.invokevirtual 108, 3) := by decide +kernel
theorem dX11_write_35 : decode cX11_write 35 = .ok (.ireturn, 1) := by decide +kernel
theorem dX11_read_0 : decode cX11_read 0 = .ok (.aload_n 0, 1) := by decide +kernel
theorem dX11_read_1 : decode cX11_read 1 = .ok (.iload_n 1, 1) := by decide +kernel
theorem dX11_read_2 : decode cX11_read 2 = .ok (.iload_n 2, 1) := by decide +kernel
theorem dX11_read_3 : decode cX11_read 3 = .ok (.invokevirtual 112, 3) := by decide +kernel
theorem dX11_read_6 : decode cX11_read 6 = .ok (.istore_n 3, 1) := by decide +kernel
theorem dX11_read_7 : decode cX11_read 7 = .ok (.iload_n 3, 1) := by decide +kernel
theorem dX11_read_8 : decode cX11_read 8 = .ok (.ifCond .eq 10, 3) := by decide +kernel
theorem dX11_read_11 : decode cX11_read 11 = .ok (.aload_n 0, 1) := by decide +kernel
theorem dX11_read_12 : decode cX11_read 12 = .ok (.iload_n 3, 1) := by decide +kernel
theorem dX11_read_13 : decode cX11_read 13 = .ok (.invokevirtual 120, 3) := by decide +kernel
theorem dX11_read_16 : decode cX11_read 16 = .ok (.i2l, 1) := by decide +kernel
theorem dX11_read_17 : decode cX11_read 17 = .ok (.lreturn, 1) := by decide +kernel
theorem dX11_read_18 : decode cX11_read 18 = .ok (.aload_n 0, 1) := by decide +kernel
theorem dX11_read_19 : decode cX11_read 19 = .ok (.iconst 0, 1) := by decide +kernel
theorem dX11_read_20 : decode cX11_read 20 = .ok (.putfield 79, 3) := by decide +kernel
theorem dX11_read_23 : decode cX11_read 23 = .ok (.aload_n 0, 1) := by decide +kernel
theorem dX11_read_24 : decode cX11_read 24 = .ok (.getfield 11, 3) := by decide +kernel
theorem dX11_read_27 : decode cX11_read 27 = .ok (.iload_n 1, 1) := by decide +kernel
theorem dX11_read_28 : decode cX11_read 28 = .ok (.aaload, 1) := by decide +kernel
theorem dX11_read_29 : decode cX11_read 29 = .ok (.iload_n 2, 1) := by decide +kernel
theorem dX11_read_30 : decode cX11_read 30 = .ok (.invokevirtual 124, 3) := by decide +kernel
theorem dX11_read_33 : decode cX11_read 33 = .ok (.lreturn, 1) := by decide +kernel
theorem dX11_pour_0 : decode cX11_pour 0 = .ok (.iload_n 1, 1) := by decide +kernel
theorem dX11_pour_1 : decode cX11_pour 1 = .ok (.invokestatic 97, 3) := by decide +kernel
theorem dX11_pour_4 : decode cX11_pour 4 = .ok (.ifCond .eq 10, 3) := by decide +kernel
theorem dX11_pour_7 : decode cX11_pour 7 = .ok (.iload_n 3, 1) := by decide +kernel
theorem dX11_pour_8 : decode cX11_pour 8 = .ok (.invokestatic 97, 3) := by decide +kernel
theorem dX11_pour_11 : decode cX11_pour 11 = .ok (.ifCond .ne 9, 3) := by decide +kernel
theorem dX11_pour_14 : decode cX11_pour 14 = .ok (.aload_n 0, 1) := by decide +kernel
theorem dX11_pour_15 : decode cX11_pour 15 = .ok (.iconst 1, 1) := by decide +kernel
theorem dX11_pour_16 : decode cX11_pour 16 = .ok (.invokevirtual 101, 3) := by decide +kernel
theorem dX11_pour_19 : decode cX11_pour 19 = .ok (.ireturn, 1) := by decide +kernel
theorem dX11_pour_20 : decode cX11_pour 20 = .ok (.aload_n 0, 1) := by decide +kernel
theorem dX11_pour_21 : decode cX11_pour 21 = .ok (.getfield 11, 3) := by decide +kernel
theorem dX11_pour_24 : decode cX11_pour 24 = .ok (.iload_n 1, 1) := by decide +kernel
theorem dX11_pour_25 : decode cX11_pour 25 = .ok (.aaload, 1) := by decide +kernel
theorem dX11_pour_26 : decode cX11_pour 26 = .ok (.astore 6, 2) := by decide +kernel
theorem dX11_pour_28 : decode cX11_pour 28 = .ok (.aload_n 0, 1) := by decide +kernel
theorem dX11_pour_29 : decode cX11_pour 29 = .ok (.getfield 11, 3) := by decide +kernel
theorem dX11_pour_32 : decode cX11_pour 32 = .ok (.iload_n 3, 1) := by decide +kernel
theorem dX11_pour_33 : decode cX11_pour 33 = .ok (.aaload, 1) := by decide +kernel
theorem dX11_pour_34 : decode cX11_pour 34 = .ok (.astore 7, 2) := by decide +kernel
theorem dX11_pour_36 : decode cX11_pour 36 = .ok (.aload 6, 2) := by decide +kernel
theorem dX11_pour_38 : decode cX11_pour 38 = .ok (.getfield 128, 3) := by decide +kernel
theorem dX11_pour_41 : decode cX11_pour 41 = .ok (.ifCond .eq 11, 3) := by decide +kernel
theorem dX11_pour_44 : decode cX11_pour 44 = .ok (.aload 7, 2) := by decide +kernel
theorem dX11_pour_46 : decode cX11_pour 46 = .ok (.getfield 128, 3) := by decide +kernel
theorem dX11_pour_49 : decode cX11_pour 49 = .ok (.ifCond .ne 9, 3) := by decide +kernel
theorem dX11_pour_52 : decode cX11_pour 52 = .ok (.aload_n 0, 1) := by decide +kernel
theorem dX11_pour_53 : decode cX11_pour 53 = .ok (.iconst 3, 1) := by decide +kernel
theorem dX11_pour_54 : decode cX11_pour 54 = .ok (.invokevirtual 101, 3) := by decide +kernel
theorem dX11_pour_57 : decode cX11_pour 57 = .ok (.ireturn, 1) := by decide +kernel
theorem dX11_pour_58 : decode cX11_pour 58 = .ok (.aload 6, 2) := by decide +kernel
theorem dX11_pour_60 : decode cX11_pour 60 = .ok (.getfield 131, 3) := by decide +kernel
theorem dX11_pour_63 : decode cX11_pour 63 = .ok (.aload 7, 2) := by decide +kernel
theorem dX11_pour_65 : decode cX11_pour 65 = .ok (.getfield 131, 3) := by decide +kernel
theorem dX11_pour_68 : decode cX11_pour 68 = .ok (.if_icmp .eq 10, 3) := by decide +kernel
theorem dX11_pour_71 : decode cX11_pour 71 = .ok (.aload_n 0, 1) := by decide +kernel
theorem dX11_pour_72 : decode cX11_pour 72 = .ok (.bipush 11, 2) := by decide +kernel
theorem dX11_pour_74 : decode cX11_pour 74 = .ok (.invokevirtual 101, 3) := by decide +kernel
theorem dX11_pour_77 : decode cX11_pour 77 = .ok (.ireturn, 1) := by decide +kernel
theorem dX11_pour_78 : decode cX11_pour 78 = .ok (.iload 5, 2) := by decide +kernel
theorem dX11_pour_80 : decode cX11_pour 80 = .ok (.ifCond .ge 10, 3) := by decide +kernel
theorem dX11_pour_83 : decode cX11_pour 83 = .ok (.aload_n 0, 1) := by decide +kernel
theorem dX11_pour_84 : decode cX11_pour 84 = .ok (.bipush 6, 2) := by decide +kernel
theorem dX11_pour_86 : decode cX11_pour 86 = .ok (.invokevirtual 101, 3) := by decide +kernel
theorem dX11_pour_89 : decode cX11_pour 89 = .ok (.ireturn, 1) := by decide +kernel
theorem dX11_pour_90 : decode cX11_pour 90 = .ok (.aload 6, 2) := by decide +kernel
theorem dX11_pour_92 : decode cX11_pour 92 = .ok (.iload_n 2, 1) := by decide +kernel
theorem dX11_pour_93 : decode cX11_pour 93 = .ok (.iload 5, 2) := by decide +kernel
theorem dX11_pour_95 : decode cX11_pour 95 = .ok (.invokevirtual 134, 3) := by decide +kernel
theorem dX11_pour_98 : decode cX11_pour 98 = .ok (.ifCond .eq 15, 3) := by decide +kernel
theorem dX11_pour_101 : decode cX11_pour 101 = .ok (.aload 7, 2) := by decide +kernel
theorem dX11_pour_103 : decode cX11_pour 103 = .ok (.iload 4, 2) := by decide +kernel
theorem dX11_pour_105 : decode cX11_pour 105 = .ok (.iload 5, 2) := by decide +kernel
theorem dX11_pour_107 : decode cX11_pour 107 = .ok (.invokevirtual 134, 3) := by decide +kernel
theorem dX11_pour_110 : decode cX11_pour 110 = .ok (.ifCond .ne 9, 3) := by decide +kernel
theorem dX11_pour_113 : decode cX11_pour 113 = .ok (.aload_n 0, 1) := by decide +kernel
theorem dX11_pour_114 : decode cX11_pour 114 = .ok (.iconst 4, 1) := by decide +kernel
theorem dX11_pour_115 : decode cX11_pour 115 = .ok (.invokevirtual 101, 3) := by decide +kernel
theorem dX11_pour_118 : decode cX11_pour 118 = .ok (.ireturn, 1) := by decide +kernel
theorem dX11_pour_119 : decode cX11_pour 119 = .ok (.aload 6, 2) := by decide +kernel
theorem dX11_pour_121 : decode cX11_pour 121 = .ok (.getfield 138, 3) := by decide +kernel
theorem dX11_pour_124 : decode cX11_pour 124 = .ok (.iload_n 2, 1) := by decide +kernel
theorem dX11_pour_125 : decode cX11_pour 125 = .ok (.aload 7, 2) := by decide +kernel
theorem dX11_pour_127 : decode cX11_pour 127 = .ok (.getfield 138, 3) := by decide +kernel
theorem dX11_pour_130 : decode cX11_pour 130 = .ok (.iload 4, 2) := by decide +kernel
theorem dX11_pour_132 : decode cX11_pour 132 = .ok (.iload 5, 2) := by decide +kernel
theorem dX11_pour_134 : decode cX11_pour 134 = .ok (.invokestatic 142, 3) := by decide +kernel
theorem dX11_pour_137 : decode cX11_pour 137 = .ok (.aload_n 0, 1) := by decide +kernel
theorem dX11_pour_138 : decode cX11_pour 138 = .ok (.invokevirtual 108, 3) := by decide +kernel
theorem dX11_pour_141 : decode cX11_pour 141 = .ok (.ireturn, 1) := by decide +kernel
theorem dX11_feed_0 : decode cX11_feed 0 = .ok (.aload_n 0, 1) := by decide +kernel
theorem dX11_feed_1 : decode cX11_feed 1 = .ok (.getfield 18, 3) := by decide +kernel
theorem dX11_feed_4 : decode cX11_feed 4 = .ok (.bipush 20, 2) := by decide +kernel
theorem dX11_feed_6 : decode cX11_feed 6 = .ok (.invokevirtual 148, 3) := by decide +kernel
theorem dX11_feed_9 : decode cX11_feed 9 = .ok (.ifCond .ne 5, 3) := by decide +kernel
theorem dX11_feed_12 : decode cX11_feed 12 = .ok (.iconst (-1), 1) := by decide +kernel
theorem dX11_feed_13 : decode cX11_feed 13 = .ok (.ireturn, 1) := by decide +kernel
theorem dX11_feed_14 : decode cX11_feed 14 = .ok (.aload_n 0, 1) := by decide +kernel
theorem dX11_feed_15 : decode cX11_feed 15 = .ok (.getfield 18, 3) := by decide +kernel
theorem dX11_feed_18 : decode cX11_feed 18 = .ok (.iload_n 1, 1) := by decide +kernel
theorem dX11_feed_19 : decode cX11_feed 19 = .ok (.invokevirtual 151, 3) := by decide +kernel
theorem dX11_feed_22 : decode cX11_feed 22 = .ok (.aload_n 0, 1) := by decide +kernel
theorem dX11_feed_23 : decode cX11_feed 23 = .ok (.getfield 18, 3) := by decide +kernel
theorem dX11_feed_26 : decode cX11_feed 26 = .ok (.iload_n 2, 1) := by decide +kernel
theorem dX11_feed_27 : decode cX11_feed 27 = .ok (.invokevirtual 151, 3) := by decide +kernel
theorem dX11_feed_30 : decode cX11_feed 30 = .ok (.aload_n 0, 1) := by decide +kernel
theorem dX11_feed_31 : decode cX11_feed 31 = .ok (.getfield 18, 3) := by decide +kernel
theorem dX11_feed_34 : decode cX11_feed 34 = .ok (.iload_n 3, 1) := by decide +kernel
theorem dX11_feed_35 : decode cX11_feed 35 = .ok (.invokevirtual 151, 3) := by decide +kernel
theorem dX11_feed_38 : decode cX11_feed 38 = .ok (.aload_n 0, 1) := by decide +kernel
theorem dX11_feed_39 : decode cX11_feed 39 = .ok (.getfield 18, 3) := by decide +kernel
theorem dX11_feed_42 : decode cX11_feed 42 = .ok (.iload 4, 2) := by decide +kernel
theorem dX11_feed_44 : decode cX11_feed 44 = .ok (.invokevirtual 151, 3) := by decide +kernel
theorem dX11_feed_47 : decode cX11_feed 47 = .ok (.aload_n 0, 1) := by decide +kernel
theorem dX11_feed_48 : decode cX11_feed 48 = .ok (.getfield 18, 3) := by decide +kernel
theorem dX11_feed_51 : decode cX11_feed 51 = .ok (.iload 5, 2) := by decide +kernel
theorem dX11_feed_53 : decode cX11_feed 53 = .ok (.invokevirtual 151, 3) := by decide +kernel
theorem dX11_feed_56 : decode cX11_feed 56 = .ok (.aload_n 0, 1) := by decide +kernel
theorem dX11_feed_57 : decode cX11_feed 57 = .ok (.getfield 18, 3) := by decide +kernel
theorem dX11_feed_60 : decode cX11_feed 60 = .ok (.getfield 155, 3) := by decide +kernel
theorem dX11_feed_63 : decode cX11_feed 63 = .ok (.ireturn, 1) := by decide +kernel
theorem dX11_park_0 : decode cX11_park 0 = .ok (.iload_n 1, 1) := by decide +kernel
theorem dX11_park_1 : decode cX11_park 1 = .ok (.ifCond .lt 14, 3) := by decide +kernel
theorem dX11_park_4 : decode cX11_park 4 = .ok (.iload_n 1, 1) := by decide +kernel
theorem dX11_park_5 : decode cX11_park 5 = .ok (.aload_n 0, 1) := by decide +kernel
theorem dX11_park_6 : decode cX11_park 6 = .ok (.getfield 18, 3) := by decide +kernel
theorem dX11_park_9 : decode cX11_park 9 = .ok (.getfield 155, 3) := by decide +kernel
theorem dX11_park_12 : decode cX11_park 12 = .ok (.if_icmp .le 9, 3) := by decide +kernel
theorem dX11_park_15 : decode cX11_park 15 = .ok (.aload_n 0, 1) := by decide +kernel
theorem dX11_park_16 : decode cX11_park 16 = .ok (.iconst 5, 1) := by decide +kernel
theorem dX11_park_17 : decode cX11_park 17 = .ok (.invokevirtual 120, 3) := by decide +kernel
theorem dX11_park_20 : decode cX11_park 20 = .ok (.ireturn, 1) := by decide +kernel
theorem dX11_park_21 : decode cX11_park 21 = .ok (.aload_n 0, 1) := by decide +kernel
theorem dX11_park_22 : decode cX11_park 22 = .ok (.getfield 34, 3) := by decide +kernel
theorem dX11_park_25 : decode cX11_park 25 = .ok (.iload_n 1, 1) := by decide +kernel
theorem dX11_park_26 : decode cX11_park 26 = .ok (.invokevirtual 158, 3) := by decide +kernel
theorem dX11_park_29 : decode cX11_park 29 = .ok (.istore_n 2, 1) := by decide +kernel
theorem dX11_park_30 : decode cX11_park 30 = .ok (.aload_n 0, 1) := by decide +kernel
theorem dX11_park_31 : decode cX11_park 31 = .ok (.invokevirtual 161, 3) := by decide +kernel
theorem dX11_park_34 : decode cX11_park 34 = .ok (.iload_n 2, 1) := by decide +kernel
theorem dX11_park_35 : decode cX11_park 35 = .ok (.ifCond .ne 10, 3) := by decide +kernel
theorem dX11_park_38 : decode cX11_park 38 = .ok (.aload_n 0, 1) := by decide +kernel
theorem dX11_park_39 : decode cX11_park 39 = .ok (.bipush 10, 2) := by decide +kernel
theorem dX11_park_41 : decode cX11_park 41 = .ok (.invokevirtual 120, 3) := by decide +kernel
theorem dX11_park_44 : decode cX11_park 44 = .ok (.ireturn, 1) := by decide +kernel
theorem dX11_park_45 : decode cX11_park 45 = .ok (.aload_n 0, 1) := by decide +kernel
theorem dX11_park_46 : decode cX11_park 46 = .ok (.getfield 25, 3) := by decide +kernel
theorem dX11_park_49 : decode cX11_park 49 = .ok (.getfield 40, 3) := by decide +kernel
theorem dX11_park_52 : decode cX11_park 52 = .ok (.aload_n 0, 1) := by decide +kernel
theorem dX11_park_53 : decode cX11_park 53 = .ok (.getfield 34, 3) := by decide +kernel
theorem dX11_park_56 : decode cX11_park 56 = .ok (.getfield 164, 3) := by decide +kernel
theorem dX11_park_59 : decode cX11_park 59 = .ok (.invokevirtual 167, 3) := by decide +kernel
theorem dX11_park_62 : decode cX11_park 62 = .ok (.aload_n 0, 1) := by decide +kernel
theorem dX11_park_63 : decode cX11_park 63 = .ok (.aload_n 0, 1) := by decide +kernel
theorem dX11_park_64 : decode cX11_park 64 = .ok (.getfield 25, 3) := by decide +kernel
theorem dX11_park_67 : decode cX11_park 67 = .ok (.getfield 40, 3) := by decide +kernel
theorem dX11_park_70 : decode cX11_park 70 = .ok (.getfield 171, 3) := by decide +kernel
theorem dX11_park_73 : decode cX11_park 73 = .ok (.invokevirtual 174, 3) := by decide +kernel
theorem dX11_park_76 : decode cX11_park 76 = .ok (.ireturn, 1) := by decide +kernel
theorem dX11_evenings_0 : decode cX11_evenings 0 = .ok (.iload_n 1, 1) := by decide +kernel
theorem dX11_evenings_1 : decode cX11_evenings 1 = .ok (.ifCond .lt 21, 3) := by decide +kernel
theorem dX11_evenings_4 : decode cX11_evenings 4 = .ok (.iload_n 1, 1) := by decide +kernel
theorem dX11_evenings_5 : decode cX11_evenings 5 = .ok (.aload_n 0, 1) := by decide +kernel
theorem dX11_evenings_6 : decode cX11_evenings 6 = .ok (.getfield 18, 3) := by decide +kernel
theorem dX11_evenings_9 : decode cX11_evenings 9 = .ok (.getfield 155, 3) := by decide +kernel
theorem dX11_evenings_12 : decode cX11_evenings 12 = .ok (.if_icmp .gt 10, 3) := by decide +kernel
theorem dX11_evenings_15 : decode cX11_evenings 15 = .ok (.iload_n 1, 1) := by decide +kernel
theorem dX11_evenings_16 : decode cX11_evenings 16 = .ok (.sipush 300, 3) := by decide +kernel
theorem dX11_evenings_19 : decode cX11_evenings 19 = .ok (.if_icmp .le 9, 3) := by decide +kernel
theorem dX11_evenings_22 : decode cX11_evenings 22 = .ok (.aload_n 0, 1) := by decide +kernel
theorem dX11_evenings_23 : decode cX11_evenings 23 = .ok (.iconst 5, 1) := by decide +kernel
theorem dX11_evenings_24 : decode cX11_evenings 24 = .ok (.invokevirtual 120, 3) := by decide +kernel
theorem dX11_evenings_27 : decode cX11_evenings 27 = .ok (.ireturn, 1) := by decide +kernel
theorem dX11_evenings_28 : decode cX11_evenings 28 = .ok (.aload_n 0, 1) := by decide +kernel
theorem dX11_evenings_29 : decode cX11_evenings 29 = .ok (.getfield 47, 3) := by decide +kernel
theorem dX11_evenings_32 : decode cX11_evenings 32 = .ok (.iload_n 1, 1) := by decide +kernel
theorem dX11_evenings_33 : decode cX11_evenings 33 = .ok (.invokevirtual 177, 3) := by decide +kernel
theorem dX11_evenings_36 : decode cX11_evenings 36 = .ok (.istore_n 2, 1) := by decide +kernel
theorem dX11_evenings_37 : decode cX11_evenings 37 = .ok (.aload_n 0, 1) := by decide +kernel
theorem dX11_evenings_38 : decode cX11_evenings 38 = .ok (.invokevirtual 161, 3) := by decide +kernel
theorem dX11_evenings_41 : decode cX11_evenings 41 = .ok (.iload_n 2, 1) := by decide +kernel
theorem dX11_evenings_42 : decode cX11_evenings 42 = .ok (.ifCond .ne 10, 3) := by decide +kernel
theorem dX11_evenings_45 : decode cX11_evenings 45 = .ok (.aload_n 0, 1) := by decide +kernel
theorem dX11_evenings_46 : decode cX11_evenings 46 = .ok (.bipush 10, 2) := by decide +kernel
theorem dX11_evenings_48 : decode cX11_evenings 48 = .ok (.invokevirtual 120, 3) := by decide +kernel
theorem dX11_evenings_51 : decode cX11_evenings 51 = .ok (.ireturn, 1) := by decide +kernel
theorem dX11_evenings_52 : decode cX11_evenings 52 = .ok (.aload_n 0, 1) := by decide +kernel
theorem dX11_evenings_53 : decode cX11_evenings 53 = .ok (.getfield 25, 3) := by decide +kernel
theorem dX11_evenings_56 : decode cX11_evenings 56 = .ok (.getfield 40, 3) := by decide +kernel
theorem dX11_evenings_59 : decode cX11_evenings 59 = .ok (.getfield 180, 3) := by decide +kernel
theorem dX11_evenings_62 : decode cX11_evenings 62 = .ok (.aload_n 0, 1) := by decide +kernel
theorem dX11_evenings_63 : decode cX11_evenings 63 = .ok (.getfield 47, 3) := by decide +kernel
theorem dX11_evenings_66 : decode cX11_evenings 66 = .ok (.getfield 184, 3) := by decide +kernel
theorem dX11_evenings_69 : decode cX11_evenings 69 = .ok (.invokevirtual 186, 3) := by decide +kernel
theorem dX11_evenings_72 : decode cX11_evenings 72 = .ok (.aload_n 0, 1) := by decide +kernel
theorem dX11_evenings_73 : decode cX11_evenings 73 = .ok (.aload_n 0, 1) := by decide +kernel
theorem dX11_evenings_74 : decode cX11_evenings 74 = .ok (.getfield 25, 3) := by decide +kernel
theorem dX11_evenings_77 : decode cX11_evenings 77 = .ok (.getfield 40, 3) := by decide +kernel
theorem dX11_evenings_80 : decode cX11_evenings 80 = .ok (.getfield 180, 3) := by decide +kernel
theorem dX11_evenings_83 : decode cX11_evenings 83 = .ok (.getfield 191, 3) := by decide +kernel
theorem dX11_evenings_86 : decode cX11_evenings 86 = .ok (.invokevirtual 174, 3) := by decide +kernel
theorem dX11_evenings_89 : decode cX11_evenings 89 = .ok (.ireturn, 1) := by decide +kernel
theorem dX11_fault_0 : decode cX11_fault 0 = .ok (.iload_n 1, 1) := by decide +kernel
theorem dX11_fault_1 : decode cX11_fault 1 = .ok (.ifCond .ne 8, 3) := by decide +kernel
theorem dX11_fault_4 : decode cX11_fault 4 = .ok (.aload_n 0, 1) := by decide +kernel
theorem dX11_fault_5 : decode cX11_fault 5 = .ok (.getfield 82, 3) := by decide +kernel
theorem dX11_fault_8 : decode cX11_fault 8 = .ok (.ireturn, 1) := by decide +kernel
theorem dX11_fault_9 : decode cX11_fault 9 = .ok (.iload_n 1, 1) := by decide +kernel
theorem dX11_fault_10 : decode cX11_fault 10 = .ok (.iconst 1, 1) := by decide +kernel
theorem dX11_fault_11 : decode cX11_fault 11 = .ok (.if_icmp .ne 10, 3) := by decide +kernel
theorem dX11_fault_14 : decode cX11_fault 14 = .ok (.aload_n 0, 1) := by decide +kernel
theorem dX11_fault_15 : decode cX11_fault 15 = .ok (.getfield 85, 3) := by decide +kernel
theorem dX11_fault_18 : decode cX11_fault 18 = .ok (.goto 4, 3) := by decide +kernel
theorem dX11_fault_21 : decode cX11_fault 21 = .ok (.iconst (-1), 1) := by decide +kernel
theorem dX11_fault_22 : decode cX11_fault 22 = .ok (.ireturn, 1) := by decide +kernel
theorem dX11_many_0 : decode cX11_many 0 = .ok (.aload_n 0, 1) := by decide +kernel
theorem dX11_many_1 : decode cX11_many 1 = .ok (.getfield 25, 3) := by decide +kernel
theorem dX11_many_4 : decode cX11_many 4 = .ok (.getfield 40, 3) := by decide +kernel
theorem dX11_many_7 : decode cX11_many 7 = .ok (.astore_n 2, 1) := by decide +kernel
theorem dX11_many_8 : decode cX11_many 8 = .ok (.iload_n 1, 1) := by decide +kernel
theorem dX11_many_9 : decode cX11_many 9 = .ok (.tableswitch 233 0 14 #[75, 84, 93, 102, 111, 120, 129, 138, 147, 156, 173, 182, 196, 209, 221], 75) := by decide +kernel
theorem dX11_many_84 : decode cX11_many 84 = .ok (.aload_n 0, 1) := by decide +kernel
theorem dX11_many_85 : decode cX11_many 85 = .ok (.aload_n 2, 1) := by decide +kernel
theorem dX11_many_86 : decode cX11_many 86 = .ok (.getfield 194, 3) := by decide +kernel
theorem dX11_many_89 : decode cX11_many 89 = .ok (.invokevirtual 174, 3) := by decide +kernel
theorem dX11_many_92 : decode cX11_many 92 = .ok (.ireturn, 1) := by decide +kernel
theorem dX11_many_93 : decode cX11_many 93 = .ok (.aload_n 0, 1) := by decide +kernel
theorem dX11_many_94 : decode cX11_many 94 = .ok (.aload_n 2, 1) := by decide +kernel
theorem dX11_many_95 : decode cX11_many 95 = .ok (.getfield 197, 3) := by decide +kernel
theorem dX11_many_98 : decode cX11_many 98 = .ok (.invokevirtual 174, 3) := by decide +kernel
theorem dX11_many_101 : decode cX11_many 101 = .ok (.ireturn, 1) := by decide +kernel
theorem dX11_many_102 : decode cX11_many 102 = .ok (.aload_n 0, 1) := by decide +kernel
theorem dX11_many_103 : decode cX11_many 103 = .ok (.aload_n 2, 1) := by decide +kernel
theorem dX11_many_104 : decode cX11_many 104 = .ok (.getfield 200, 3) := by decide +kernel
theorem dX11_many_107 : decode cX11_many 107 = .ok (.invokevirtual 174, 3) := by decide +kernel
theorem dX11_many_110 : decode cX11_many 110 = .ok (.ireturn, 1) := by decide +kernel
theorem dX11_many_111 : decode cX11_many 111 = .ok (.aload_n 0, 1) := by decide +kernel
theorem dX11_many_112 : decode cX11_many 112 = .ok (.aload_n 2, 1) := by decide +kernel
theorem dX11_many_113 : decode cX11_many 113 = .ok (.getfield 171, 3) := by decide +kernel
theorem dX11_many_116 : decode cX11_many 116 = .ok (.invokevirtual 174, 3) := by decide +kernel
theorem dX11_many_119 : decode cX11_many 119 = .ok (.ireturn, 1) := by decide +kernel
theorem dX11_many_120 : decode cX11_many 120 = .ok (.aload_n 0, 1) := by decide +kernel
theorem dX11_many_121 : decode cX11_many 121 = .ok (.aload_n 2, 1) := by decide +kernel
theorem dX11_many_122 : decode cX11_many 122 = .ok (.getfield 203, 3) := by decide +kernel
theorem dX11_many_125 : decode cX11_many 125 = .ok (.invokevirtual 174, 3) := by decide +kernel
theorem dX11_many_128 : decode cX11_many 128 = .ok (.ireturn, 1) := by decide +kernel
theorem dX11_many_129 : decode cX11_many 129 = .ok (.aload_n 0, 1) := by decide +kernel
theorem dX11_many_130 : decode cX11_many 130 = .ok (.aload_n 2, 1) := by decide +kernel
theorem dX11_many_131 : decode cX11_many 131 = .ok (.getfield 206, 3) := by decide +kernel
theorem dX11_many_134 : decode cX11_many 134 = .ok (.invokevirtual 174, 3) := by decide +kernel
theorem dX11_many_137 : decode cX11_many 137 = .ok (.ireturn, 1) := by decide +kernel
theorem dX11_many_138 : decode cX11_many 138 = .ok (.aload_n 0, 1) := by decide +kernel
theorem dX11_many_139 : decode cX11_many 139 = .ok (.aload_n 2, 1) := by decide +kernel
theorem dX11_many_140 : decode cX11_many 140 = .ok (.getfield 209, 3) := by decide +kernel
theorem dX11_many_143 : decode cX11_many 143 = .ok (.invokevirtual 174, 3) := by decide +kernel
theorem dX11_many_146 : decode cX11_many 146 = .ok (.ireturn, 1) := by decide +kernel
theorem dX11_many_147 : decode cX11_many 147 = .ok (.aload_n 0, 1) := by decide +kernel
theorem dX11_many_148 : decode cX11_many 148 = .ok (.aload_n 2, 1) := by decide +kernel
theorem dX11_many_149 : decode cX11_many 149 = .ok (.getfield 212, 3) := by decide +kernel
theorem dX11_many_152 : decode cX11_many 152 = .ok (.invokevirtual 174, 3) := by decide +kernel
theorem dX11_many_155 : decode cX11_many 155 = .ok (.ireturn, 1) := by decide +kernel
theorem dX11_many_156 : decode cX11_many 156 = .ok (.aload_n 0, 1) := by decide +kernel
theorem dX11_many_157 : decode cX11_many 157 = .ok (.aload_n 2, 1) := by decide +kernel
theorem dX11_many_158 : decode cX11_many 158 = .ok (.getfield 215, 3) := by decide +kernel
theorem dX11_many_161 : decode cX11_many 161 = .ok (.invokevirtual 174, 3) := by decide +kernel
theorem dX11_many_164 : decode cX11_many 164 = .ok (.ireturn, 1) := by decide +kernel
theorem dX11_many_165 : decode cX11_many 165 = .ok (.aload_n 0, 1) := by decide +kernel
theorem dX11_many_166 : decode cX11_many 166 = .ok (.aload_n 2, 1) := by decide +kernel
theorem dX11_many_167 : decode cX11_many 167 = .ok (.getfield 218, 3) := by decide +kernel
theorem dX11_many_170 : decode cX11_many 170 = .ok (.ifCond .eq 7, 3) := by decide +kernel
theorem dX11_many_173 : decode cX11_many 173 = .ok (.iconst 1, 1) := by decide +kernel
theorem dX11_many_174 : decode cX11_many 174 = .ok (.goto 4, 3) := by decide +kernel
theorem dX11_many_177 : decode cX11_many 177 = .ok (.iconst 0, 1) := by decide +kernel
theorem dX11_many_178 : decode cX11_many 178 = .ok (.invokevirtual 174, 3) := by decide +kernel
theorem dX11_many_181 : decode cX11_many 181 = .ok (.ireturn, 1) := by decide +kernel
theorem dX11_many_182 : decode cX11_many 182 = .ok (.aload_n 0, 1) := by decide +kernel
theorem dX11_many_183 : decode cX11_many 183 = .ok (.aload_n 2, 1) := by decide +kernel
theorem dX11_many_184 : decode cX11_many 184 = .ok (.invokevirtual 221, 3) := by decide +kernel
theorem dX11_many_187 : decode cX11_many 187 = .ok (.invokevirtual 174, 3) := by decide +kernel
theorem dX11_many_190 : decode cX11_many 190 = .ok (.ireturn, 1) := by decide +kernel
theorem dX11_many_191 : decode cX11_many 191 = .ok (.aload_n 0, 1) := by decide +kernel
theorem dX11_many_192 : decode cX11_many 192 = .ok (.aload_n 0, 1) := by decide +kernel
theorem dX11_many_193 : decode cX11_many 193 = .ok (.getfield 25, 3) := by decide +kernel
theorem dX11_many_196 : decode cX11_many 196 = .ok (.bipush (-2), 2) := by decide +kernel
theorem dX11_many_198 : decode cX11_many 198 = .ok (.invokevirtual 225, 3) := by decide +kernel
theorem dX11_many_201 : decode cX11_many 201 = .ok (.invokevirtual 174, 3) := by decide +kernel
theorem dX11_many_204 : decode cX11_many 204 = .ok (.ireturn, 1) := by decide +kernel
theorem dX11_many_205 : decode cX11_many 205 = .ok (.aload_n 0, 1) := by decide +kernel
theorem dX11_many_206 : decode cX11_many 206 = .ok (.aload_n 0, 1) := by decide +kernel
theorem dX11_many_207 : decode cX11_many 207 = .ok (.getfield 25, 3) := by decide +kernel
theorem dX11_many_210 : decode cX11_many 210 = .ok (.iconst (-1), 1) := by decide +kernel
theorem dX11_many_211 : decode cX11_many 211 = .ok (.invokevirtual 225, 3) := by decide +kernel
theorem dX11_many_214 : decode cX11_many 214 = .ok (.invokevirtual 174, 3) := by decide +kernel
theorem dX11_many_217 : decode cX11_many 217 = .ok (.ireturn, 1) := by decide +kernel
theorem dX11_many_218 : decode cX11_many 218 = .ok (.aload_n 0, 1) := by decide +kernel
theorem dX11_many_219 : decode cX11_many 219 = .ok (.aload_n 0, 1) := by decide +kernel
theorem dX11_many_220 : decode cX11_many 220 = .ok (.getfield 25, 3) := by decide +kernel
theorem dX11_many_223 : decode cX11_many 223 = .ok (.invokevirtual 228, 3) := by decide +kernel
theorem dX11_many_226 : decode cX11_many 226 = .ok (.invokevirtual 174, 3) := by decide +kernel
theorem dX11_many_229 : decode cX11_many 229 = .ok (.ireturn, 1) := by decide +kernel
theorem dX11_many_230 : decode cX11_many 230 = .ok (.aload_n 0, 1) := by decide +kernel
theorem dX11_many_231 : decode cX11_many 231 = .ok (.aload_n 0, 1) := by decide +kernel
theorem dX11_many_232 : decode cX11_many 232 = .ok (.getfield 25, 3) := by decide +kernel
theorem dX11_many_235 : decode cX11_many 235 = .ok (.invokevirtual 231, 3) := by decide +kernel
theorem dX11_many_238 : decode cX11_many 238 = .ok (.invokevirtual 174, 3) := by decide +kernel
theorem dX11_many_241 : decode cX11_many 241 = .ok (.ireturn, 1) := by decide +kernel
theorem dX11_many_242 : decode cX11_many 242 = .ok (.aload_n 0, 1) := by decide +kernel
theorem dX11_many_243 : decode cX11_many 243 = .ok (.iconst 5, 1) := by decide +kernel
theorem dX11_many_244 : decode cX11_many 244 = .ok (.invokevirtual 120, 3) := by decide +kernel
theorem dX11_many_247 : decode cX11_many 247 = .ok (.ireturn, 1) := by decide +kernel
theorem dX11_tune_0 : decode cX11_tune 0 = .ok (.aload_n 0, 1) := by decide +kernel
theorem dX11_tune_1 : decode cX11_tune 1 = .ok (.getfield 25, 3) := by decide +kernel
theorem dX11_tune_4 : decode cX11_tune 4 = .ok (.getfield 40, 3) := by decide +kernel
theorem dX11_tune_7 : decode cX11_tune 7 = .ok (.iload_n 1, 1) := by decide +kernel
theorem dX11_tune_8 : decode cX11_tune 8 = .ok (.invokevirtual 234, 3) := by decide +kernel
theorem dX11_tune_11 : decode cX11_tune 11 = .ok (.ifCond .ne 9, 3) := by decide +kernel
theorem dX11_tune_14 : decode cX11_tune 14 = .ok (.aload_n 0, 1) := by decide +kernel
theorem dX11_tune_15 : decode cX11_tune 15 = .ok (.iconst 2, 1) := by decide +kernel
theorem dX11_tune_16 : decode cX11_tune 16 = .ok (.invokevirtual 120, 3) := by decide +kernel
theorem dX11_tune_19 : decode cX11_tune 19 = .ok (.ireturn, 1) := by decide +kernel
theorem dX11_tune_20 : decode cX11_tune 20 = .ok (.aload_n 0, 1) := by decide +kernel
theorem dX11_tune_21 : decode cX11_tune 21 = .ok (.getfield 25, 3) := by decide +kernel
theorem dX11_tune_24 : decode cX11_tune 24 = .ok (.getfield 40, 3) := by decide +kernel
theorem dX11_tune_27 : decode cX11_tune 27 = .ok (.getfield 237, 3) := by decide +kernel
theorem dX11_tune_30 : decode cX11_tune 30 = .ok (.iload_n 1, 1) := by decide +kernel
theorem dX11_tune_31 : decode cX11_tune 31 = .ok (.aaload, 1) := by decide +kernel
theorem dX11_tune_32 : decode cX11_tune 32 = .ok (.astore_n 3, 1) := by decide +kernel
theorem dX11_tune_33 : decode cX11_tune 33 = .ok (.iload_n 2, 1) := by decide +kernel
theorem dX11_tune_34 : decode cX11_tune 34 = .ok (.tableswitch 53 0 2 #[26, 35, 44], 26) := by decide +kernel
theorem dX11_tune_60 : decode cX11_tune 60 = .ok (.aload_n 0, 1) := by decide +kernel
theorem dX11_tune_61 : decode cX11_tune 61 = .ok (.aload_n 3, 1) := by decide +kernel
theorem dX11_tune_62 : decode cX11_tune 62 = .ok (.getfield 241, 3) := by decide +kernel
theorem dX11_tune_65 : decode cX11_tune 65 = .ok (.invokevirtual 174, 3) := by decide +kernel
theorem dX11_tune_68 : decode cX11_tune 68 = .ok (.ireturn, 1) := by decide +kernel
theorem dX11_tune_69 : decode cX11_tune 69 = .ok (.aload_n 0, 1) := by decide +kernel
theorem dX11_tune_70 : decode cX11_tune 70 = .ok (.aload_n 3, 1) := by decide +kernel
theorem dX11_tune_71 : decode cX11_tune 71 = .ok (.getfield 246, 3) := by decide +kernel
theorem dX11_tune_74 : decode cX11_tune 74 = .ok (.invokevirtual 174, 3) := by decide +kernel
theorem dX11_tune_77 : decode cX11_tune 77 = .ok (.ireturn, 1) := by decide +kernel
theorem dX11_tune_78 : decode cX11_tune 78 = .ok (.aload_n 0, 1) := by decide +kernel
theorem dX11_tune_79 : decode cX11_tune 79 = .ok (.aload_n 3, 1) := by decide +kernel
theorem dX11_tune_80 : decode cX11_tune 80 = .ok (.getfield 249, 3) := by decide +kernel
theorem dX11_tune_83 : decode cX11_tune 83 = .ok (.invokevirtual 174, 3) := by decide +kernel
theorem dX11_tune_86 : decode cX11_tune 86 = .ok (.ireturn, 1) := by decide +kernel
theorem dX11_tune_87 : decode cX11_tune 87 = .ok (.aload_n 0, 1) := by decide +kernel
theorem dX11_tune_88 : decode cX11_tune 88 = .ok (.iconst 5, 1) := by decide +kernel
theorem dX11_tune_89 : decode cX11_tune 89 = .ok (.invokevirtual 120, 3) := by decide +kernel
theorem dX11_tune_92 : decode cX11_tune 92 = .ok (.ireturn, 1) := by decide +kernel
theorem dX11_band_0 : decode cX11_band 0 = .ok (.aload_n 0, 1) := by decide +kernel
theorem dX11_band_1 : decode cX11_band 1 = .ok (.getfield 25, 3) := by decide +kernel
theorem dX11_band_4 : decode cX11_band 4 = .ok (.getfield 40, 3) := by decide +kernel
theorem dX11_band_7 : decode cX11_band 7 = .ok (.iload_n 1, 1) := by decide +kernel
theorem dX11_band_8 : decode cX11_band 8 = .ok (.invokevirtual 252, 3) := by decide +kernel
theorem dX11_band_11 : decode cX11_band 11 = .ok (.ifCond .ne 9, 3) := by decide +kernel
theorem dX11_band_14 : decode cX11_band 14 = .ok (.aload_n 0, 1) := by decide +kernel
theorem dX11_band_15 : decode cX11_band 15 = .ok (.iconst 2, 1) := by decide +kernel
theorem dX11_band_16 : decode cX11_band 16 = .ok (.invokevirtual 120, 3) := by decide +kernel
theorem dX11_band_19 : decode cX11_band 19 = .ok (.ireturn, 1) := by decide +kernel
theorem dX11_band_20 : decode cX11_band 20 = .ok (.aload_n 0, 1) := by decide +kernel
theorem dX11_band_21 : decode cX11_band 21 = .ok (.getfield 25, 3) := by decide +kernel
theorem dX11_band_24 : decode cX11_band 24 = .ok (.getfield 40, 3) := by decide +kernel
theorem dX11_band_27 : decode cX11_band 27 = .ok (.getfield 255, 3) := by decide +kernel
theorem dX11_band_30 : decode cX11_band 30 = .ok (.iload_n 1, 1) := by decide +kernel
theorem dX11_band_31 : decode cX11_band 31 = .ok (.aaload, 1) := by decide +kernel
theorem dX11_band_32 : decode cX11_band 32 = .ok (.astore_n 3, 1) := by decide +kernel
theorem dX11_band_33 : decode cX11_band 33 = .ok (.iload_n 2, 1) := by decide +kernel
theorem dX11_band_34 : decode cX11_band 34 = .ok (.tableswitch 105 0 6 #[42, 51, 60, 69, 78, 87, 96], 42) := by decide +kernel
theorem dX11_band_76 : decode cX11_band 76 = .ok (.aload_n 0, 1) := by decide +kernel
theorem dX11_band_77 : decode cX11_band 77 = .ok (.aload_n 3, 1) := by decide +kernel
theorem dX11_band_78 : decode cX11_band 78 = .ok (.getfield 259, 3) := by decide +kernel
theorem dX11_band_81 : decode cX11_band 81 = .ok (.invokevirtual 174, 3) := by decide +kernel
theorem dX11_band_84 : decode cX11_band 84 = .ok (.ireturn, 1) := by decide +kernel
theorem dX11_band_85 : decode cX11_band 85 = .ok (.aload_n 0, 1) := by decide +kernel
theorem dX11_band_86 : decode cX11_band 86 = .ok (.aload_n 3, 1) := by decide +kernel
theorem dX11_band_87 : decode cX11_band 87 = .ok (.getfield 264, 3) := by decide +kernel
theorem dX11_band_90 : decode cX11_band 90 = .ok (.invokevirtual 174, 3) := by decide +kernel
theorem dX11_band_93 : decode cX11_band 93 = .ok (.ireturn, 1) := by decide +kernel
theorem dX11_band_94 : decode cX11_band 94 = .ok (.aload_n 0, 1) := by decide +kernel
theorem dX11_band_95 : decode cX11_band 95 = .ok (.aload_n 3, 1) := by decide +kernel
theorem dX11_band_96 : decode cX11_band 96 = .ok (.getfield 267, 3) := by decide +kernel
theorem dX11_band_99 : decode cX11_band 99 = .ok (.invokevirtual 174, 3) := by decide +kernel
theorem dX11_band_102 : decode cX11_band 102 = .ok (.ireturn, 1) := by decide +kernel
theorem dX11_band_103 : decode cX11_band 103 = .ok (.aload_n 0, 1) := by decide +kernel
theorem dX11_band_104 : decode cX11_band 104 = .ok (.aload_n 3, 1) := by decide +kernel
theorem dX11_band_105 : decode cX11_band 105 = .ok (.getfield 270, 3) := by decide +kernel
theorem dX11_band_108 : decode cX11_band 108 = .ok (.invokevirtual 174, 3) := by decide +kernel
theorem dX11_band_111 : decode cX11_band 111 = .ok (.ireturn, 1) := by decide +kernel
theorem dX11_band_112 : decode cX11_band 112 = .ok (.aload_n 0, 1) := by decide +kernel
theorem dX11_band_113 : decode cX11_band 113 = .ok (.aload_n 3, 1) := by decide +kernel
theorem dX11_band_114 : decode cX11_band 114 = .ok (.getfield 273, 3) := by decide +kernel
theorem dX11_band_117 : decode cX11_band 117 = .ok (.invokevirtual 174, 3) := by decide +kernel
theorem dX11_band_120 : decode cX11_band 120 = .ok (.ireturn, 1) := by decide +kernel
theorem dX11_band_121 : decode cX11_band 121 = .ok (.aload_n 0, 1) := by decide +kernel
theorem dX11_band_122 : decode cX11_band 122 = .ok (.aload_n 3, 1) := by decide +kernel
theorem dX11_band_123 : decode cX11_band 123 = .ok (.getfield 276, 3) := by decide +kernel
theorem dX11_band_126 : decode cX11_band 126 = .ok (.invokevirtual 174, 3) := by decide +kernel
theorem dX11_band_129 : decode cX11_band 129 = .ok (.ireturn, 1) := by decide +kernel
theorem dX11_band_130 : decode cX11_band 130 = .ok (.aload_n 0, 1) := by decide +kernel
theorem dX11_band_131 : decode cX11_band 131 = .ok (.aload_n 3, 1) := by decide +kernel
theorem dX11_band_132 : decode cX11_band 132 = .ok (.getfield 279, 3) := by decide +kernel
theorem dX11_band_135 : decode cX11_band 135 = .ok (.invokevirtual 174, 3) := by decide +kernel
theorem dX11_band_138 : decode cX11_band 138 = .ok (.ireturn, 1) := by decide +kernel
theorem dX11_band_139 : decode cX11_band 139 = .ok (.aload_n 0, 1) := by decide +kernel
theorem dX11_band_140 : decode cX11_band 140 = .ok (.iconst 5, 1) := by decide +kernel
theorem dX11_band_141 : decode cX11_band 141 = .ok (.invokevirtual 120, 3) := by decide +kernel
theorem dX11_band_144 : decode cX11_band 144 = .ok (.ireturn, 1) := by decide +kernel
theorem dX11_entry_0 : decode cX11_entry 0 = .ok (.aload_n 0, 1) := by decide +kernel
theorem dX11_entry_1 : decode cX11_entry 1 = .ok (.getfield 25, 3) := by decide +kernel
theorem dX11_entry_4 : decode cX11_entry 4 = .ok (.getfield 40, 3) := by decide +kernel
theorem dX11_entry_7 : decode cX11_entry 7 = .ok (.iload_n 1, 1) := by decide +kernel
theorem dX11_entry_8 : decode cX11_entry 8 = .ok (.invokevirtual 252, 3) := by decide +kernel
theorem dX11_entry_11 : decode cX11_entry 11 = .ok (.ifCond .ne 9, 3) := by decide +kernel
theorem dX11_entry_14 : decode cX11_entry 14 = .ok (.aload_n 0, 1) := by decide +kernel
theorem dX11_entry_15 : decode cX11_entry 15 = .ok (.iconst 2, 1) := by decide +kernel
theorem dX11_entry_16 : decode cX11_entry 16 = .ok (.invokevirtual 120, 3) := by decide +kernel
theorem dX11_entry_19 : decode cX11_entry 19 = .ok (.ireturn, 1) := by decide +kernel
theorem dX11_entry_20 : decode cX11_entry 20 = .ok (.aload_n 0, 1) := by decide +kernel
theorem dX11_entry_21 : decode cX11_entry 21 = .ok (.getfield 25, 3) := by decide +kernel
theorem dX11_entry_24 : decode cX11_entry 24 = .ok (.getfield 40, 3) := by decide +kernel
theorem dX11_entry_27 : decode cX11_entry 27 = .ok (.getfield 255, 3) := by decide +kernel
theorem dX11_entry_30 : decode cX11_entry 30 = .ok (.iload_n 1, 1) := by decide +kernel
theorem dX11_entry_31 : decode cX11_entry 31 = .ok (.aaload, 1) := by decide +kernel
theorem dX11_entry_32 : decode cX11_entry 32 = .ok (.astore_n 3, 1) := by decide +kernel
theorem dX11_entry_33 : decode cX11_entry 33 = .ok (.iload_n 2, 1) := by decide +kernel
theorem dX11_entry_34 : decode cX11_entry 34 = .ok (.ifCond .lt 11, 3) := by decide +kernel
theorem dX11_entry_37 : decode cX11_entry 37 = .ok (.iload_n 2, 1) := by decide +kernel
theorem dX11_entry_38 : decode cX11_entry 38 = .ok (.aload_n 3, 1) := by decide +kernel
theorem dX11_entry_39 : decode cX11_entry 39 = .ok (.getfield 279, 3) := by decide +kernel
theorem dX11_entry_42 : decode cX11_entry 42 = .ok (.if_icmp .lt 10, 3) := by decide +kernel
theorem dX11_entry_45 : decode cX11_entry 45 = .ok (.aload_n 0, 1) := by decide +kernel
theorem dX11_entry_46 : decode cX11_entry 46 = .ok (.bipush 8, 2) := by decide +kernel
theorem dX11_entry_48 : decode cX11_entry 48 = .ok (.invokevirtual 120, 3) := by decide +kernel
theorem dX11_entry_51 : decode cX11_entry 51 = .ok (.ireturn, 1) := by decide +kernel
theorem dX11_entry_52 : decode cX11_entry 52 = .ok (.aload_n 0, 1) := by decide +kernel
theorem dX11_entry_53 : decode cX11_entry 53 = .ok (.aload_n 3, 1) := by decide +kernel
theorem dX11_entry_54 : decode cX11_entry 54 = .ok (.getfield 282, 3) := by decide +kernel
theorem dX11_entry_57 : decode cX11_entry 57 = .ok (.iload_n 2, 1) := by decide +kernel
theorem dX11_entry_58 : decode cX11_entry 58 = .ok (.iaload, 1) := by decide +kernel
theorem dX11_entry_59 : decode cX11_entry 59 = .ok (.invokevirtual 174, 3) := by decide +kernel
theorem dX11_entry_62 : decode cX11_entry 62 = .ok (.ireturn, 1) := by decide +kernel
theorem dX11_pond_0 : decode cX11_pond 0 = .ok (.aload_n 0, 1) := by decide +kernel
theorem dX11_pond_1 : decode cX11_pond 1 = .ok (.getfield 25, 3) := by decide +kernel
theorem dX11_pond_4 : decode cX11_pond 4 = .ok (.getfield 40, 3) := by decide +kernel
theorem dX11_pond_7 : decode cX11_pond 7 = .ok (.iload_n 1, 1) := by decide +kernel
theorem dX11_pond_8 : decode cX11_pond 8 = .ok (.iload_n 2, 1) := by decide +kernel
theorem dX11_pond_9 : decode cX11_pond 9 = .ok (.invokevirtual 285, 3) := by decide +kernel
theorem dX11_pond_12 : decode cX11_pond 12 = .ok (.istore_n 3, 1) := by decide +kernel
theorem dX11_pond_13 : decode cX11_pond 13 = .ok (.iload_n 3, 1) := by decide +kernel
theorem dX11_pond_14 : decode cX11_pond 14 = .ok (.iconst (-1), 1) := by decide +kernel
theorem dX11_pond_15 : decode cX11_pond 15 = .ok (.if_icmp .ne 9, 3) := by decide +kernel
theorem dX11_pond_18 : decode cX11_pond 18 = .ok (.aload_n 0, 1) := by decide +kernel
theorem dX11_pond_19 : decode cX11_pond 19 = .ok (.iconst 2, 1) := by decide +kernel
theorem dX11_pond_20 : decode cX11_pond 20 = .ok (.invokevirtual 120, 3) := by decide +kernel
theorem dX11_pond_23 : decode cX11_pond 23 = .ok (.ireturn, 1) := by decide +kernel
theorem dX11_pond_24 : decode cX11_pond 24 = .ok (.aload_n 0, 1) := by decide +kernel
theorem dX11_pond_25 : decode cX11_pond 25 = .ok (.aload_n 0, 1) := by decide +kernel
theorem dX11_pond_26 : decode cX11_pond 26 = .ok (.getfield 25, 3) := by decide +kernel
theorem dX11_pond_29 : decode cX11_pond 29 = .ok (.getfield 40, 3) := by decide +kernel
theorem dX11_pond_32 : decode cX11_pond 32 = .ok (.getfield 288, 3) := by decide +kernel
theorem dX11_pond_35 : decode cX11_pond 35 = .ok (.iload_n 3, 1) := by decide +kernel
theorem dX11_pond_36 : decode cX11_pond 36 = .ok (.baload, 1) := by decide +kernel
theorem dX11_pond_37 : decode cX11_pond 37 = .ok (.ifCond .eq 7, 3) := by decide +kernel
theorem dX11_pond_40 : decode cX11_pond 40 = .ok (.iconst 1, 1) := by decide +kernel
theorem dX11_pond_41 : decode cX11_pond 41 = .ok (.goto 4, 3) := by decide +kernel
theorem dX11_pond_44 : decode cX11_pond 44 = .ok (.iconst 0, 1) := by decide +kernel
theorem dX11_pond_45 : decode cX11_pond 45 = .ok (.invokevirtual 174, 3) := by decide +kernel
theorem dX11_pond_48 : decode cX11_pond 48 = .ok (.ireturn, 1) := by decide +kernel
theorem dX11_hour_0 : decode cX11_hour 0 = .ok (.iload_n 1, 1) := by decide +kernel
theorem dX11_hour_1 : decode cX11_hour 1 = .ok (.iconst 1, 1) := by decide +kernel
theorem dX11_hour_2 : decode cX11_hour 2 = .ok (.if_icmp .lt 9, 3) := by decide +kernel
theorem dX11_hour_5 : decode cX11_hour 5 = .ok (.iload_n 1, 1) := by decide +kernel
theorem dX11_hour_6 : decode cX11_hour 6 = .ok (.bipush 99, 2) := by decide +kernel
theorem dX11_hour_8 : decode cX11_hour 8 = .ok (.if_icmp .le 9, 3) := by decide +kernel
theorem dX11_hour_11 : decode cX11_hour 11 = .ok (.aload_n 0, 1) := by decide +kernel
theorem dX11_hour_12 : decode cX11_hour 12 = .ok (.iconst 5, 1) := by decide +kernel
theorem dX11_hour_13 : decode cX11_hour 13 = .ok (.invokevirtual 120, 3) := by decide +kernel
theorem dX11_hour_16 : decode cX11_hour 16 = .ok (.ireturn, 1) := by decide +kernel
theorem dX11_hour_17 : decode cX11_hour 17 = .ok (.aload_n 0, 1) := by decide +kernel
theorem dX11_hour_18 : decode cX11_hour 18 = .ok (.getfield 25, 3) := by decide +kernel
theorem dX11_hour_21 : decode cX11_hour 21 = .ok (.getfield 40, 3) := by decide +kernel
theorem dX11_hour_24 : decode cX11_hour 24 = .ok (.getfield 212, 3) := by decide +kernel
theorem dX11_hour_27 : decode cX11_hour 27 = .ok (.iload_n 1, 1) := by decide +kernel
theorem dX11_hour_28 : decode cX11_hour 28 = .ok (.iadd, 1) := by decide +kernel
theorem dX11_hour_29 : decode cX11_hour 29 = .ok (.sipush 9999, 3) := by decide +kernel
theorem dX11_hour_32 : decode cX11_hour 32 = .ok (.if_icmp .le 10, 3) := by decide +kernel
theorem dX11_hour_35 : decode cX11_hour 35 = .ok (.aload_n 0, 1) := by decide +kernel
theorem dX11_hour_36 : decode cX11_hour 36 = .ok (.bipush 7, 2) := by decide +kernel
theorem dX11_hour_38 : decode cX11_hour 38 = .ok (.invokevirtual 120, 3) := by decide +kernel
theorem dX11_hour_41 : decode cX11_hour 41 = .ok (.ireturn, 1) := by decide +kernel
theorem dX11_hour_42 : decode cX11_hour 42 = .ok (.aload_n 0, 1) := by decide +kernel
theorem dX11_hour_43 : decode cX11_hour 43 = .ok (.aload_n 0, 1) := by decide +kernel
theorem dX11_hour_44 : decode cX11_hour 44 = .ok (.getfield 25, 3) := by decide +kernel
theorem dX11_hour_47 : decode cX11_hour 47 = .ok (.iload_n 1, 1) := by decide +kernel
theorem dX11_hour_48 : decode cX11_hour 48 = .ok (.invokevirtual 292, 3) := by decide +kernel
theorem dX11_hour_51 : decode cX11_hour 51 = .ok (.invokevirtual 174, 3) := by decide +kernel
theorem dX11_hour_54 : decode cX11_hour 54 = .ok (.ireturn, 1) := by decide +kernel
theorem dX11_wind_0 : decode cX11_wind 0 = .ok (.iload_n 1, 1) := by decide +kernel
theorem dX11_wind_1 : decode cX11_wind 1 = .ok (.ifCond .lt 8, 3) := by decide +kernel
theorem dX11_wind_4 : decode cX11_wind 4 = .ok (.iload_n 1, 1) := by decide +kernel
theorem dX11_wind_5 : decode cX11_wind 5 = .ok (.iconst 4, 1) := by decide +kernel
theorem dX11_wind_6 : decode cX11_wind 6 = .ok (.if_icmp .le 9, 3) := by decide +kernel
theorem dX11_wind_9 : decode cX11_wind 9 = .ok (.aload_n 0, 1) := by decide +kernel
theorem dX11_wind_10 : decode cX11_wind 10 = .ok (.iconst 5, 1) := by decide +kernel
theorem dX11_wind_11 : decode cX11_wind 11 = .ok (.invokevirtual 101, 3) := by decide +kernel
theorem dX11_wind_14 : decode cX11_wind 14 = .ok (.ireturn, 1) := by decide +kernel
theorem dX11_wind_15 : decode cX11_wind 15 = .ok (.aload_n 0, 1) := by decide +kernel
theorem dX11_wind_16 : decode cX11_wind 16 = .ok (.getfield 25, 3) := by decide +kernel
theorem dX11_wind_19 : decode cX11_wind 19 = .ok (.getfield 40, 3) := by decide +kernel
theorem dX11_wind_22 : decode cX11_wind 22 = .ok (.iload_n 1, 1) := by decide +kernel
theorem dX11_wind_23 : decode cX11_wind 23 = .ok (.invokevirtual 295, 3) := by decide +kernel
theorem dX11_wind_26 : decode cX11_wind 26 = .ok (.ifCond .ne 10, 3) := by decide +kernel
theorem dX11_wind_29 : decode cX11_wind 29 = .ok (.aload_n 0, 1) := by decide +kernel
theorem dX11_wind_30 : decode cX11_wind 30 = .ok (.bipush 9, 2) := by decide +kernel
theorem dX11_wind_32 : decode cX11_wind 32 = .ok (.invokevirtual 101, 3) := by decide +kernel
theorem dX11_wind_35 : decode cX11_wind 35 = .ok (.ireturn, 1) := by decide +kernel
theorem dX11_wind_36 : decode cX11_wind 36 = .ok (.aload_n 0, 1) := by decide +kernel
theorem dX11_wind_37 : decode cX11_wind 37 = .ok (.invokevirtual 108, 3) := by decide +kernel
theorem dX11_wind_40 : decode cX11_wind 40 = .ok (.ireturn, 1) := by decide +kernel
theorem dX11_rain_0 : decode cX11_rain 0 = .ok (.aload_n 0, 1) := by decide +kernel
theorem dX11_rain_1 : decode cX11_rain 1 = .ok (.getfield 25, 3) := by decide +kernel
theorem dX11_rain_4 : decode cX11_rain 4 = .ok (.getfield 40, 3) := by decide +kernel
theorem dX11_rain_7 : decode cX11_rain 7 = .ok (.iload_n 1, 1) := by decide +kernel
theorem dX11_rain_8 : decode cX11_rain 8 = .ok (.invokevirtual 298, 3) := by decide +kernel
theorem dX11_rain_11 : decode cX11_rain 11 = .ok (.ifCond .ne 10, 3) := by decide +kernel
theorem dX11_rain_14 : decode cX11_rain 14 = .ok (.aload_n 0, 1) := by decide +kernel
theorem dX11_rain_15 : decode cX11_rain 15 = .ok (.bipush 9, 2) := by decide +kernel
theorem dX11_rain_17 : decode cX11_rain 17 = .ok (.invokevirtual 101, 3) := by decide +kernel
theorem dX11_rain_20 : decode cX11_rain 20 = .ok (.ireturn, 1) := by decide +kernel
theorem dX11_rain_21 : decode cX11_rain 21 = .ok (.aload_n 0, 1) := by decide +kernel
theorem dX11_rain_22 : decode cX11_rain 22 = .ok (.invokevirtual 108, 3) := by decide +kernel
theorem dX11_rain_25 : decode cX11_rain 25 = .ok (.ireturn, 1) := by decide +kernel
theorem dX11_set_0 : decode cX11_set 0 = .ok (.aload_n 0, 1) := by decide +kernel
theorem dX11_set_1 : decode cX11_set 1 = .ok (.getfield 25, 3) := by decide +kernel
theorem dX11_set_4 : decode cX11_set 4 = .ok (.getfield 40, 3) := by decide +kernel
theorem dX11_set_7 : decode cX11_set 7 = .ok (.iload_n 1, 1) := by decide +kernel
theorem dX11_set_8 : decode cX11_set 8 = .ok (.invokevirtual 252, 3) := by decide +kernel
theorem dX11_set_11 : decode cX11_set 11 = .ok (.ifCond .eq 17, 3) := by decide +kernel
theorem dX11_set_14 : decode cX11_set 14 = .ok (.aload_n 0, 1) := by decide +kernel
theorem dX11_set_15 : decode cX11_set 15 = .ok (.getfield 25, 3) := by decide +kernel
theorem dX11_set_18 : decode cX11_set 18 = .ok (.getfield 40, 3) := by decide +kernel
theorem dX11_set_21 : decode cX11_set 21 = .ok (.iload_n 3, 1) := by decide +kernel
theorem dX11_set_22 : decode cX11_set 22 = .ok (.invokevirtual 302, 3) := by decide +kernel
theorem dX11_set_25 : decode cX11_set 25 = .ok (.ifCond .ne 9, 3) := by decide +kernel
theorem dX11_set_28 : decode cX11_set 28 = .ok (.aload_n 0, 1) := by decide +kernel
theorem dX11_set_29 : decode cX11_set 29 = .ok (.iconst 2, 1) := by decide +kernel
theorem dX11_set_30 : decode cX11_set 30 = .ok (.invokevirtual 120, 3) := by decide +kernel
theorem dX11_set_33 : decode cX11_set 33 = .ok (.ireturn, 1) := by decide +kernel
theorem dX11_set_34 : decode cX11_set 34 = .ok (.aload_n 0, 1) := by decide +kernel
theorem dX11_set_35 : decode cX11_set 35 = .ok (.getfield 25, 3) := by decide +kernel
theorem dX11_set_38 : decode cX11_set 38 = .ok (.getfield 40, 3) := by decide +kernel
theorem dX11_set_41 : decode cX11_set 41 = .ok (.getfield 255, 3) := by decide +kernel
theorem dX11_set_44 : decode cX11_set 44 = .ok (.iload_n 1, 1) := by decide +kernel
theorem dX11_set_45 : decode cX11_set 45 = .ok (.aaload, 1) := by decide +kernel
theorem dX11_set_46 : decode cX11_set 46 = .ok (.astore 4, 2) := by decide +kernel
theorem dX11_set_48 : decode cX11_set 48 = .ok (.iload_n 2, 1) := by decide +kernel
theorem dX11_set_49 : decode cX11_set 49 = .ok (.ifCond .lt 18, 3) := by decide +kernel
theorem dX11_set_52 : decode cX11_set 52 = .ok (.iload_n 2, 1) := by decide +kernel
theorem dX11_set_53 : decode cX11_set 53 = .ok (.bipush 6, 2) := by decide +kernel
theorem dX11_set_55 : decode cX11_set 55 = .ok (.if_icmp .ge 12, 3) := by decide +kernel
theorem dX11_set_58 : decode cX11_set 58 = .ok (.iload_n 2, 1) := by decide +kernel
theorem dX11_set_59 : decode cX11_set 59 = .ok (.aload 4, 2) := by decide +kernel
theorem dX11_set_61 : decode cX11_set 61 = .ok (.getfield 279, 3) := by decide +kernel
theorem dX11_set_64 : decode cX11_set 64 = .ok (.if_icmp .le 9, 3) := by decide +kernel
theorem dX11_set_67 : decode cX11_set 67 = .ok (.aload_n 0, 1) := by decide +kernel
theorem dX11_set_68 : decode cX11_set 68 = .ok (.iconst 5, 1) := by decide +kernel
theorem dX11_set_69 : decode cX11_set 69 = .ok (.invokevirtual 120, 3) := by decide +kernel
theorem dX11_set_72 : decode cX11_set 72 = .ok (.ireturn, 1) := by decide +kernel
theorem dX11_set_73 : decode cX11_set 73 = .ok (.aload 4, 2) := by decide +kernel
theorem dX11_set_75 : decode cX11_set 75 = .ok (.getfield 282, 3) := by decide +kernel
theorem dX11_set_78 : decode cX11_set 78 = .ok (.iload_n 2, 1) := by decide +kernel
theorem dX11_set_79 : decode cX11_set 79 = .ok (.iload_n 3, 1) := by decide +kernel
theorem dX11_set_80 : decode cX11_set 80 = .ok (.iastore, 1) := by decide +kernel
theorem dX11_set_81 : decode cX11_set 81 = .ok (.aload 4, 2) := by decide +kernel
theorem dX11_set_83 : decode cX11_set 83 = .ok (.aload 4, 2) := by decide +kernel
theorem dX11_set_85 : decode cX11_set 85 = .ok (.getfield 279, 3) := by decide +kernel
theorem dX11_set_88 : decode cX11_set 88 = .ok (.iload_n 2, 1) := by decide +kernel
theorem dX11_set_89 : decode cX11_set 89 = .ok (.iconst 1, 1) := by decide +kernel
theorem dX11_set_90 : decode cX11_set 90 = .ok (.iadd, 1) := by decide +kernel
theorem dX11_set_91 : decode cX11_set 91 = .ok (.invokestatic 305, 3) := by decide +kernel
theorem dX11_set_94 : decode cX11_set 94 = .ok (.putfield 279, 3) := by decide +kernel
theorem dX11_set_97 : decode cX11_set 97 = .ok (.aload_n 0, 1) := by decide +kernel
theorem dX11_set_98 : decode cX11_set 98 = .ok (.aload 4, 2) := by decide +kernel
theorem dX11_set_100 : decode cX11_set 100 = .ok (.getfield 279, 3) := by decide +kernel
theorem dX11_set_103 : decode cX11_set 103 = .ok (.invokevirtual 174, 3) := by decide +kernel
theorem dX11_set_106 : decode cX11_set 106 = .ok (.ireturn, 1) := by decide +kernel
theorem dX11_drop_0 : decode cX11_drop 0 = .ok (.aload_n 0, 1) := by decide +kernel
theorem dX11_drop_1 : decode cX11_drop 1 = .ok (.getfield 25, 3) := by decide +kernel
theorem dX11_drop_4 : decode cX11_drop 4 = .ok (.getfield 40, 3) := by decide +kernel
theorem dX11_drop_7 : decode cX11_drop 7 = .ok (.iload_n 1, 1) := by decide +kernel
theorem dX11_drop_8 : decode cX11_drop 8 = .ok (.invokevirtual 252, 3) := by decide +kernel
theorem dX11_drop_11 : decode cX11_drop 11 = .ok (.ifCond .ne 9, 3) := by decide +kernel
theorem dX11_drop_14 : decode cX11_drop 14 = .ok (.aload_n 0, 1) := by decide +kernel
theorem dX11_drop_15 : decode cX11_drop 15 = .ok (.iconst 2, 1) := by decide +kernel
theorem dX11_drop_16 : decode cX11_drop 16 = .ok (.invokevirtual 120, 3) := by decide +kernel
theorem dX11_drop_19 : decode cX11_drop 19 = .ok (.ireturn, 1) := by decide +kernel
theorem dX11_drop_20 : decode cX11_drop 20 = .ok (.aload_n 0, 1) := by decide +kernel
theorem dX11_drop_21 : decode cX11_drop 21 = .ok (.getfield 25, 3) := by decide +kernel
theorem dX11_drop_24 : decode cX11_drop 24 = .ok (.getfield 40, 3) := by decide +kernel
theorem dX11_drop_27 : decode cX11_drop 27 = .ok (.getfield 255, 3) := by decide +kernel
theorem dX11_drop_30 : decode cX11_drop 30 = .ok (.iload_n 1, 1) := by decide +kernel
theorem dX11_drop_31 : decode cX11_drop 31 = .ok (.aaload, 1) := by decide +kernel
theorem dX11_drop_32 : decode cX11_drop 32 = .ok (.astore_n 2, 1) := by decide +kernel
theorem dX11_drop_33 : decode cX11_drop 33 = .ok (.aload_n 2, 1) := by decide +kernel
theorem dX11_drop_34 : decode cX11_drop 34 = .ok (.getfield 279, 3) := by decide +kernel
theorem dX11_drop_37 : decode cX11_drop 37 = .ok (.ifCond .ne 10, 3) := by decide +kernel
theorem dX11_drop_40 : decode cX11_drop 40 = .ok (.aload_n 0, 1) := by decide +kernel
theorem dX11_drop_41 : decode cX11_drop 41 = .ok (.bipush 8, 2) := by decide +kernel
theorem dX11_drop_43 : decode cX11_drop 43 = .ok (.invokevirtual 120, 3) := by decide +kernel
theorem dX11_drop_46 : decode cX11_drop 46 = .ok (.ireturn, 1) := by decide +kernel
theorem dX11_drop_47 : decode cX11_drop 47 = .ok (.aload_n 2, 1) := by decide +kernel
theorem dX11_drop_48 : decode cX11_drop 48 = .ok (.dup, 1) := by decide +kernel
theorem dX11_drop_49 : decode cX11_drop 49 = .ok (.getfield 279, 3) := by decide +kernel
theorem dX11_drop_52 : decode cX11_drop 52 = .ok (.iconst 1, 1) := by decide +kernel
theorem dX11_drop_53 : decode cX11_drop 53 = .ok (.isub, 1) := by decide +kernel
theorem dX11_drop_54 : decode cX11_drop 54 = .ok (.putfield 279, 3) := by decide +kernel
theorem dX11_drop_57 : decode cX11_drop 57 = .ok (.aload_n 0, 1) := by decide +kernel
theorem dX11_drop_58 : decode cX11_drop 58 = .ok (.aload_n 2, 1) := by decide +kernel
theorem dX11_drop_59 : decode cX11_drop 59 = .ok (.getfield 279, 3) := by decide +kernel
theorem dX11_drop_62 : decode cX11_drop 62 = .ok (.invokevirtual 174, 3) := by decide +kernel
theorem dX11_drop_65 : decode cX11_drop 65 = .ok (.ireturn, 1) := by decide +kernel
theorem dX11_move_0 : decode cX11_move 0 = .ok (.aload_n 0, 1) := by decide +kernel
theorem dX11_move_1 : decode cX11_move 1 = .ok (.getfield 25, 3) := by decide +kernel
theorem dX11_move_4 : decode cX11_move 4 = .ok (.getfield 40, 3) := by decide +kernel
theorem dX11_move_7 : decode cX11_move 7 = .ok (.iload_n 1, 1) := by decide +kernel
theorem dX11_move_8 : decode cX11_move 8 = .ok (.invokevirtual 252, 3) := by decide +kernel
theorem dX11_move_11 : decode cX11_move 11 = .ok (.ifCond .eq 19, 3) := by decide +kernel
theorem dX11_move_14 : decode cX11_move 14 = .ok (.aload_n 0, 1) := by decide +kernel
theorem dX11_move_15 : decode cX11_move 15 = .ok (.getfield 25, 3) := by decide +kernel
theorem dX11_move_18 : decode cX11_move 18 = .ok (.getfield 40, 3) := by decide +kernel
theorem dX11_move_21 : decode cX11_move 21 = .ok (.iload_n 2, 1) := by decide +kernel
theorem dX11_move_22 : decode cX11_move 22 = .ok (.iload_n 3, 1) := by decide +kernel
theorem dX11_move_23 : decode cX11_move 23 = .ok (.invokevirtual 285, 3) := by decide +kernel
theorem dX11_move_26 : decode cX11_move 26 = .ok (.iconst (-1), 1) := by decide +kernel
theorem dX11_move_27 : decode cX11_move 27 = .ok (.if_icmp .ne 9, 3) := by decide +kernel
theorem dX11_move_30 : decode cX11_move 30 = .ok (.aload_n 0, 1) := by decide +kernel
theorem dX11_move_31 : decode cX11_move 31 = .ok (.iconst 2, 1) := by decide +kernel
theorem dX11_move_32 : decode cX11_move 32 = .ok (.invokevirtual 101, 3) := by decide +kernel
theorem dX11_move_35 : decode cX11_move 35 = .ok (.ireturn, 1) := by decide +kernel
theorem dX11_move_36 : decode cX11_move 36 = .ok (.aload_n 0, 1) := by decide +kernel
theorem dX11_move_37 : decode cX11_move 37 = .ok (.getfield 25, 3) := by decide +kernel
theorem dX11_move_40 : decode cX11_move 40 = .ok (.getfield 40, 3) := by decide +kernel
theorem dX11_move_43 : decode cX11_move 43 = .ok (.iload_n 2, 1) := by decide +kernel
theorem dX11_move_44 : decode cX11_move 44 = .ok (.iload_n 3, 1) := by decide +kernel
theorem dX11_move_45 : decode cX11_move 45 = .ok (.invokevirtual 310, 3) := by decide +kernel
theorem dX11_move_48 : decode cX11_move 48 = .ok (.ifCond .eq 10, 3) := by decide +kernel
theorem dX11_move_51 : decode cX11_move 51 = .ok (.aload_n 0, 1) := by decide +kernel
theorem dX11_move_52 : decode cX11_move 52 = .ok (.bipush 9, 2) := by decide +kernel
theorem dX11_move_54 : decode cX11_move 54 = .ok (.invokevirtual 101, 3) := by decide +kernel
theorem dX11_move_57 : decode cX11_move 57 = .ok (.ireturn, 1) := by decide +kernel
theorem dX11_move_58 : decode cX11_move 58 = .ok (.aload_n 0, 1) := by decide +kernel
theorem dX11_move_59 : decode cX11_move 59 = .ok (.getfield 25, 3) := by decide +kernel
theorem dX11_move_62 : decode cX11_move 62 = .ok (.getfield 40, 3) := by decide +kernel
theorem dX11_move_65 : decode cX11_move 65 = .ok (.iload_n 1, 1) := by decide +kernel
theorem dX11_move_66 : decode cX11_move 66 = .ok (.iload_n 2, 1) := by decide +kernel
theorem dX11_move_67 : decode cX11_move 67 = .ok (.iload_n 3, 1) := by decide +kernel
theorem dX11_move_68 : decode cX11_move 68 = .ok (.invokevirtual 313, 3) := by decide +kernel
theorem dX11_move_71 : decode cX11_move 71 = .ok (.aload_n 0, 1) := by decide +kernel
theorem dX11_move_72 : decode cX11_move 72 = .ok (.invokevirtual 108, 3) := by decide +kernel
theorem dX11_move_75 : decode cX11_move 75 = .ok (.ireturn, 1) := by decide +kernel
theorem dX11_train_0 : decode cX11_train 0 = .ok (.aload_n 0, 1) := by decide +kernel
theorem dX11_train_1 : decode cX11_train 1 = .ok (.getfield 25, 3) := by decide +kernel
theorem dX11_train_4 : decode cX11_train 4 = .ok (.getfield 40, 3) := by decide +kernel
theorem dX11_train_7 : decode cX11_train 7 = .ok (.iload_n 1, 1) := by decide +kernel
theorem dX11_train_8 : decode cX11_train 8 = .ok (.invokevirtual 252, 3) := by decide +kernel
theorem dX11_train_11 : decode cX11_train 11 = .ok (.ifCond .ne 9, 3) := by decide +kernel
theorem dX11_train_14 : decode cX11_train 14 = .ok (.aload_n 0, 1) := by decide +kernel
theorem dX11_train_15 : decode cX11_train 15 = .ok (.iconst 2, 1) := by decide +kernel
