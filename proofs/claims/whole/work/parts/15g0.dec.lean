theorem dX12_init_0 : decode cX12_init 0 = .ok (.aload_n 0, 1) := by decide +kernel
theorem dX12_init_1 : decode cX12_init 1 = .ok (.invokespecial 1, 3) := by decide +kernel
theorem dX12_init_4 : decode cX12_init 4 = .ok (.aload_n 0, 1) := by decide +kernel
theorem dX12_init_5 : decode cX12_init 5 = .ok (.lconst 1, 1) := by decide +kernel
theorem dX12_init_6 : decode cX12_init 6 = .ok (.putfield 7, 3) := by decide +kernel
theorem dX12_init_9 : decode cX12_init 9 = .ok (.aload_n 0, 1) := by decide +kernel
theorem dX12_init_10 : decode cX12_init 10 = .ok (.iconst 4, 1) := by decide +kernel
theorem dX12_init_11 : decode cX12_init 11 = .ok (.newarray .int, 2) := by decide +kernel
theorem dX12_init_13 : decode cX12_init 13 = .ok (.putfield 13, 3) := by decide +kernel
theorem dX12_init_16 : decode cX12_init 16 = .ok (.aload_n 0, 1) := by decide +kernel
theorem dX12_init_17 : decode cX12_init 17 = .ok (.iconst 4, 1) := by decide +kernel
theorem dX12_init_18 : decode cX12_init 18 = .ok (.newarray .int, 2) := by decide +kernel
theorem dX12_init_20 : decode cX12_init 20 = .ok (.putfield 17, 3) := by decide +kernel
theorem dX12_init_23 : decode cX12_init 23 = .ok (.aload_n 0, 1) := by decide +kernel
theorem dX12_init_24 : decode cX12_init 24 = .ok (.sipush 240, 3) := by decide +kernel
theorem dX12_init_27 : decode cX12_init 27 = .ok (.newarray .long, 2) := by decide +kernel
theorem dX12_init_29 : decode cX12_init 29 = .ok (.putfield 20, 3) := by decide +kernel
theorem dX12_init_32 : decode cX12_init 32 = .ok (.aload_n 0, 1) := by decide +kernel
theorem dX12_init_33 : decode cX12_init 33 = .ok (.sipush 900, 3) := by decide +kernel
theorem dX12_init_36 : decode cX12_init 36 = .ok (.newarray .byte, 2) := by decide +kernel
theorem dX12_init_38 : decode cX12_init 38 = .ok (.putfield 24, 3) := by decide +kernel
theorem dX12_init_41 : decode cX12_init 41 = .ok (.aload_n 0, 1) := by decide +kernel
theorem dX12_init_42 : decode cX12_init 42 = .ok (.iconst (-1), 1) := by decide +kernel
theorem dX12_init_43 : decode cX12_init 43 = .ok (.putfield 28, 3) := by decide +kernel
theorem dX12_init_46 : decode cX12_init 46 = .ok (.aload_n 0, 1) := by decide +kernel
theorem dX12_init_47 : decode cX12_init 47 = .ok (.iconst (-1), 1) := by decide +kernel
theorem dX12_init_48 : decode cX12_init 48 = .ok (.putfield 32, 3) := by decide +kernel
theorem dX12_init_51 : decode cX12_init 51 = .ok (.aload_n 0, 1) := by decide +kernel
theorem dX12_init_52 : decode cX12_init 52 = .ok (.sipush 2040, 3) := by decide +kernel
theorem dX12_init_55 : decode cX12_init 55 = .ok (.newarray .int, 2) := by decide +kernel
theorem dX12_init_57 : decode cX12_init 57 = .ok (.putfield 35, 3) := by decide +kernel
theorem dX12_init_60 : decode cX12_init 60 = .ok (.aload_n 0, 1) := by decide +kernel
theorem dX12_init_61 : decode cX12_init 61 = .ok (.sipush 136, 3) := by decide +kernel
theorem dX12_init_64 : decode cX12_init 64 = .ok (.newarray .int, 2) := by decide +kernel
theorem dX12_init_66 : decode cX12_init 66 = .ok (.putfield 38, 3) := by decide +kernel
theorem dX12_init_69 : decode cX12_init 69 = .ok (.aload_n 0, 1) := by decide +kernel
theorem dX12_init_70 : decode cX12_init 70 = .ok (.sipush 136, 3) := by decide +kernel
theorem dX12_init_73 : decode cX12_init 73 = .ok (.newarray .int, 2) := by decide +kernel
theorem dX12_init_75 : decode cX12_init 75 = .ok (.putfield 41, 3) := by decide +kernel
theorem dX12_init_78 : decode cX12_init 78 = .ok (.aload_n 0, 1) := by decide +kernel
theorem dX12_init_79 : decode cX12_init 79 = .ok (.bipush 60, 2) := by decide +kernel
theorem dX12_init_81 : decode cX12_init 81 = .ok (.newarray .long, 2) := by decide +kernel
theorem dX12_init_83 : decode cX12_init 83 = .ok (.putfield 44, 3) := by decide +kernel
theorem dX12_init_86 : decode cX12_init 86 = .ok (.aload_n 0, 1) := by decide +kernel
theorem dX12_init_87 : decode cX12_init 87 = .ok (.bipush 6, 2) := by decide +kernel
theorem dX12_init_89 : decode cX12_init 89 = .ok (.newarray .int, 2) := by decide +kernel
theorem dX12_init_91 : decode cX12_init 91 = .ok (.putfield 47, 3) := by decide +kernel
theorem dX12_init_94 : decode cX12_init 94 = .ok (.aload_n 0, 1) := by decide +kernel
theorem dX12_init_95 : decode cX12_init 95 = .ok (.bipush 6, 2) := by decide +kernel
theorem dX12_init_97 : decode cX12_init 97 = .ok (.newarray .int, 2) := by decide +kernel
theorem dX12_init_99 : decode cX12_init 99 = .ok (.putfield 50, 3) := by decide +kernel
theorem dX12_init_102 : decode cX12_init 102 = .ok (.aload_n 0, 1) := by decide +kernel
theorem dX12_init_103 : decode cX12_init 103 = .ok (.bipush 30, 2) := by decide +kernel
theorem dX12_init_105 : decode cX12_init 105 = .ok (.newarray .int, 2) := by decide +kernel
theorem dX12_init_107 : decode cX12_init 107 = .ok (.putfield 53, 3) := by decide +kernel
theorem dX12_init_110 : decode cX12_init 110 = .ok (.aload_n 0, 1) := by decide +kernel
theorem dX12_init_111 : decode cX12_init 111 = .ok (.bipush 30, 2) := by decide +kernel
theorem dX12_init_113 : decode cX12_init 113 = .ok (.newarray .int, 2) := by decide +kernel
theorem dX12_init_115 : decode cX12_init 115 = .ok (.putfield 56, 3) := by decide +kernel
theorem dX12_init_118 : decode cX12_init 118 = .ok (.aload_n 0, 1) := by decide +kernel
theorem dX12_init_119 : decode cX12_init 119 = .ok (.bipush 13, 2) := by decide +kernel
theorem dX12_init_121 : decode cX12_init 121 = .ok (.newarray .long, 2) := by decide +kernel
theorem dX12_init_123 : decode cX12_init 123 = .ok (.putfield 59, 3) := by decide +kernel
theorem dX12_init_126 : decode cX12_init 126 = .ok (.aload_n 0, 1) := by decide +kernel
theorem dX12_init_127 : decode cX12_init 127 = .ok (.iconst 5, 1) := by decide +kernel
theorem dX12_init_128 : decode cX12_init 128 = .ok (.newarray .int, 2) := by decide +kernel
theorem dX12_init_130 : decode cX12_init 130 = .ok (.putfield 62, 3) := by decide +kernel
theorem dX12_init_133 : decode cX12_init 133 = .ok (.iconst 0, 1) := by decide +kernel
theorem dX12_init_134 : decode cX12_init 134 = .ok (.istore_n 1, 1) := by decide +kernel
theorem dX12_init_135 : decode cX12_init 135 = .ok (.iload_n 1, 1) := by decide +kernel
theorem dX12_init_136 : decode cX12_init 136 = .ok (.iconst 4, 1) := by decide +kernel
theorem dX12_init_137 : decode cX12_init 137 = .ok (.if_icmp .ge 16, 3) := by decide +kernel
theorem dX12_init_140 : decode cX12_init 140 = .ok (.aload_n 0, 1) := by decide +kernel
theorem dX12_init_141 : decode cX12_init 141 = .ok (.getfield 17, 3) := by decide +kernel
theorem dX12_init_144 : decode cX12_init 144 = .ok (.iload_n 1, 1) := by decide +kernel
theorem dX12_init_145 : decode cX12_init 145 = .ok (.iconst (-1), 1) := by decide +kernel
theorem dX12_init_146 : decode cX12_init 146 = .ok (.iastore, 1) := by decide +kernel
theorem dX12_init_147 : decode cX12_init 147 = .ok (.iinc 1 1, 3) := by decide +kernel
theorem dX12_init_150 : decode cX12_init 150 = .ok (.goto (-15), 3) := by decide +kernel
theorem dX12_init_153 : decode cX12_init 153 = .ok (.aload_n 0, 1) := by decide +kernel
theorem dX12_init_154 : decode cX12_init 154 = .ok (.iconst 0, 1) := by decide +kernel
theorem dX12_init_155 : decode cX12_init 155 = .ok (.invokevirtual 65, 3) := by decide +kernel
theorem dX12_init_158 : decode cX12_init 158 = .ok (.return_, 1) := by decide +kernel
theorem dX12_status_0 : decode cX12_status 0 = .ok (.aload_n 0, 1) := by decide +kernel
theorem dX12_status_1 : decode cX12_status 1 = .ok (.iconst 0, 1) := by decide +kernel
theorem dX12_status_2 : decode cX12_status 2 = .ok (.putfield 69, 3) := by decide +kernel
theorem dX12_status_5 : decode cX12_status 5 = .ok (.aload_n 0, 1) := by decide +kernel
theorem dX12_status_6 : decode cX12_status 6 = .ok (.getfield 72, 3) := by decide +kernel
theorem dX12_status_9 : decode cX12_status 9 = .ok (.ireturn, 1) := by decide +kernel
theorem dX12_top_0 : decode cX12_top 0 = .ok (.aload_n 0, 1) := by decide +kernel
theorem dX12_top_1 : decode cX12_top 1 = .ok (.iconst 0, 1) := by decide +kernel
theorem dX12_top_2 : decode cX12_top 2 = .ok (.putfield 69, 3) := by decide +kernel
theorem dX12_top_5 : decode cX12_top 5 = .ok (.aload_n 0, 1) := by decide +kernel
theorem dX12_top_6 : decode cX12_top 6 = .ok (.getfield 75, 3) := by decide +kernel
theorem dX12_top_9 : decode cX12_top 9 = .ok (.lreturn, 1) := by decide +kernel
theorem dX12_bottom_0 : decode cX12_bottom 0 = .ok (.aload_n 0, 1) := by decide +kernel
theorem dX12_bottom_1 : decode cX12_bottom 1 = .ok (.iconst 0, 1) := by decide +kernel
theorem dX12_bottom_2 : decode cX12_bottom 2 = .ok (.putfield 69, 3) := by decide +kernel
theorem dX12_bottom_5 : decode cX12_bottom 5 = .ok (.aload_n 0, 1) := by decide +kernel
theorem dX12_bottom_6 : decode cX12_bottom 6 = .ok (.getfield 7, 3) := by decide +kernel
theorem dX12_bottom_9 : decode cX12_bottom 9 = .ok (.lreturn, 1) := by decide +kernel
theorem dX12_refuse_0 : decode cX12_refuse 0 = .ok (.aload_n 0, 1) := by decide +kernel
theorem dX12_refuse_1 : decode cX12_refuse 1 = .ok (.iload_n 1, 1) := by decide +kernel
theorem dX12_refuse_2 : decode cX12_refuse 2 = .ok (.putfield 72, 3) := by decide +kernel
theorem dX12_refuse_5 : decode cX12_refuse 5 = .ok (.iconst (-1), 1) := by decide +kernel
theorem dX12_refuse_6 : decode cX12_refuse 6 = .ok (.ireturn, 1) := by decide +kernel
theorem dX12_no_0 : decode cX12_no 0 = .ok (.aload_n 0, 1) := by decide +kernel
theorem dX12_no_1 : decode cX12_no 1 = .ok (.iload_n 1, 1) := by decide +kernel
theorem dX12_no_2 : decode cX12_no 2 = .ok (.putfield 72, 3) := by decide +kernel
theorem dX12_no_5 : decode cX12_no 5 = .ok (.iconst 0, 1) := by decide +kernel
theorem dX12_no_6 : decode cX12_no 6 = .ok (.ireturn, 1) := by decide +kernel
theorem dX12_isIn_0 : decode cX12_isIn 0 = .ok (.lload_n 0, 1) := by decide +kernel
theorem dX12_isIn_1 : decode cX12_isIn 1 = .ok (.lload_n 2, 1) := by decide +kernel
theorem dX12_isIn_2 : decode cX12_isIn 2 = .ok (.lcmp, 1) := by decide +kernel
theorem dX12_isIn_3 : decode cX12_isIn 3 = .ok (.ifCond .lt 14, 3) := by decide +kernel
theorem dX12_isIn_6 : decode cX12_isIn 6 = .ok (.lload_n 0, 1) := by decide +kernel
theorem dX12_isIn_7 : decode cX12_isIn 7 = .ok (.lload 4, 2) := by decide +kernel
theorem dX12_isIn_9 : decode cX12_isIn 9 = .ok (.lcmp, 1) := by decide +kernel
theorem dX12_isIn_10 : decode cX12_isIn 10 = .ok (.ifCond .gt 7, 3) := by decide +kernel
theorem dX12_isIn_13 : decode cX12_isIn 13 = .ok (.iconst 1, 1) := by decide +kernel
theorem dX12_isIn_14 : decode cX12_isIn 14 = .ok (.goto 4, 3) := by decide +kernel
theorem dX12_isIn_17 : decode cX12_isIn 17 = .ok (.iconst 0, 1) := by decide +kernel
theorem dX12_isIn_18 : decode cX12_isIn 18 = .ok (.ireturn, 1) := by decide +kernel
theorem dX12_fraction_0 : decode cX12_fraction 0 = .ok (.lload_n 1, 1) := by decide +kernel
theorem dX12_fraction_1 : decode cX12_fraction 1 = .ok (.invokestatic 78, 3) := by decide +kernel
theorem dX12_fraction_4 : decode cX12_fraction 4 = .ok (.lstore 5, 2) := by decide +kernel
theorem dX12_fraction_6 : decode cX12_fraction 6 = .ok (.lload_n 3, 1) := by decide +kernel
theorem dX12_fraction_7 : decode cX12_fraction 7 = .ok (.lstore 7, 2) := by decide +kernel
theorem dX12_fraction_9 : decode cX12_fraction 9 = .ok (.lload 7, 2) := by decide +kernel
theorem dX12_fraction_11 : decode cX12_fraction 11 = .ok (.lconst 0, 1) := by decide +kernel
theorem dX12_fraction_12 : decode cX12_fraction 12 = .ok (.lcmp, 1) := by decide +kernel
theorem dX12_fraction_13 : decode cX12_fraction 13 = .ok (.ifCond .eq 21, 3) := by decide +kernel
theorem dX12_fraction_16 : decode cX12_fraction 16 = .ok (.lload 5, 2) := by decide +kernel
theorem dX12_fraction_18 : decode cX12_fraction 18 = .ok (.lload 7, 2) := by decide +kernel
theorem dX12_fraction_20 : decode cX12_fraction 20 = .ok (.lrem, 1) := by decide +kernel
theorem dX12_fraction_21 : decode cX12_fraction 21 = .ok (.lstore 9, 2) := by decide +kernel
theorem dX12_fraction_23 : decode cX12_fraction 23 = .ok (.lload 7, 2) := by decide +kernel
theorem dX12_fraction_25 : decode cX12_fraction 25 = .ok (.lstore 5, 2) := by decide +kernel
theorem dX12_fraction_27 : decode cX12_fraction 27 = .ok (.lload 9, 2) := by decide +kernel
theorem dX12_fraction_29 : decode cX12_fraction 29 = .ok (.lstore 7, 2) := by decide +kernel
theorem dX12_fraction_31 : decode cX12_fraction 31 = .ok (.goto (-22), 3) := by decide +kernel
theorem dX12_fraction_34 : decode cX12_fraction 34 = .ok (.aload_n 0, 1) := by decide +kernel
theorem dX12_fraction_35 : decode cX12_fraction 35 = .ok (.lload_n 1, 1) := by decide +kernel
theorem dX12_fraction_36 : decode cX12_fraction 36 = .ok (.lload 5, 2) := by decide +kernel
theorem dX12_fraction_38 : decode cX12_fraction 38 = .ok (.ldiv, 1) := by decide +kernel
theorem dX12_fraction_39 : decode cX12_fraction 39 = .ok (.putfield 75, 3) := by decide +kernel
theorem dX12_fraction_42 : decode cX12_fraction 42 = .ok (.aload_n 0, 1) := by decide +kernel
theorem dX12_fraction_43 : decode cX12_fraction 43 = .ok (.lload_n 3, 1) := by decide +kernel
theorem dX12_fraction_44 : decode cX12_fraction 44 = .ok (.lload 5, 2) := by decide +kernel
theorem dX12_fraction_46 : decode cX12_fraction 46 = .ok (.ldiv, 1) := by decide +kernel
theorem dX12_fraction_47 : decode cX12_fraction 47 = .ok (.putfield 7, 3) := by decide +kernel
theorem dX12_fraction_50 : decode cX12_fraction 50 = .ok (.iconst 1, 1) := by decide +kernel
theorem dX12_fraction_51 : decode cX12_fraction 51 = .ok (.ireturn, 1) := by decide +kernel
theorem dX12_cut_0 : decode cX12_cut 0 = .ok (.iload_n 0, 1) := by decide +kernel
theorem dX12_cut_1 : decode cX12_cut 1 = .ok (.ifCond .ne 10, 3) := by decide +kernel
theorem dX12_cut_4 : decode cX12_cut 4 = .ok (.lload_n 1, 1) := by decide +kernel
theorem dX12_cut_5 : decode cX12_cut 5 = .ok (.l2i, 1) := by decide +kernel
theorem dX12_cut_6 : decode cX12_cut 6 = .ok (.i2b, 1) := by decide +kernel
theorem dX12_cut_7 : decode cX12_cut 7 = .ok (.i2l, 1) := by decide +kernel
theorem dX12_cut_8 : decode cX12_cut 8 = .ok (.goto 27, 3) := by decide +kernel
theorem dX12_cut_11 : decode cX12_cut 11 = .ok (.iload_n 0, 1) := by decide +kernel
theorem dX12_cut_12 : decode cX12_cut 12 = .ok (.iconst 1, 1) := by decide +kernel
theorem dX12_cut_13 : decode cX12_cut 13 = .ok (.if_icmp .ne 10, 3) := by decide +kernel
theorem dX12_cut_16 : decode cX12_cut 16 = .ok (.lload_n 1, 1) := by decide +kernel
theorem dX12_cut_17 : decode cX12_cut 17 = .ok (.l2i, 1) := by decide +kernel
theorem dX12_cut_18 : decode cX12_cut 18 = .ok (.i2s, 1) := by decide +kernel
theorem dX12_cut_19 : decode cX12_cut 19 = .ok (.i2l, 1) := by decide +kernel
theorem dX12_cut_20 : decode cX12_cut 20 = .ok (.goto 15, 3) := by decide +kernel
theorem dX12_cut_23 : decode cX12_cut 23 = .ok (.iload_n 0, 1) := by decide +kernel
theorem dX12_cut_24 : decode cX12_cut 24 = .ok (.iconst 2, 1) := by decide +kernel
theorem dX12_cut_25 : decode cX12_cut 25 = .ok (.if_icmp .ne 9, 3) := by decide +kernel
theorem dX12_cut_28 : decode cX12_cut 28 = .ok (.lload_n 1, 1) := by decide +kernel
theorem dX12_cut_29 : decode cX12_cut 29 = .ok (.l2i, 1) := by decide +kernel
theorem dX12_cut_30 : decode cX12_cut 30 = .ok (.i2l, 1) := by decide +kernel
theorem dX12_cut_31 : decode cX12_cut 31 = .ok (.goto 4, 3) := by decide +kernel
theorem dX12_cut_34 : decode cX12_cut 34 = .ok (.lload_n 1, 1) := by decide +kernel
theorem dX12_cut_35 : decode cX12_cut 35 = .ok (.lreturn, 1) := by decide +kernel
theorem dX12_tray_0 : decode cX12_tray 0 = .ok (.aload_n 0, 1) := by decide +kernel
theorem dX12_tray_1 : decode cX12_tray 1 = .ok (.iconst 0, 1) := by decide +kernel
theorem dX12_tray_2 : decode cX12_tray 2 = .ok (.putfield 69, 3) := by decide +kernel
theorem dX12_tray_5 : decode cX12_tray 5 = .ok (.aload_n 0, 1) := by decide +kernel
theorem dX12_tray_6 : decode cX12_tray 6 = .ok (.iconst 0, 1) := by decide +kernel
theorem dX12_tray_7 : decode cX12_tray 7 = .ok (.putfield 72, 3) := by decide +kernel
theorem dX12_tray_10 : decode cX12_tray 10 = .ok (.iload_n 1, 1) := by decide +kernel
theorem dX12_tray_11 : decode cX12_tray 11 = .ok (.ifCond .lt 17, 3) := by decide +kernel
theorem dX12_tray_14 : decode cX12_tray 14 = .ok (.iload_n 1, 1) := by decide +kernel
theorem dX12_tray_15 : decode cX12_tray 15 = .ok (.iconst 4, 1) := by decide +kernel
theorem dX12_tray_16 : decode cX12_tray 16 = .ok (.if_icmp .ge 12, 3) := by decide +kernel
theorem dX12_tray_19 : decode cX12_tray 19 = .ok (.iload_n 2, 1) := by decide +kernel
theorem dX12_tray_20 : decode cX12_tray 20 = .ok (.ifCond .lt 8, 3) := by decide +kernel
theorem dX12_tray_23 : decode cX12_tray 23 = .ok (.iload_n 2, 1) := by decide +kernel
theorem dX12_tray_24 : decode cX12_tray 24 = .ok (.iconst 3, 1) := by decide +kernel
theorem dX12_tray_25 : decode cX12_tray 25 = .ok (.if_icmp .le 9, 3) := by decide +kernel
theorem dX12_tray_28 : decode cX12_tray 28 = .ok (.aload_n 0, 1) := by decide +kernel
theorem dX12_tray_29 : decode cX12_tray 29 = .ok (.iconst 1, 1) := by decide +kernel
theorem dX12_tray_30 : decode cX12_tray 30 = .ok (.invokevirtual 84, 3) := by decide +kernel
theorem dX12_tray_33 : decode cX12_tray 33 = .ok (.ireturn, 1) := by decide +kernel
theorem dX12_tray_34 : decode cX12_tray 34 = .ok (.iload_n 3, 1) := by decide +kernel
theorem dX12_tray_35 : decode cX12_tray 35 = .ok (.bipush 60, 2) := by decide +kernel
theorem dX12_tray_37 : decode cX12_tray 37 = .ok (.if_icmp .le 9, 3) := by decide +kernel
theorem dX12_tray_40 : decode cX12_tray 40 = .ok (.aload_n 0, 1) := by decide +kernel
theorem dX12_tray_41 : decode cX12_tray 41 = .ok (.iconst 5, 1) := by decide +kernel
theorem dX12_tray_42 : decode cX12_tray 42 = .ok (.invokevirtual 84, 3) := by decide +kernel
theorem dX12_tray_45 : decode cX12_tray 45 = .ok (.ireturn, 1) := by decide +kernel
theorem dX12_tray_46 : decode cX12_tray 46 = .ok (.iload_n 3, 1) := by decide +kernel
theorem dX12_tray_47 : decode cX12_tray 47 = .ok (.ifCond .ge 10, 3) := by decide +kernel
theorem dX12_tray_50 : decode cX12_tray 50 = .ok (.aload_n 0, 1) := by decide +kernel
theorem dX12_tray_51 : decode cX12_tray 51 = .ok (.bipush 6, 2) := by decide +kernel
theorem dX12_tray_53 : decode cX12_tray 53 = .ok (.invokevirtual 84, 3) := by decide +kernel
theorem dX12_tray_56 : decode cX12_tray 56 = .ok (.ireturn, 1) := by decide +kernel
theorem dX12_tray_57 : decode cX12_tray 57 = .ok (.aload_n 0, 1) := by decide +kernel
theorem dX12_tray_58 : decode cX12_tray 58 = .ok (.getfield 13, 3) := by decide +kernel
theorem dX12_tray_61 : decode cX12_tray 61 = .ok (.iload_n 1, 1) := by decide +kernel
theorem dX12_tray_62 : decode cX12_tray 62 = .ok (.iload_n 2, 1) := by decide +kernel
theorem dX12_tray_63 : decode cX12_tray 63 = .ok (.iastore, 1) := by decide +kernel
theorem dX12_tray_64 : decode cX12_tray 64 = .ok (.aload_n 0, 1) := by decide +kernel
theorem dX12_tray_65 : decode cX12_tray 65 = .ok (.getfield 17, 3) := by decide +kernel
theorem dX12_tray_68 : decode cX12_tray 68 = .ok (.iload_n 1, 1) := by decide +kernel
theorem dX12_tray_69 : decode cX12_tray 69 = .ok (.iload_n 3, 1) := by decide +kernel
theorem dX12_tray_70 : decode cX12_tray 70 = .ok (.iastore, 1) := by decide +kernel
theorem dX12_tray_71 : decode cX12_tray 71 = .ok (.iconst 0, 1) := by decide +kernel
theorem dX12_tray_72 : decode cX12_tray 72 = .ok (.istore 4, 2) := by decide +kernel
theorem dX12_tray_74 : decode cX12_tray 74 = .ok (.iload 4, 2) := by decide +kernel
theorem dX12_tray_76 : decode cX12_tray 76 = .ok (.iload_n 3, 1) := by decide +kernel
theorem dX12_tray_77 : decode cX12_tray 77 = .ok (.if_icmp .ge 22, 3) := by decide +kernel
theorem dX12_tray_80 : decode cX12_tray 80 = .ok (.aload_n 0, 1) := by decide +kernel
theorem dX12_tray_81 : decode cX12_tray 81 = .ok (.getfield 20, 3) := by decide +kernel
theorem dX12_tray_84 : decode cX12_tray 84 = .ok (.bipush 60, 2) := by decide +kernel
theorem dX12_tray_86 : decode cX12_tray 86 = .ok (.iload_n 1, 1) := by decide +kernel
theorem dX12_tray_87 : decode cX12_tray 87 = .ok (.imul, 1) := by decide +kernel
theorem dX12_tray_88 : decode cX12_tray 88 = .ok (.iload 4, 2) := by decide +kernel
theorem dX12_tray_90 : decode cX12_tray 90 = .ok (.iadd, 1) := by decide +kernel
theorem dX12_tray_91 : decode cX12_tray 91 = .ok (.lconst 0, 1) := by decide +kernel
theorem dX12_tray_92 : decode cX12_tray 92 = .ok (.lastore, 1) := by decide +kernel
theorem dX12_tray_93 : decode cX12_tray 93 = .ok (.iinc 4 1, 3) := by decide +kernel
theorem dX12_tray_96 : decode cX12_tray 96 = .ok (.goto (-22), 3) := by decide +kernel
theorem dX12_tray_99 : decode cX12_tray 99 = .ok (.iconst 1, 1) := by decide +kernel
theorem dX12_tray_100 : decode cX12_tray 100 = .ok (.ireturn, 1) := by decide +kernel
theorem dX12_trayed_0 : decode cX12_trayed 0 = .ok (.iload_n 1, 1) := by decide +kernel
theorem dX12_trayed_1 : decode cX12_trayed 1 = .ok (.ifCond .lt 8, 3) := by decide +kernel
theorem dX12_trayed_4 : decode cX12_trayed 4 = .ok (.iload_n 1, 1) := by decide +kernel
theorem dX12_trayed_5 : decode cX12_trayed 5 = .ok (.iconst 4, 1) := by decide +kernel
theorem dX12_trayed_6 : decode cX12_trayed 6 = .ok (.if_icmp .lt 7, 3) := by decide +kernel
theorem dX12_trayed_9 : decode cX12_trayed 9 = .ok (.iconst 1, 1) := by decide +kernel
theorem dX12_trayed_10 : decode cX12_trayed 10 = .ok (.goto 17, 3) := by decide +kernel
theorem dX12_trayed_13 : decode cX12_trayed 13 = .ok (.aload_n 0, 1) := by decide +kernel
theorem dX12_trayed_14 : decode cX12_trayed 14 = .ok (.getfield 17, 3) := by decide +kernel
theorem dX12_trayed_17 : decode cX12_trayed 17 = .ok (.iload_n 1, 1) := by decide +kernel
theorem dX12_trayed_18 : decode cX12_trayed 18 = .ok (.iaload, 1) := by decide +kernel
theorem dX12_trayed_19 : decode cX12_trayed 19 = .ok (.ifCond .ge 7, 3) := by decide +kernel
theorem dX12_trayed_22 : decode cX12_trayed 22 = .ok (.iconst 3, 1) := by decide +kernel
theorem dX12_trayed_23 : decode cX12_trayed 23 = .ok (.goto 4, 3) := by decide +kernel
theorem dX12_trayed_26 : decode cX12_trayed 26 = .ok (.iconst 0, 1) := by decide +kernel
theorem dX12_trayed_27 : decode cX12_trayed 27 = .ok (.ireturn, 1) := by decide +kernel
theorem dX12_placed_0 : decode cX12_placed 0 = .ok (.aload_n 0, 1) := by decide +kernel
theorem dX12_placed_1 : decode cX12_placed 1 = .ok (.iload_n 1, 1) := by decide +kernel
theorem dX12_placed_2 : decode cX12_placed 2 = .ok (.invokevirtual 88, 3) := by decide +kernel
theorem dX12_placed_5 : decode cX12_placed 5 = .ok (.istore_n 3, 1) := by decide +kernel
theorem dX12_placed_6 : decode cX12_placed 6 = .ok (.iload_n 3, 1) := by decide +kernel
theorem dX12_placed_7 : decode cX12_placed 7 = .ok (.ifCond .le 7, 3) := by decide +kernel
theorem dX12_placed_10 : decode cX12_placed 10 = .ok (.iload_n 3, 1) := by decide +kernel
theorem dX12_placed_11 : decode cX12_placed 11 = .ok (.goto 22, 3) := by decide +kernel
theorem dX12_placed_14 : decode cX12_placed 14 = .ok (.iload_n 2, 1) := by decide +kernel
theorem dX12_placed_15 : decode cX12_placed 15 = .ok (.ifCond .lt 13, 3) := by decide +kernel
theorem dX12_placed_18 : decode cX12_placed 18 = .ok (.iload_n 2, 1) := by decide +kernel
theorem dX12_placed_19 : decode cX12_placed 19 = .ok (.aload_n 0, 1) := by decide +kernel
theorem dX12_placed_20 : decode cX12_placed 20 = .ok (.getfield 17, 3) := by decide +kernel
theorem dX12_placed_23 : decode cX12_placed 23 = .ok (.iload_n 1, 1) := by decide +kernel
theorem dX12_placed_24 : decode cX12_placed 24 = .ok (.iaload, 1) := by decide +kernel
theorem dX12_placed_25 : decode cX12_placed 25 = .ok (.if_icmp .lt 7, 3) := by decide +kernel
theorem dX12_placed_28 : decode cX12_placed 28 = .ok (.iconst 4, 1) := by decide +kernel
theorem dX12_placed_29 : decode cX12_placed 29 = .ok (.goto 4, 3) := by decide +kernel
theorem dX12_placed_32 : decode cX12_placed 32 = .ok (.iconst 0, 1) := by decide +kernel
theorem dX12_placed_33 : decode cX12_placed 33 = .ok (.ireturn, 1) := by decide +kernel
theorem dX12_write_0 : decode cX12_write 0 = .ok (.aload_n 0, 1) := by decide +kernel
theorem dX12_write_1 : decode cX12_write 1 = .ok (.iconst 0, 1) := by decide +kernel
theorem dX12_write_2 : decode cX12_write 2 = .ok (.putfield 69, 3) := by decide +kernel
theorem dX12_write_5 : decode cX12_write 5 = .ok (.aload_n 0, 1) := by decide +kernel
theorem dX12_write_6 : decode cX12_write 6 = .ok (.aload_n 0, 1) := by decide +kernel
theorem dX12_write_7 : decode cX12_write 7 = .ok (.iload_n 1, 1) := by decide +kernel
theorem dX12_write_8 : decode cX12_write 8 = .ok (.iload_n 2, 1) := by decide +kernel
theorem dX12_write_9 : decode cX12_write 9 = .ok (.invokevirtual 92, 3) := by decide +kernel
theorem dX12_write_12 : decode cX12_write 12 = .ok (.putfield 72, 3) := by decide +kernel
theorem dX12_write_15 : decode cX12_write 15 = .ok (.aload_n 0, 1) := by decide +kernel
theorem dX12_write_16 : decode cX12_write 16 = .ok (.getfield 72, 3) := by decide +kernel
theorem dX12_write_19 : decode cX12_write 19 = .ok (.ifCond .le 5, 3) := by decide +kernel
theorem dX12_write_22 : decode cX12_write 22 = .ok (.iconst 0, 1) := by decide +kernel
theorem dX12_write_23 : decode cX12_write 23 = .ok (.ireturn, 1) := by decide +kernel
theorem dX12_write_24 : decode cX12_write 24 = .ok (.aload_n 0, 1) := by decide +kernel
theorem dX12_write_25 : decode cX12_write 25 = .ok (.getfield 20, 3) := by decide +kernel
theorem dX12_write_28 : decode cX12_write 28 = .ok (.bipush 60, 2) := by decide +kernel
theorem dX12_write_30 : decode cX12_write 30 = .ok (.iload_n 1, 1) := by decide +kernel
theorem dX12_write_31 : decode cX12_write 31 = .ok (.imul, 1) := by decide +kernel
theorem dX12_write_32 : decode cX12_write 32 = .ok (.iload_n 2, 1) := by decide +kernel
theorem dX12_write_33 : decode cX12_write 33 = .ok (.iadd, 1) := by decide +kernel
theorem dX12_write_34 : decode cX12_write 34 = .ok (.aload_n 0, 1) := by decide +kernel
theorem dX12_write_35 : decode cX12_write 35 = .ok (.getfield 13, 3) := by decide +kernel
theorem dX12_write_38 : decode cX12_write 38 = .ok (.iload_n 1, 1) := by decide +kernel
theorem dX12_write_39 : decode cX12_write 39 = .ok (.iaload, 1) := by decide +kernel
theorem dX12_write_40 : decode cX12_write 40 = .ok (.lload_n 3, 1) := by decide +kernel
theorem dX12_write_41 : decode cX12_write 41 = .ok (.invokestatic 96, 3) := by decide +kernel
theorem dX12_write_44 : decode cX12_write 44 = .ok (.lastore, 1) := by decide +kernel
theorem dX12_write_45 : decode cX12_write 45 = .ok (.iconst 1, 1) := by decide +kernel
theorem dX12_write_46 : decode cX12_write 46 = .ok (.ireturn, 1) := by decide +kernel
theorem dX12_read_0 : decode cX12_read 0 = .ok (.aload_n 0, 1) := by decide +kernel
theorem dX12_read_1 : decode cX12_read 1 = .ok (.iconst 0, 1) := by decide +kernel
theorem dX12_read_2 : decode cX12_read 2 = .ok (.putfield 69, 3) := by decide +kernel
theorem dX12_read_5 : decode cX12_read 5 = .ok (.aload_n 0, 1) := by decide +kernel
theorem dX12_read_6 : decode cX12_read 6 = .ok (.aload_n 0, 1) := by decide +kernel
theorem dX12_read_7 : decode cX12_read 7 = .ok (.iload_n 1, 1) := by decide +kernel
theorem dX12_read_8 : decode cX12_read 8 = .ok (.iload_n 2, 1) := by decide +kernel
theorem dX12_read_9 : decode cX12_read 9 = .ok (.invokevirtual 92, 3) := by decide +kernel
theorem dX12_read_12 : decode cX12_read 12 = .ok (.putfield 72, 3) := by decide +kernel
theorem dX12_read_15 : decode cX12_read 15 = .ok (.aload_n 0, 1) := by decide +kernel
theorem dX12_read_16 : decode cX12_read 16 = .ok (.getfield 72, 3) := by decide +kernel
theorem dX12_read_19 : decode cX12_read 19 = .ok (.ifCond .le 9, 3) := by decide +kernel
theorem dX12_read_22 : decode cX12_read 22 = .ok (.ldc2_w 100, 3) := by decide +kernel
theorem dX12_read_25 : decode cX12_read 25 = .ok (.goto 14, 3) := by decide +kernel
theorem dX12_read_28 : decode cX12_read 28 = .ok (.aload_n 0, 1) := by decide +kernel
theorem dX12_read_29 : decode cX12_read 29 = .ok (.getfield 20, 3) := by decide +kernel
theorem dX12_read_32 : decode cX12_read 32 = .ok (.bipush 60, 2) := by decide +kernel
theorem dX12_read_34 : decode cX12_read 34 = .ok (.iload_n 1, 1) := by decide +kernel
theorem dX12_read_35 : decode cX12_read 35 = .ok (.imul, 1) := by decide +kernel
theorem dX12_read_36 : decode cX12_read 36 = .ok (.iload_n 2, 1) := by decide +kernel
theorem dX12_read_37 : decode cX12_read 37 = .ok (.iadd, 1) := by decide +kernel
theorem dX12_read_38 : decode cX12_read 38 = .ok (.laload, 1) := by decide +kernel
theorem dX12_read_39 : decode cX12_read 39 = .ok (.lreturn, 1) := by decide +kernel
theorem dX12_pour_0 : decode cX12_pour 0 = .ok (.aload_n 0, 1) := by decide +kernel
theorem dX12_pour_1 : decode cX12_pour 1 = .ok (.iconst 0, 1) := by decide +kernel
theorem dX12_pour_2 : decode cX12_pour 2 = .ok (.putfield 69, 3) := by decide +kernel
theorem dX12_pour_5 : decode cX12_pour 5 = .ok (.aload_n 0, 1) := by decide +kernel
theorem dX12_pour_6 : decode cX12_pour 6 = .ok (.iconst 0, 1) := by decide +kernel
theorem dX12_pour_7 : decode cX12_pour 7 = .ok (.putfield 72, 3) := by decide +kernel
theorem dX12_pour_10 : decode cX12_pour 10 = .ok (.iload_n 1, 1) := by decide +kernel
theorem dX12_pour_11 : decode cX12_pour 11 = .ok (.ifCond .lt 17, 3) := by decide +kernel
theorem dX12_pour_14 : decode cX12_pour 14 = .ok (.iload_n 1, 1) := by decide +kernel
theorem dX12_pour_15 : decode cX12_pour 15 = .ok (.iconst 4, 1) := by decide +kernel
theorem dX12_pour_16 : decode cX12_pour 16 = .ok (.if_icmp .ge 12, 3) := by decide +kernel
theorem dX12_pour_19 : decode cX12_pour 19 = .ok (.iload_n 3, 1) := by decide +kernel
theorem dX12_pour_20 : decode cX12_pour 20 = .ok (.ifCond .lt 8, 3) := by decide +kernel
theorem dX12_pour_23 : decode cX12_pour 23 = .ok (.iload_n 3, 1) := by decide +kernel
theorem dX12_pour_24 : decode cX12_pour 24 = .ok (.iconst 4, 1) := by decide +kernel
theorem dX12_pour_25 : decode cX12_pour 25 = .ok (.if_icmp .lt 9, 3) := by decide +kernel
theorem dX12_pour_28 : decode cX12_pour 28 = .ok (.aload_n 0, 1) := by decide +kernel
theorem dX12_pour_29 : decode cX12_pour 29 = .ok (.iconst 1, 1) := by decide +kernel
theorem dX12_pour_30 : decode cX12_pour 30 = .ok (.invokevirtual 84, 3) := by decide +kernel
theorem dX12_pour_33 : decode cX12_pour 33 = .ok (.ireturn, 1) := by decide +kernel
theorem dX12_pour_34 : decode cX12_pour 34 = .ok (.aload_n 0, 1) := by decide +kernel
theorem dX12_pour_35 : decode cX12_pour 35 = .ok (.getfield 17, 3) := by decide +kernel
theorem dX12_pour_38 : decode cX12_pour 38 = .ok (.iload_n 1, 1) := by decide +kernel
theorem dX12_pour_39 : decode cX12_pour 39 = .ok (.iaload, 1) := by decide +kernel
theorem dX12_pour_40 : decode cX12_pour 40 = .ok (.ifCond .lt 12, 3) := by decide +kernel
theorem dX12_pour_43 : decode cX12_pour 43 = .ok (.aload_n 0, 1) := by decide +kernel
theorem dX12_pour_44 : decode cX12_pour 44 = .ok (.getfield 17, 3) := by decide +kernel
theorem dX12_pour_47 : decode cX12_pour 47 = .ok (.iload_n 3, 1) := by decide +kernel
theorem dX12_pour_48 : decode cX12_pour 48 = .ok (.iaload, 1) := by decide +kernel
theorem dX12_pour_49 : decode cX12_pour 49 = .ok (.ifCond .ge 9, 3) := by decide +kernel
theorem dX12_pour_52 : decode cX12_pour 52 = .ok (.aload_n 0, 1) := by decide +kernel
theorem dX12_pour_53 : decode cX12_pour 53 = .ok (.iconst 3, 1) := by decide +kernel
theorem dX12_pour_54 : decode cX12_pour 54 = .ok (.invokevirtual 84, 3) := by decide +kernel
theorem dX12_pour_57 : decode cX12_pour 57 = .ok (.ireturn, 1) := by decide +kernel
theorem dX12_pour_58 : decode cX12_pour 58 = .ok (.aload_n 0, 1) := by decide +kernel
theorem dX12_pour_59 : decode cX12_pour 59 = .ok (.getfield 13, 3) := by decide +kernel
theorem dX12_pour_62 : decode cX12_pour 62 = .ok (.iload_n 1, 1) := by decide +kernel
theorem dX12_pour_63 : decode cX12_pour 63 = .ok (.iaload, 1) := by decide +kernel
theorem dX12_pour_64 : decode cX12_pour 64 = .ok (.aload_n 0, 1) := by decide +kernel
theorem dX12_pour_65 : decode cX12_pour 65 = .ok (.getfield 13, 3) := by decide +kernel
theorem dX12_pour_68 : decode cX12_pour 68 = .ok (.iload_n 3, 1) := by decide +kernel
theorem dX12_pour_69 : decode cX12_pour 69 = .ok (.iaload, 1) := by decide +kernel
theorem dX12_pour_70 : decode cX12_pour 70 = .ok (.if_icmp .eq 10, 3) := by decide +kernel
theorem dX12_pour_73 : decode cX12_pour 73 = .ok (.aload_n 0, 1) := by decide +kernel
theorem dX12_pour_74 : decode cX12_pour 74 = .ok (.bipush 11, 2) := by decide +kernel
theorem dX12_pour_76 : decode cX12_pour 76 = .ok (.invokevirtual 84, 3) := by decide +kernel
theorem dX12_pour_79 : decode cX12_pour 79 = .ok (.ireturn, 1) := by decide +kernel
theorem dX12_pour_80 : decode cX12_pour 80 = .ok (.iload 5, 2) := by decide +kernel
theorem dX12_pour_82 : decode cX12_pour 82 = .ok (.ifCond .ge 10, 3) := by decide +kernel
theorem dX12_pour_85 : decode cX12_pour 85 = .ok (.aload_n 0, 1) := by decide +kernel
theorem dX12_pour_86 : decode cX12_pour 86 = .ok (.bipush 6, 2) := by decide +kernel
theorem dX12_pour_88 : decode cX12_pour 88 = .ok (.invokevirtual 84, 3) := by decide +kernel
theorem dX12_pour_91 : decode cX12_pour 91 = .ok (.ireturn, 1) := by decide +kernel
theorem dX12_pour_92 : decode cX12_pour 92 = .ok (.iload_n 2, 1) := by decide +kernel
theorem dX12_pour_93 : decode cX12_pour 93 = .ok (.ifCond .lt 43, 3) := by decide +kernel
theorem dX12_pour_96 : decode cX12_pour 96 = .ok (.iload 4, 2) := by decide +kernel
theorem dX12_pour_98 : decode cX12_pour 98 = .ok (.ifCond .lt 38, 3) := by decide +kernel
theorem dX12_pour_101 : decode cX12_pour 101 = .ok (.iload_n 2, 1) := by decide +kernel
theorem dX12_pour_102 : decode cX12_pour 102 = .ok (.i2l, 1) := by decide +kernel
theorem dX12_pour_103 : decode cX12_pour 103 = .ok (.iload 5, 2) := by decide +kernel
theorem dX12_pour_105 : decode cX12_pour 105 = .ok (.i2l, 1) := by decide +kernel
theorem dX12_pour_106 : decode cX12_pour 106 = .ok (.ladd, 1) := by decide +kernel
theorem dX12_pour_107 : decode cX12_pour 107 = .ok (.aload_n 0, 1) := by decide +kernel
theorem dX12_pour_108 : decode cX12_pour 108 = .ok (.getfield 17, 3) := by decide +kernel
theorem dX12_pour_111 : decode cX12_pour 111 = .ok (.iload_n 1, 1) := by decide +kernel
theorem dX12_pour_112 : decode cX12_pour 112 = .ok (.iaload, 1) := by decide +kernel
theorem dX12_pour_113 : decode cX12_pour 113 = .ok (.i2l, 1) := by decide +kernel
theorem dX12_pour_114 : decode cX12_pour 114 = .ok (.lcmp, 1) := by decide +kernel
theorem dX12_pour_115 : decode cX12_pour 115 = .ok (.ifCond .gt 21, 3) := by decide +kernel
theorem dX12_pour_118 : decode cX12_pour 118 = .ok (.iload 4, 2) := by decide +kernel
theorem dX12_pour_120 : decode cX12_pour 120 = .ok (.i2l, 1) := by decide +kernel
theorem dX12_pour_121 : decode cX12_pour 121 = .ok (.iload 5, 2) := by decide +kernel
theorem dX12_pour_123 : decode cX12_pour 123 = .ok (.i2l, 1) := by decide +kernel
theorem dX12_pour_124 : decode cX12_pour 124 = .ok (.ladd, 1) := by decide +kernel
theorem dX12_pour_125 : decode cX12_pour 125 = .ok (.aload_n 0, 1) := by decide +kernel
theorem dX12_pour_126 : decode cX12_pour 126 = .ok (.getfield 17, 3) := by decide +kernel
theorem dX12_pour_129 : decode cX12_pour 129 = .ok (.iload_n 3, 1) := by decide +kernel
theorem dX12_pour_130 : decode cX12_pour 130 = .ok (.iaload, 1) := by decide +kernel
theorem dX12_pour_131 : decode cX12_pour 131 = .ok (.i2l, 1) := by decide +kernel
theorem dX12_pour_132 : decode cX12_pour 132 = .ok (.lcmp, 1) := by decide +kernel
theorem dX12_pour_133 : decode cX12_pour 133 = .ok (.ifCond .le 9, 3) := by decide +kernel
theorem dX12_pour_136 : decode cX12_pour 136 = .ok (.aload_n 0, 1) := by decide +kernel
theorem dX12_pour_137 : decode cX12_pour 137 = .ok (.iconst 4, 1) := by decide +kernel
theorem dX12_pour_138 : decode cX12_pour 138 = .ok (.invokevirtual 84, 3) := by decide +kernel
theorem dX12_pour_141 : decode cX12_pour 141 = .ok (.ireturn, 1) := by decide +kernel
theorem dX12_pour_142 : decode cX12_pour 142 = .ok (.iload_n 2, 1) := by decide +kernel
theorem dX12_pour_143 : decode cX12_pour 143 = .ok (.iload 4, 2) := by decide +kernel
theorem dX12_pour_145 : decode cX12_pour 145 = .ok (.if_icmp .ge 7, 3) := by decide +kernel
theorem dX12_pour_148 : decode cX12_pour 148 = .ok (.iconst 1, 1) := by decide +kernel
theorem dX12_pour_149 : decode cX12_pour 149 = .ok (.goto 4, 3) := by decide +kernel
theorem dX12_pour_152 : decode cX12_pour 152 = .ok (.iconst 0, 1) := by decide +kernel
theorem dX12_pour_153 : decode cX12_pour 153 = .ok (.istore 6, 2) := by decide +kernel
theorem dX12_pour_155 : decode cX12_pour 155 = .ok (.iconst 0, 1) := by decide +kernel
theorem dX12_pour_156 : decode cX12_pour 156 = .ok (.istore 7, 2) := by decide +kernel
theorem dX12_pour_158 : decode cX12_pour 158 = .ok (.iload 7, 2) := by decide +kernel
theorem dX12_pour_160 : decode cX12_pour 160 = .ok (.iload 5, 2) := by decide +kernel
theorem dX12_pour_162 : decode cX12_pour 162 = .ok (.if_icmp .ge 57, 3) := by decide +kernel
theorem dX12_pour_165 : decode cX12_pour 165 = .ok (.iload 6, 2) := by decide +kernel
theorem dX12_pour_167 : decode cX12_pour 167 = .ok (.ifCond .eq 13, 3) := by decide +kernel
theorem dX12_pour_170 : decode cX12_pour 170 = .ok (.iload 5, 2) := by decide +kernel
theorem dX12_pour_172 : decode cX12_pour 172 = .ok (.iconst 1, 1) := by decide +kernel
theorem dX12_pour_173 : decode cX12_pour 173 = .ok (.isub, 1) := by decide +kernel
theorem dX12_pour_174 : decode cX12_pour 174 = .ok (.iload 7, 2) := by decide +kernel
theorem dX12_pour_176 : decode cX12_pour 176 = .ok (.isub, 1) := by decide +kernel
theorem dX12_pour_177 : decode cX12_pour 177 = .ok (.goto 5, 3) := by decide +kernel
theorem dX12_pour_180 : decode cX12_pour 180 = .ok (.iload 7, 2) := by decide +kernel
theorem dX12_pour_182 : decode cX12_pour 182 = .ok (.istore 8, 2) := by decide +kernel
theorem dX12_pour_184 : decode cX12_pour 184 = .ok (.aload_n 0, 1) := by decide +kernel
theorem dX12_pour_185 : decode cX12_pour 185 = .ok (.getfield 20, 3) := by decide +kernel
theorem dX12_pour_188 : decode cX12_pour 188 = .ok (.bipush 60, 2) := by decide +kernel
theorem dX12_pour_190 : decode cX12_pour 190 = .ok (.iload_n 3, 1) := by decide +kernel
theorem dX12_pour_191 : decode cX12_pour 191 = .ok (.imul, 1) := by decide +kernel
theorem dX12_pour_192 : decode cX12_pour 192 = .ok (.iload 4, 2) := by decide +kernel
theorem dX12_pour_194 : decode cX12_pour 194 = .ok (.iadd, 1) := by decide +kernel
theorem dX12_pour_195 : decode cX12_pour 195 = .ok (.iload 8, 2) := by decide +kernel
theorem dX12_pour_197 : decode cX12_pour 197 = .ok (.iadd, 1) := by decide +kernel
theorem dX12_pour_198 : decode cX12_pour 198 = .ok (.aload_n 0, 1) := by decide +kernel
theorem dX12_pour_199 : decode cX12_pour 199 = .ok (.getfield 20, 3) := by decide +kernel
theorem dX12_pour_202 : decode cX12_pour 202 = .ok (.bipush 60, 2) := by decide +kernel
theorem dX12_pour_204 : decode cX12_pour 204 = .ok (.iload_n 1, 1) := by decide +kernel
theorem dX12_pour_205 : decode cX12_pour 205 = .ok (.imul, 1) := by decide +kernel
theorem dX12_pour_206 : decode cX12_pour 206 = .ok (.iload_n 2, 1) := by decide +kernel
theorem dX12_pour_207 : decode cX12_pour 207 = .ok (.iadd, 1) := by decide +kernel
theorem dX12_pour_208 : decode cX12_pour 208 = .ok (.iload 8, 2) := by decide +kernel
theorem dX12_pour_210 : decode cX12_pour 210 = .ok (.iadd, 1) := by decide +kernel
theorem dX12_pour_211 : decode cX12_pour 211 = .ok (.laload, 1) := by decide +kernel
theorem dX12_pour_212 : decode cX12_pour 212 = .ok (.lastore, 1) := by decide +kernel
theorem dX12_pour_213 : decode cX12_pour 213 = .ok (.iinc 7 1, 3) := by decide +kernel
theorem dX12_pour_216 : decode cX12_pour 216 = .ok (.goto (-58), 3) := by decide +kernel
theorem dX12_pour_219 : decode cX12_pour 219 = .ok (.iconst 1, 1) := by decide +kernel
theorem dX12_pour_220 : decode cX12_pour 220 = .ok (.ireturn, 1) := by decide +kernel
theorem dX12_numberOf_0 : decode cX12_numberOf 0 = .ok (.aload_n 0, 1) := by decide +kernel
theorem dX12_numberOf_1 : decode cX12_numberOf 1 = .ok (.getfield 20, 3) := by decide +kernel
theorem dX12_numberOf_4 : decode cX12_numberOf 4 = .ok (.bipush 60, 2) := by decide +kernel
theorem dX12_numberOf_6 : decode cX12_numberOf 6 = .ok (.iload_n 1, 1) := by decide +kernel
theorem dX12_numberOf_7 : decode cX12_numberOf 7 = .ok (.imul, 1) := by decide +kernel
theorem dX12_numberOf_8 : decode cX12_numberOf 8 = .ok (.iload_n 2, 1) := by decide +kernel
theorem dX12_numberOf_9 : decode cX12_numberOf 9 = .ok (.iadd, 1) := by decide +kernel
theorem dX12_numberOf_10 : decode cX12_numberOf 10 = .ok (.laload, 1) := by decide +kernel
theorem dX12_numberOf_11 : decode cX12_numberOf 11 = .ok (.lreturn, 1) := by decide +kernel
theorem dX12_isTray_0 : decode cX12_isTray 0 = .ok (.iload_n 1, 1) := by decide +kernel
theorem dX12_isTray_1 : decode cX12_isTray 1 = .ok (.i2l, 1) := by decide +kernel
theorem dX12_isTray_2 : decode cX12_isTray 2 = .ok (.lconst 0, 1) := by decide +kernel
theorem dX12_isTray_3 : decode cX12_isTray 3 = .ok (.ldc2_w 102, 3) := by decide +kernel
theorem dX12_isTray_6 : decode cX12_isTray 6 = .ok (.invokestatic 104, 3) := by decide +kernel
theorem dX12_isTray_9 : decode cX12_isTray 9 = .ok (.ireturn, 1) := by decide +kernel
theorem dX12_has_0 : decode cX12_has 0 = .ok (.iload_n 0, 1) := by decide +kernel
theorem dX12_has_1 : decode cX12_has 1 = .ok (.iload_n 1, 1) := by decide +kernel
theorem dX12_has_2 : decode cX12_has 2 = .ok (.ishr, 1) := by decide +kernel
theorem dX12_has_3 : decode cX12_has 3 = .ok (.iconst 1, 1) := by decide +kernel
theorem dX12_has_4 : decode cX12_has 4 = .ok (.iand, 1) := by decide +kernel
theorem dX12_has_5 : decode cX12_has 5 = .ok (.iconst 1, 1) := by decide +kernel
theorem dX12_has_6 : decode cX12_has 6 = .ok (.if_icmp .ne 7, 3) := by decide +kernel
theorem dX12_has_9 : decode cX12_has 9 = .ok (.iconst 1, 1) := by decide +kernel
theorem dX12_has_10 : decode cX12_has 10 = .ok (.goto 4, 3) := by decide +kernel
theorem dX12_has_13 : decode cX12_has 13 = .ok (.iconst 0, 1) := by decide +kernel
theorem dX12_has_14 : decode cX12_has 14 = .ok (.ireturn, 1) := by decide +kernel
theorem dX12_sizeOf_0 : decode cX12_sizeOf 0 = .ok (.iconst 0, 1) := by decide +kernel
theorem dX12_sizeOf_1 : decode cX12_sizeOf 1 = .ok (.istore_n 1, 1) := by decide +kernel
theorem dX12_sizeOf_2 : decode cX12_sizeOf 2 = .ok (.iconst 0, 1) := by decide +kernel
theorem dX12_sizeOf_3 : decode cX12_sizeOf 3 = .ok (.istore_n 2, 1) := by decide +kernel
theorem dX12_sizeOf_4 : decode cX12_sizeOf 4 = .ok (.iload_n 2, 1) := by decide +kernel
theorem dX12_sizeOf_5 : decode cX12_sizeOf 5 = .ok (.bipush 6, 2) := by decide +kernel
theorem dX12_sizeOf_7 : decode cX12_sizeOf 7 = .ok (.if_icmp .ge 25, 3) := by decide +kernel
theorem dX12_sizeOf_10 : decode cX12_sizeOf 10 = .ok (.iload_n 1, 1) := by decide +kernel
theorem dX12_sizeOf_11 : decode cX12_sizeOf 11 = .ok (.iload_n 0, 1) := by decide +kernel
theorem dX12_sizeOf_12 : decode cX12_sizeOf 12 = .ok (.iload_n 2, 1) := by decide +kernel
theorem dX12_sizeOf_13 : decode cX12_sizeOf 13 = .ok (.invokestatic 108, 3) := by decide +kernel
theorem dX12_sizeOf_16 : decode cX12_sizeOf 16 = .ok (.ifCond .eq 7, 3) := by decide +kernel
theorem dX12_sizeOf_19 : decode cX12_sizeOf 19 = .ok (.iconst 1, 1) := by decide +kernel
theorem dX12_sizeOf_20 : decode cX12_sizeOf 20 = .ok (.goto 4, 3) := by decide +kernel
theorem dX12_sizeOf_23 : decode cX12_sizeOf 23 = .ok (.iconst 0, 1) := by decide +kernel
theorem dX12_sizeOf_24 : decode cX12_sizeOf 24 = .ok (.iadd, 1) := by decide +kernel
theorem dX12_sizeOf_25 : decode cX12_sizeOf 25 = .ok (.istore_n 1, 1) := by decide +kernel
theorem dX12_sizeOf_26 : decode cX12_sizeOf 26 = .ok (.iinc 2 1, 3) := by decide +kernel
theorem dX12_sizeOf_29 : decode cX12_sizeOf 29 = .ok (.goto (-25), 3) := by decide +kernel
theorem dX12_sizeOf_32 : decode cX12_sizeOf 32 = .ok (.iload_n 1, 1) := by decide +kernel
theorem dX12_sizeOf_33 : decode cX12_sizeOf 33 = .ok (.ireturn, 1) := by decide +kernel
theorem dX12_look2_0 : decode cX12_look2 0 = .ok (.iload_n 1, 1) := by decide +kernel
theorem dX12_look2_1 : decode cX12_look2 1 = .ok (.aload_n 0, 1) := by decide +kernel
theorem dX12_look2_2 : decode cX12_look2 2 = .ok (.getfield 112, 3) := by decide +kernel
theorem dX12_look2_5 : decode cX12_look2 5 = .ok (.if_icmp .ge 16, 3) := by decide +kernel
theorem dX12_look2_8 : decode cX12_look2 8 = .ok (.aload_n 0, 1) := by decide +kernel
theorem dX12_look2_9 : decode cX12_look2 9 = .ok (.getfield 24, 3) := by decide +kernel
theorem dX12_look2_12 : decode cX12_look2 12 = .ok (.iload_n 1, 1) := by decide +kernel
theorem dX12_look2_13 : decode cX12_look2 13 = .ok (.baload, 1) := by decide +kernel
theorem dX12_look2_14 : decode cX12_look2 14 = .ok (.sipush 255, 3) := by decide +kernel
theorem dX12_look2_17 : decode cX12_look2 17 = .ok (.iand, 1) := by decide +kernel
theorem dX12_look2_18 : decode cX12_look2 18 = .ok (.goto 4, 3) := by decide +kernel
theorem dX12_look2_21 : decode cX12_look2 21 = .ok (.iconst 0, 1) := by decide +kernel
theorem dX12_look2_22 : decode cX12_look2 22 = .ok (.ireturn, 1) := by decide +kernel
theorem dX12_isLetter_0 : decode cX12_isLetter 0 = .ok (.iload_n 0, 1) := by decide +kernel
theorem dX12_isLetter_1 : decode cX12_isLetter 1 = .ok (.bipush 97, 2) := by decide +kernel
theorem dX12_isLetter_3 : decode cX12_isLetter 3 = .ok (.if_icmp .lt 13, 3) := by decide +kernel
theorem dX12_isLetter_6 : decode cX12_isLetter 6 = .ok (.iload_n 0, 1) := by decide +kernel
theorem dX12_isLetter_7 : decode cX12_isLetter 7 = .ok (.bipush 122, 2) := by decide +kernel
theorem dX12_isLetter_9 : decode cX12_isLetter 9 = .ok (.if_icmp .gt 7, 3) := by decide +kernel
theorem dX12_isLetter_12 : decode cX12_isLetter 12 = .ok (.iconst 1, 1) := by decide +kernel
theorem dX12_isLetter_13 : decode cX12_isLetter 13 = .ok (.goto 4, 3) := by decide +kernel
theorem dX12_isLetter_16 : decode cX12_isLetter 16 = .ok (.iconst 0, 1) := by decide +kernel
theorem dX12_isLetter_17 : decode cX12_isLetter 17 = .ok (.ireturn, 1) := by decide +kernel
theorem dX12_isDigit_0 : decode cX12_isDigit 0 = .ok (.iload_n 0, 1) := by decide +kernel
theorem dX12_isDigit_1 : decode cX12_isDigit 1 = .ok (.bipush 48, 2) := by decide +kernel
theorem dX12_isDigit_3 : decode cX12_isDigit 3 = .ok (.if_icmp .lt 13, 3) := by decide +kernel
theorem dX12_isDigit_6 : decode cX12_isDigit 6 = .ok (.iload_n 0, 1) := by decide +kernel
theorem dX12_isDigit_7 : decode cX12_isDigit 7 = .ok (.bipush 57, 2) := by decide +kernel
theorem dX12_isDigit_9 : decode cX12_isDigit 9 = .ok (.if_icmp .gt 7, 3) := by decide +kernel
theorem dX12_isDigit_12 : decode cX12_isDigit 12 = .ok (.iconst 1, 1) := by decide +kernel
theorem dX12_isDigit_13 : decode cX12_isDigit 13 = .ok (.goto 4, 3) := by decide +kernel
theorem dX12_isDigit_16 : decode cX12_isDigit 16 = .ok (.iconst 0, 1) := by decide +kernel
theorem dX12_isDigit_17 : decode cX12_isDigit 17 = .ok (.ireturn, 1) := by decide +kernel
theorem dX12_isSignByte_0 : decode cX12_isSignByte 0 = .ok (.iload_n 1, 1) := by decide +kernel
theorem dX12_isSignByte_1 : decode cX12_isSignByte 1 = .ok (.bipush 59, 2) := by decide +kernel
theorem dX12_isSignByte_3 : decode cX12_isSignByte 3 = .ok (.if_icmp .eq 21, 3) := by decide +kernel
theorem dX12_isSignByte_6 : decode cX12_isSignByte 6 = .ok (.iload_n 1, 1) := by decide +kernel
theorem dX12_isSignByte_7 : decode cX12_isSignByte 7 = .ok (.bipush 60, 2) := by decide +kernel
theorem dX12_isSignByte_9 : decode cX12_isSignByte 9 = .ok (.if_icmp .eq 15, 3) := by decide +kernel
theorem dX12_isSignByte_12 : decode cX12_isSignByte 12 = .ok (.iload_n 1, 1) := by decide +kernel
theorem dX12_isSignByte_13 : decode cX12_isSignByte 13 = .ok (.bipush 62, 2) := by decide +kernel
theorem dX12_isSignByte_15 : decode cX12_isSignByte 15 = .ok (.if_icmp .eq 9, 3) := by decide +kernel
theorem dX12_isSignByte_18 : decode cX12_isSignByte 18 = .ok (.iload_n 1, 1) := by decide +kernel
theorem dX12_isSignByte_19 : decode cX12_isSignByte 19 = .ok (.bipush 61, 2) := by decide +kernel
theorem dX12_isSignByte_21 : decode cX12_isSignByte 21 = .ok (.if_icmp .ne 7, 3) := by decide +kernel
theorem dX12_isSignByte_24 : decode cX12_isSignByte 24 = .ok (.iconst 1, 1) := by decide +kernel
theorem dX12_isSignByte_25 : decode cX12_isSignByte 25 = .ok (.goto 4, 3) := by decide +kernel
theorem dX12_isSignByte_28 : decode cX12_isSignByte 28 = .ok (.iconst 0, 1) := by decide +kernel
theorem dX12_isSignByte_29 : decode cX12_isSignByte 29 = .ok (.ireturn, 1) := by decide +kernel
theorem dX12_advance_0 : decode cX12_advance 0 = .ok (.aload_n 0, 1) := by decide +kernel
theorem dX12_advance_1 : decode cX12_advance 1 = .ok (.aload_n 0, 1) := by decide +kernel
theorem dX12_advance_2 : decode cX12_advance 2 = .ok (.getfield 115, 3) := by decide +kernel
theorem dX12_advance_5 : decode cX12_advance 5 = .ok (.putfield 118, 3) := by decide +kernel
theorem dX12_advance_8 : decode cX12_advance 8 = .ok (.aload_n 0, 1) := by decide +kernel
theorem dX12_advance_9 : decode cX12_advance 9 = .ok (.getfield 118, 3) := by decide +kernel
theorem dX12_advance_12 : decode cX12_advance 12 = .ok (.aload_n 0, 1) := by decide +kernel
theorem dX12_advance_13 : decode cX12_advance 13 = .ok (.getfield 112, 3) := by decide +kernel
theorem dX12_advance_16 : decode cX12_advance 16 = .ok (.if_icmp .ge 42, 3) := by decide +kernel
theorem dX12_advance_19 : decode cX12_advance 19 = .ok (.aload_n 0, 1) := by decide +kernel
theorem dX12_advance_20 : decode cX12_advance 20 = .ok (.aload_n 0, 1) := by decide +kernel
theorem dX12_advance_21 : decode cX12_advance 21 = .ok (.getfield 118, 3) := by decide +kernel
theorem dX12_advance_24 : decode cX12_advance 24 = .ok (.invokevirtual 121, 3) := by decide +kernel
theorem dX12_advance_27 : decode cX12_advance 27 = .ok (.bipush 10, 2) := by decide +kernel
theorem dX12_advance_29 : decode cX12_advance 29 = .ok (.if_icmp .eq 16, 3) := by decide +kernel
theorem dX12_advance_32 : decode cX12_advance 32 = .ok (.aload_n 0, 1) := by decide +kernel
theorem dX12_advance_33 : decode cX12_advance 33 = .ok (.aload_n 0, 1) := by decide +kernel
theorem dX12_advance_34 : decode cX12_advance 34 = .ok (.getfield 118, 3) := by decide +kernel
theorem dX12_advance_37 : decode cX12_advance 37 = .ok (.invokevirtual 121, 3) := by decide +kernel
theorem dX12_advance_40 : decode cX12_advance 40 = .ok (.bipush 32, 2) := by decide +kernel
theorem dX12_advance_42 : decode cX12_advance 42 = .ok (.if_icmp .ne 16, 3) := by decide +kernel
theorem dX12_advance_45 : decode cX12_advance 45 = .ok (.aload_n 0, 1) := by decide +kernel
theorem dX12_advance_46 : decode cX12_advance 46 = .ok (.dup, 1) := by decide +kernel
theorem dX12_advance_47 : decode cX12_advance 47 = .ok (.getfield 118, 3) := by decide +kernel
theorem dX12_advance_50 : decode cX12_advance 50 = .ok (.iconst 1, 1) := by decide +kernel
theorem dX12_advance_51 : decode cX12_advance 51 = .ok (.iadd, 1) := by decide +kernel
theorem dX12_advance_52 : decode cX12_advance 52 = .ok (.putfield 118, 3) := by decide +kernel
theorem dX12_advance_55 : decode cX12_advance 55 = .ok (.goto (-47), 3) := by decide +kernel
theorem dX12_advance_58 : decode cX12_advance 58 = .ok (.aload_n 0, 1) := by decide +kernel
theorem dX12_advance_59 : decode cX12_advance 59 = .ok (.aload_n 0, 1) := by decide +kernel
theorem dX12_advance_60 : decode cX12_advance 60 = .ok (.getfield 118, 3) := by decide +kernel
theorem dX12_advance_63 : decode cX12_advance 63 = .ok (.putfield 115, 3) := by decide +kernel
theorem dX12_advance_66 : decode cX12_advance 66 = .ok (.aload_n 0, 1) := by decide +kernel
theorem dX12_advance_67 : decode cX12_advance 67 = .ok (.getfield 118, 3) := by decide +kernel
theorem dX12_advance_70 : decode cX12_advance 70 = .ok (.aload_n 0, 1) := by decide +kernel
theorem dX12_advance_71 : decode cX12_advance 71 = .ok (.getfield 112, 3) := by decide +kernel
theorem dX12_advance_74 : decode cX12_advance 74 = .ok (.if_icmp .lt 9, 3) := by decide +kernel
theorem dX12_advance_77 : decode cX12_advance 77 = .ok (.aload_n 0, 1) := by decide +kernel
theorem dX12_advance_78 : decode cX12_advance 78 = .ok (.iconst 0, 1) := by decide +kernel
theorem dX12_advance_79 : decode cX12_advance 79 = .ok (.putfield 124, 3) := by decide +kernel
theorem dX12_advance_82 : decode cX12_advance 82 = .ok (.return_, 1) := by decide +kernel
theorem dX12_advance_83 : decode cX12_advance 83 = .ok (.aload_n 0, 1) := by decide +kernel
theorem dX12_advance_84 : decode cX12_advance 84 = .ok (.aload_n 0, 1) := by decide +kernel
theorem dX12_advance_85 : decode cX12_advance 85 = .ok (.getfield 118, 3) := by decide +kernel
theorem dX12_advance_88 : decode cX12_advance 88 = .ok (.invokevirtual 121, 3) := by decide +kernel
theorem dX12_advance_91 : decode cX12_advance 91 = .ok (.istore_n 1, 1) := by decide +kernel
theorem dX12_advance_92 : decode cX12_advance 92 = .ok (.iload_n 1, 1) := by decide +kernel
theorem dX12_advance_93 : decode cX12_advance 93 = .ok (.invokestatic 127, 3) := by decide +kernel
theorem dX12_advance_96 : decode cX12_advance 96 = .ok (.ifCond .eq 102, 3) := by decide +kernel
theorem dX12_advance_99 : decode cX12_advance 99 = .ok (.aload_n 0, 1) := by decide +kernel
theorem dX12_advance_100 : decode cX12_advance 100 = .ok (.iconst 1, 1) := by decide +kernel
theorem dX12_advance_101 : decode cX12_advance 101 = .ok (.putfield 124, 3) := by decide +kernel
theorem dX12_advance_104 : decode cX12_advance 104 = .ok (.aload_n 0, 1) := by decide +kernel
theorem dX12_advance_105 : decode cX12_advance 105 = .ok (.lconst 0, 1) := by decide +kernel
theorem dX12_advance_106 : decode cX12_advance 106 = .ok (.putfield 130, 3) := by decide +kernel
theorem dX12_advance_109 : decode cX12_advance 109 = .ok (.aload_n 0, 1) := by decide +kernel
theorem dX12_advance_110 : decode cX12_advance 110 = .ok (.aload_n 0, 1) := by decide +kernel
theorem dX12_advance_111 : decode cX12_advance 111 = .ok (.getfield 115, 3) := by decide +kernel
theorem dX12_advance_114 : decode cX12_advance 114 = .ok (.invokevirtual 121, 3) := by decide +kernel
theorem dX12_advance_117 : decode cX12_advance 117 = .ok (.invokestatic 127, 3) := by decide +kernel
theorem dX12_advance_120 : decode cX12_advance 120 = .ok (.ifCond .eq 62, 3) := by decide +kernel
theorem dX12_advance_123 : decode cX12_advance 123 = .ok (.aload_n 0, 1) := by decide +kernel
theorem dX12_advance_124 : decode cX12_advance 124 = .ok (.aload_n 0, 1) := by decide +kernel
theorem dX12_advance_125 : decode cX12_advance 125 = .ok (.getfield 115, 3) := by decide +kernel
theorem dX12_advance_128 : decode cX12_advance 128 = .ok (.aload_n 0, 1) := by decide +kernel
theorem dX12_advance_129 : decode cX12_advance 129 = .ok (.getfield 118, 3) := by decide +kernel
theorem dX12_advance_132 : decode cX12_advance 132 = .ok (.isub, 1) := by decide +kernel
theorem dX12_advance_133 : decode cX12_advance 133 = .ok (.bipush 8, 2) := by decide +kernel
theorem dX12_advance_135 : decode cX12_advance 135 = .ok (.if_icmp .ge 28, 3) := by decide +kernel
theorem dX12_advance_138 : decode cX12_advance 138 = .ok (.aload_n 0, 1) := by decide +kernel
theorem dX12_advance_139 : decode cX12_advance 139 = .ok (.getfield 130, 3) := by decide +kernel
theorem dX12_advance_142 : decode cX12_advance 142 = .ok (.ldc2_w 133, 3) := by decide +kernel
theorem dX12_advance_145 : decode cX12_advance 145 = .ok (.lmul, 1) := by decide +kernel
theorem dX12_advance_146 : decode cX12_advance 146 = .ok (.aload_n 0, 1) := by decide +kernel
theorem dX12_advance_147 : decode cX12_advance 147 = .ok (.aload_n 0, 1) := by decide +kernel
theorem dX12_advance_148 : decode cX12_advance 148 = .ok (.getfield 115, 3) := by decide +kernel
theorem dX12_advance_151 : decode cX12_advance 151 = .ok (.invokevirtual 121, 3) := by decide +kernel
theorem dX12_advance_154 : decode cX12_advance 154 = .ok (.i2l, 1) := by decide +kernel
theorem dX12_advance_155 : decode cX12_advance 155 = .ok (.ladd, 1) := by decide +kernel
theorem dX12_advance_156 : decode cX12_advance 156 = .ok (.ldc2_w 135, 3) := by decide +kernel
theorem dX12_advance_159 : decode cX12_advance 159 = .ok (.lsub, 1) := by decide +kernel
theorem dX12_advance_160 : decode cX12_advance 160 = .ok (.goto 6, 3) := by decide +kernel
theorem dX12_advance_163 : decode cX12_advance 163 = .ok (.ldc2_w 100, 3) := by decide +kernel
theorem dX12_advance_166 : decode cX12_advance 166 = .ok (.putfield 130, 3) := by decide +kernel
theorem dX12_advance_169 : decode cX12_advance 169 = .ok (.aload_n 0, 1) := by decide +kernel
theorem dX12_advance_170 : decode cX12_advance 170 = .ok (.dup, 1) := by decide +kernel
theorem dX12_advance_171 : decode cX12_advance 171 = .ok (.getfield 115, 3) := by decide +kernel
theorem dX12_advance_174 : decode cX12_advance 174 = .ok (.iconst 1, 1) := by decide +kernel
theorem dX12_advance_175 : decode cX12_advance 175 = .ok (.iadd, 1) := by decide +kernel
theorem dX12_advance_176 : decode cX12_advance 176 = .ok (.putfield 115, 3) := by decide +kernel
theorem dX12_advance_179 : decode cX12_advance 179 = .ok (.goto (-70), 3) := by decide +kernel
theorem dX12_advance_182 : decode cX12_advance 182 = .ok (.aload_n 0, 1) := by decide +kernel
theorem dX12_advance_183 : decode cX12_advance 183 = .ok (.aload_n 0, 1) := by decide +kernel
theorem dX12_advance_184 : decode cX12_advance 184 = .ok (.getfield 115, 3) := by decide +kernel
theorem dX12_advance_187 : decode cX12_advance 187 = .ok (.aload_n 0, 1) := by decide +kernel
theorem dX12_advance_188 : decode cX12_advance 188 = .ok (.getfield 118, 3) := by decide +kernel
theorem dX12_advance_191 : decode cX12_advance 191 = .ok (.isub, 1) := by decide +kernel
theorem dX12_advance_192 : decode cX12_advance 192 = .ok (.putfield 137, 3) := by decide +kernel
theorem dX12_advance_195 : decode cX12_advance 195 = .ok (.goto 135, 3) := by decide +kernel
theorem dX12_advance_198 : decode cX12_advance 198 = .ok (.iload_n 1, 1) := by decide +kernel
theorem dX12_advance_199 : decode cX12_advance 199 = .ok (.invokestatic 140, 3) := by decide +kernel
theorem dX12_advance_202 : decode cX12_advance 202 = .ok (.ifCond .eq 96, 3) := by decide +kernel
theorem dX12_advance_205 : decode cX12_advance 205 = .ok (.aload_n 0, 1) := by decide +kernel
theorem dX12_advance_206 : decode cX12_advance 206 = .ok (.iconst 0, 1) := by decide +kernel
theorem dX12_advance_207 : decode cX12_advance 207 = .ok (.putfield 143, 3) := by decide +kernel
theorem dX12_advance_210 : decode cX12_advance 210 = .ok (.aload_n 0, 1) := by decide +kernel
theorem dX12_advance_211 : decode cX12_advance 211 = .ok (.aload_n 0, 1) := by decide +kernel
theorem dX12_advance_212 : decode cX12_advance 212 = .ok (.getfield 115, 3) := by decide +kernel
theorem dX12_advance_215 : decode cX12_advance 215 = .ok (.invokevirtual 121, 3) := by decide +kernel
theorem dX12_advance_218 : decode cX12_advance 218 = .ok (.invokestatic 140, 3) := by decide +kernel
theorem dX12_advance_221 : decode cX12_advance 221 = .ok (.ifCond .eq 52, 3) := by decide +kernel
theorem dX12_advance_224 : decode cX12_advance 224 = .ok (.aload_n 0, 1) := by decide +kernel
theorem dX12_advance_225 : decode cX12_advance 225 = .ok (.getfield 115, 3) := by decide +kernel
theorem dX12_advance_228 : decode cX12_advance 228 = .ok (.aload_n 0, 1) := by decide +kernel
theorem dX12_advance_229 : decode cX12_advance 229 = .ok (.getfield 118, 3) := by decide +kernel
theorem dX12_advance_232 : decode cX12_advance 232 = .ok (.isub, 1) := by decide +kernel
theorem dX12_advance_233 : decode cX12_advance 233 = .ok (.iconst 4, 1) := by decide +kernel
theorem dX12_advance_234 : decode cX12_advance 234 = .ok (.if_icmp .ge 26, 3) := by decide +kernel
theorem dX12_advance_237 : decode cX12_advance 237 = .ok (.aload_n 0, 1) := by decide +kernel
theorem dX12_advance_238 : decode cX12_advance 238 = .ok (.bipush 10, 2) := by decide +kernel
theorem dX12_advance_240 : decode cX12_advance 240 = .ok (.aload_n 0, 1) := by decide +kernel
theorem dX12_advance_241 : decode cX12_advance 241 = .ok (.getfield 143, 3) := by decide +kernel
theorem dX12_advance_244 : decode cX12_advance 244 = .ok (.imul, 1) := by decide +kernel
theorem dX12_advance_245 : decode cX12_advance 245 = .ok (.aload_n 0, 1) := by decide +kernel
theorem dX12_advance_246 : decode cX12_advance 246 = .ok (.aload_n 0, 1) := by decide +kernel
theorem dX12_advance_247 : decode cX12_advance 247 = .ok (.getfield 115, 3) := by decide +kernel
theorem dX12_advance_250 : decode cX12_advance 250 = .ok (.invokevirtual 121, 3) := by decide +kernel
theorem dX12_advance_253 : decode cX12_advance 253 = .ok (.iadd, 1) := by decide +kernel
theorem dX12_advance_254 : decode cX12_advance 254 = .ok (.bipush 48, 2) := by decide +kernel
theorem dX12_advance_256 : decode cX12_advance 256 = .ok (.isub, 1) := by decide +kernel
theorem dX12_advance_257 : decode cX12_advance 257 = .ok (.putfield 143, 3) := by decide +kernel
theorem dX12_advance_260 : decode cX12_advance 260 = .ok (.aload_n 0, 1) := by decide +kernel
theorem dX12_advance_261 : decode cX12_advance 261 = .ok (.dup, 1) := by decide +kernel
theorem dX12_advance_262 : decode cX12_advance 262 = .ok (.getfield 115, 3) := by decide +kernel
theorem dX12_advance_265 : decode cX12_advance 265 = .ok (.iconst 1, 1) := by decide +kernel
theorem dX12_advance_266 : decode cX12_advance 266 = .ok (.iadd, 1) := by decide +kernel
theorem dX12_advance_267 : decode cX12_advance 267 = .ok (.putfield 115, 3) := by decide +kernel
theorem dX12_advance_270 : decode cX12_advance 270 = .ok (.goto (-60), 3) := by decide +kernel
theorem dX12_advance_273 : decode cX12_advance 273 = .ok (.aload_n 0, 1) := by decide +kernel
theorem dX12_advance_274 : decode cX12_advance 274 = .ok (.aload_n 0, 1) := by decide +kernel
theorem dX12_advance_275 : decode cX12_advance 275 = .ok (.getfield 115, 3) := by decide +kernel
theorem dX12_advance_278 : decode cX12_advance 278 = .ok (.aload_n 0, 1) := by decide +kernel
theorem dX12_advance_279 : decode cX12_advance 279 = .ok (.getfield 118, 3) := by decide +kernel
theorem dX12_advance_282 : decode cX12_advance 282 = .ok (.isub, 1) := by decide +kernel
theorem dX12_advance_283 : decode cX12_advance 283 = .ok (.iconst 4, 1) := by decide +kernel
theorem dX12_advance_284 : decode cX12_advance 284 = .ok (.if_icmp .le 7, 3) := by decide +kernel
theorem dX12_advance_287 : decode cX12_advance 287 = .ok (.iconst 4, 1) := by decide +kernel
theorem dX12_advance_288 : decode cX12_advance 288 = .ok (.goto 4, 3) := by decide +kernel
theorem dX12_advance_291 : decode cX12_advance 291 = .ok (.iconst 2, 1) := by decide +kernel
theorem dX12_advance_292 : decode cX12_advance 292 = .ok (.putfield 124, 3) := by decide +kernel
theorem dX12_advance_295 : decode cX12_advance 295 = .ok (.goto 35, 3) := by decide +kernel
theorem dX12_advance_298 : decode cX12_advance 298 = .ok (.aload_n 0, 1) := by decide +kernel
theorem dX12_advance_299 : decode cX12_advance 299 = .ok (.aload_n 0, 1) := by decide +kernel
theorem dX12_advance_300 : decode cX12_advance 300 = .ok (.getfield 118, 3) := by decide +kernel
theorem dX12_advance_303 : decode cX12_advance 303 = .ok (.iconst 1, 1) := by decide +kernel
theorem dX12_advance_304 : decode cX12_advance 304 = .ok (.iadd, 1) := by decide +kernel
theorem dX12_advance_305 : decode cX12_advance 305 = .ok (.putfield 115, 3) := by decide +kernel
theorem dX12_advance_308 : decode cX12_advance 308 = .ok (.aload_n 0, 1) := by decide +kernel
theorem dX12_advance_309 : decode cX12_advance 309 = .ok (.iload_n 1, 1) := by decide +kernel
theorem dX12_advance_310 : decode cX12_advance 310 = .ok (.putfield 143, 3) := by decide +kernel
theorem dX12_advance_313 : decode cX12_advance 313 = .ok (.aload_n 0, 1) := by decide +kernel
theorem dX12_advance_314 : decode cX12_advance 314 = .ok (.aload_n 0, 1) := by decide +kernel
theorem dX12_advance_315 : decode cX12_advance 315 = .ok (.iload_n 1, 1) := by decide +kernel
theorem dX12_advance_316 : decode cX12_advance 316 = .ok (.invokevirtual 146, 3) := by decide +kernel
theorem dX12_advance_319 : decode cX12_advance 319 = .ok (.ifCond .eq 7, 3) := by decide +kernel
theorem dX12_advance_322 : decode cX12_advance 322 = .ok (.iconst 3, 1) := by decide +kernel
theorem dX12_advance_323 : decode cX12_advance 323 = .ok (.goto 4, 3) := by decide +kernel
theorem dX12_advance_326 : decode cX12_advance 326 = .ok (.iconst 4, 1) := by decide +kernel
theorem dX12_advance_327 : decode cX12_advance 327 = .ok (.putfield 124, 3) := by decide +kernel
theorem dX12_advance_330 : decode cX12_advance 330 = .ok (.return_, 1) := by decide +kernel
theorem dX12_isSign_0 : decode cX12_isSign 0 = .ok (.aload_n 0, 1) := by decide +kernel
theorem dX12_isSign_1 : decode cX12_isSign 1 = .ok (.getfield 124, 3) := by decide +kernel
theorem dX12_isSign_4 : decode cX12_isSign 4 = .ok (.iconst 3, 1) := by decide +kernel
theorem dX12_isSign_5 : decode cX12_isSign 5 = .ok (.if_icmp .ne 15, 3) := by decide +kernel
theorem dX12_isSign_8 : decode cX12_isSign 8 = .ok (.aload_n 0, 1) := by decide +kernel
theorem dX12_isSign_9 : decode cX12_isSign 9 = .ok (.getfield 143, 3) := by decide +kernel
theorem dX12_isSign_12 : decode cX12_isSign 12 = .ok (.iload_n 1, 1) := by decide +kernel
theorem dX12_isSign_13 : decode cX12_isSign 13 = .ok (.if_icmp .ne 7, 3) := by decide +kernel
theorem dX12_isSign_16 : decode cX12_isSign 16 = .ok (.iconst 1, 1) := by decide +kernel
theorem dX12_isSign_17 : decode cX12_isSign 17 = .ok (.goto 4, 3) := by decide +kernel
theorem dX12_isSign_20 : decode cX12_isSign 20 = .ok (.iconst 0, 1) := by decide +kernel
theorem dX12_isSign_21 : decode cX12_isSign 21 = .ok (.ireturn, 1) := by decide +kernel
theorem dX12_spelled_0 : decode cX12_spelled 0 = .ok (.iload_n 0, 1) := by decide +kernel
theorem dX12_spelled_1 : decode cX12_spelled 1 = .ok (.i2l, 1) := by decide +kernel
theorem dX12_spelled_2 : decode cX12_spelled 2 = .ok (.ldc2_w 135, 3) := by decide +kernel
theorem dX12_spelled_5 : decode cX12_spelled 5 = .ok (.lsub, 1) := by decide +kernel
theorem dX12_spelled_6 : decode cX12_spelled 6 = .ok (.ldc2_w 133, 3) := by decide +kernel
theorem dX12_spelled_9 : decode cX12_spelled 9 = .ok (.lmul, 1) := by decide +kernel
theorem dX12_spelled_10 : decode cX12_spelled 10 = .ok (.iload_n 1, 1) := by decide +kernel
theorem dX12_spelled_11 : decode cX12_spelled 11 = .ok (.i2l, 1) := by decide +kernel
theorem dX12_spelled_12 : decode cX12_spelled 12 = .ok (.ladd, 1) := by decide +kernel
theorem dX12_spelled_13 : decode cX12_spelled 13 = .ok (.ldc2_w 135, 3) := by decide +kernel
theorem dX12_spelled_16 : decode cX12_spelled 16 = .ok (.lsub, 1) := by decide +kernel
theorem dX12_spelled_17 : decode cX12_spelled 17 = .ok (.lstore 6, 2) := by decide +kernel
theorem dX12_spelled_19 : decode cX12_spelled 19 = .ok (.iload_n 2, 1) := by decide +kernel
theorem dX12_spelled_20 : decode cX12_spelled 20 = .ok (.ifCond .le 19, 3) := by decide +kernel
theorem dX12_spelled_23 : decode cX12_spelled 23 = .ok (.lload 6, 2) := by decide +kernel
theorem dX12_spelled_25 : decode cX12_spelled 25 = .ok (.ldc2_w 133, 3) := by decide +kernel
theorem dX12_spelled_28 : decode cX12_spelled 28 = .ok (.lmul, 1) := by decide +kernel
theorem dX12_spelled_29 : decode cX12_spelled 29 = .ok (.iload_n 2, 1) := by decide +kernel
theorem dX12_spelled_30 : decode cX12_spelled 30 = .ok (.i2l, 1) := by decide +kernel
theorem dX12_spelled_31 : decode cX12_spelled 31 = .ok (.ladd, 1) := by decide +kernel
theorem dX12_spelled_32 : decode cX12_spelled 32 = .ok (.ldc2_w 135, 3) := by decide +kernel
theorem dX12_spelled_35 : decode cX12_spelled 35 = .ok (.lsub, 1) := by decide +kernel
theorem dX12_spelled_36 : decode cX12_spelled 36 = .ok (.goto 5, 3) := by decide +kernel
theorem dX12_spelled_39 : decode cX12_spelled 39 = .ok (.lload 6, 2) := by decide +kernel
theorem dX12_spelled_41 : decode cX12_spelled 41 = .ok (.lstore 6, 2) := by decide +kernel
theorem dX12_spelled_43 : decode cX12_spelled 43 = .ok (.iload_n 3, 1) := by decide +kernel
theorem dX12_spelled_44 : decode cX12_spelled 44 = .ok (.ifCond .le 19, 3) := by decide +kernel
theorem dX12_spelled_47 : decode cX12_spelled 47 = .ok (.lload 6, 2) := by decide +kernel
theorem dX12_spelled_49 : decode cX12_spelled 49 = .ok (.ldc2_w 133, 3) := by decide +kernel
theorem dX12_spelled_52 : decode cX12_spelled 52 = .ok (.lmul, 1) := by decide +kernel
theorem dX12_spelled_53 : decode cX12_spelled 53 = .ok (.iload_n 3, 1) := by decide +kernel
theorem dX12_spelled_54 : decode cX12_spelled 54 = .ok (.i2l, 1) := by decide +kernel
theorem dX12_spelled_55 : decode cX12_spelled 55 = .ok (.ladd, 1) := by decide +kernel
theorem dX12_spelled_56 : decode cX12_spelled 56 = .ok (.ldc2_w 135, 3) := by decide +kernel
theorem dX12_spelled_59 : decode cX12_spelled 59 = .ok (.lsub, 1) := by decide +kernel
theorem dX12_spelled_60 : decode cX12_spelled 60 = .ok (.goto 5, 3) := by decide +kernel
theorem dX12_spelled_63 : decode cX12_spelled 63 = .ok (.lload 6, 2) := by decide +kernel
theorem dX12_spelled_65 : decode cX12_spelled 65 = .ok (.lstore 6, 2) := by decide +kernel
theorem dX12_spelled_67 : decode cX12_spelled 67 = .ok (.iload 4, 2) := by decide +kernel
theorem dX12_spelled_69 : decode cX12_spelled 69 = .ok (.ifCond .le 20, 3) := by decide +kernel
theorem dX12_spelled_72 : decode cX12_spelled 72 = .ok (.lload 6, 2) := by decide +kernel
theorem dX12_spelled_74 : decode cX12_spelled 74 = .ok (.ldc2_w 133, 3) := by decide +kernel
theorem dX12_spelled_77 : decode cX12_spelled 77 = .ok (.lmul, 1) := by decide +kernel
theorem dX12_spelled_78 : decode cX12_spelled 78 = .ok (.iload 4, 2) := by decide +kernel
theorem dX12_spelled_80 : decode cX12_spelled 80 = .ok (.i2l, 1) := by decide +kernel
theorem dX12_spelled_81 : decode cX12_spelled 81 = .ok (.ladd, 1) := by decide +kernel
theorem dX12_spelled_82 : decode cX12_spelled 82 = .ok (.ldc2_w 135, 3) := by decide +kernel
theorem dX12_spelled_85 : decode cX12_spelled 85 = .ok (.lsub, 1) := by decide +kernel
theorem dX12_spelled_86 : decode cX12_spelled 86 = .ok (.goto 5, 3) := by decide +kernel
theorem dX12_spelled_89 : decode cX12_spelled 89 = .ok (.lload 6, 2) := by decide +kernel
theorem dX12_spelled_91 : decode cX12_spelled 91 = .ok (.lstore 6, 2) := by decide +kernel
theorem dX12_spelled_93 : decode cX12_spelled 93 = .ok (.iload 5, 2) := by decide +kernel
theorem dX12_spelled_95 : decode cX12_spelled 95 = .ok (.ifCond .le 20, 3) := by decide +kernel
theorem dX12_spelled_98 : decode cX12_spelled 98 = .ok (.lload 6, 2) := by decide +kernel
theorem dX12_spelled_100 : decode cX12_spelled 100 = .ok (.ldc2_w 133, 3) := by decide +kernel
theorem dX12_spelled_103 : decode cX12_spelled 103 = .ok (.lmul, 1) := by decide +kernel
theorem dX12_spelled_104 : decode cX12_spelled 104 = .ok (.iload 5, 2) := by decide +kernel
theorem dX12_spelled_106 : decode cX12_spelled 106 = .ok (.i2l, 1) := by decide +kernel
theorem dX12_spelled_107 : decode cX12_spelled 107 = .ok (.ladd, 1) := by decide +kernel
theorem dX12_spelled_108 : decode cX12_spelled 108 = .ok (.ldc2_w 135, 3) := by decide +kernel
theorem dX12_spelled_111 : decode cX12_spelled 111 = .ok (.lsub, 1) := by decide +kernel
theorem dX12_spelled_112 : decode cX12_spelled 112 = .ok (.goto 5, 3) := by decide +kernel
theorem dX12_spelled_115 : decode cX12_spelled 115 = .ok (.lload 6, 2) := by decide +kernel
theorem dX12_spelled_117 : decode cX12_spelled 117 = .ok (.lreturn, 1) := by decide +kernel
theorem dX12_isWord_0 : decode cX12_isWord 0 = .ok (.aload_n 0, 1) := by decide +kernel
theorem dX12_isWord_1 : decode cX12_isWord 1 = .ok (.getfield 124, 3) := by decide +kernel
theorem dX12_isWord_4 : decode cX12_isWord 4 = .ok (.iconst 1, 1) := by decide +kernel
theorem dX12_isWord_5 : decode cX12_isWord 5 = .ok (.if_icmp .ne 16, 3) := by decide +kernel
theorem dX12_isWord_8 : decode cX12_isWord 8 = .ok (.aload_n 0, 1) := by decide +kernel
