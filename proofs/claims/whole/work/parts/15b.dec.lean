theorem dX2_init_0 : decode cX2_init 0 = .ok (.aload_n 0, 1) := by decide +kernel
theorem dX2_init_1 : decode cX2_init 1 = .ok (.invokespecial 3, 3) := by decide +kernel
theorem dX2_init_4 : decode cX2_init 4 = .ok (.aload_n 0, 1) := by decide +kernel
theorem dX2_init_5 : decode cX2_init 5 = .ok (.new 9, 3) := by decide +kernel
theorem dX2_init_8 : decode cX2_init 8 = .ok (.dup, 1) := by decide +kernel
theorem dX2_init_9 : decode cX2_init 9 = .ok (.invokespecial 11, 3) := by decide +kernel
theorem dX2_init_12 : decode cX2_init 12 = .ok (.putfield 12, 3) := by decide +kernel
theorem dX2_init_15 : decode cX2_init 15 = .ok (.aload_n 0, 1) := by decide +kernel
theorem dX2_init_16 : decode cX2_init 16 = .ok (.iconst 3, 1) := by decide +kernel
theorem dX2_init_17 : decode cX2_init 17 = .ok (.newarray .int, 2) := by decide +kernel
theorem dX2_init_19 : decode cX2_init 19 = .ok (.putfield 18, 3) := by decide +kernel
theorem dX2_init_22 : decode cX2_init 22 = .ok (.aload_n 0, 1) := by decide +kernel
theorem dX2_init_23 : decode cX2_init 23 = .ok (.iconst 0, 1) := by decide +kernel
theorem dX2_init_24 : decode cX2_init 24 = .ok (.putfield 22, 3) := by decide +kernel
theorem dX2_init_27 : decode cX2_init 27 = .ok (.aload_n 0, 1) := by decide +kernel
theorem dX2_init_28 : decode cX2_init 28 = .ok (.aload_n 1, 1) := by decide +kernel
theorem dX2_init_29 : decode cX2_init 29 = .ok (.putfield 26, 3) := by decide +kernel
theorem dX2_init_32 : decode cX2_init 32 = .ok (.aload_n 0, 1) := by decide +kernel
theorem dX2_init_33 : decode cX2_init 33 = .ok (.aload_n 2, 1) := by decide +kernel
theorem dX2_init_34 : decode cX2_init 34 = .ok (.putfield 30, 3) := by decide +kernel
theorem dX2_init_37 : decode cX2_init 37 = .ok (.return_, 1) := by decide +kernel
theorem dX2_readEvenings_0 : decode cX2_readEvenings 0 = .ok (.aload_n 0, 1) := by decide +kernel
theorem dX2_readEvenings_1 : decode cX2_readEvenings 1 = .ok (.iconst 0, 1) := by decide +kernel
theorem dX2_readEvenings_2 : decode cX2_readEvenings 2 = .ok (.putfield 22, 3) := by decide +kernel
theorem dX2_readEvenings_5 : decode cX2_readEvenings 5 = .ok (.aload_n 0, 1) := by decide +kernel
theorem dX2_readEvenings_6 : decode cX2_readEvenings 6 = .ok (.getfield 12, 3) := by decide +kernel
theorem dX2_readEvenings_9 : decode cX2_readEvenings 9 = .ok (.invokevirtual 34, 3) := by decide +kernel
theorem dX2_readEvenings_12 : decode cX2_readEvenings 12 = .ok (.aload_n 0, 1) := by decide +kernel
theorem dX2_readEvenings_13 : decode cX2_readEvenings 13 = .ok (.getfield 26, 3) := by decide +kernel
theorem dX2_readEvenings_16 : decode cX2_readEvenings 16 = .ok (.iload_n 1, 1) := by decide +kernel
theorem dX2_readEvenings_17 : decode cX2_readEvenings 17 = .ok (.invokevirtual 37, 3) := by decide +kernel
theorem dX2_readEvenings_20 : decode cX2_readEvenings 20 = .ok (.iconst 0, 1) := by decide +kernel
theorem dX2_readEvenings_21 : decode cX2_readEvenings 21 = .ok (.istore_n 2, 1) := by decide +kernel
theorem dX2_readEvenings_22 : decode cX2_readEvenings 22 = .ok (.iload_n 2, 1) := by decide +kernel
theorem dX2_readEvenings_23 : decode cX2_readEvenings 23 = .ok (.sipush 900, 3) := by decide +kernel
theorem dX2_readEvenings_26 : decode cX2_readEvenings 26 = .ok (.if_icmp .ge 42, 3) := by decide +kernel
theorem dX2_readEvenings_29 : decode cX2_readEvenings 29 = .ok (.aload_n 0, 1) := by decide +kernel
theorem dX2_readEvenings_30 : decode cX2_readEvenings 30 = .ok (.getfield 26, 3) := by decide +kernel
theorem dX2_readEvenings_33 : decode cX2_readEvenings 33 = .ok (.invokevirtual 43, 3) := by decide +kernel
theorem dX2_readEvenings_36 : decode cX2_readEvenings 36 = .ok (.ifCond .eq 32, 3) := by decide +kernel
theorem dX2_readEvenings_39 : decode cX2_readEvenings 39 = .ok (.aload_n 0, 1) := by decide +kernel
theorem dX2_readEvenings_40 : decode cX2_readEvenings 40 = .ok (.getfield 26, 3) := by decide +kernel
theorem dX2_readEvenings_43 : decode cX2_readEvenings 43 = .ok (.invokevirtual 47, 3) := by decide +kernel
theorem dX2_readEvenings_46 : decode cX2_readEvenings 46 = .ok (.bipush 28, 2) := by decide +kernel
theorem dX2_readEvenings_48 : decode cX2_readEvenings 48 = .ok (.if_icmp .ne 10, 3) := by decide +kernel
theorem dX2_readEvenings_51 : decode cX2_readEvenings 51 = .ok (.aload_n 0, 1) := by decide +kernel
theorem dX2_readEvenings_52 : decode cX2_readEvenings 52 = .ok (.invokevirtual 51, 3) := by decide +kernel
theorem dX2_readEvenings_55 : decode cX2_readEvenings 55 = .ok (.goto 7, 3) := by decide +kernel
theorem dX2_readEvenings_58 : decode cX2_readEvenings 58 = .ok (.aload_n 0, 1) := by decide +kernel
theorem dX2_readEvenings_59 : decode cX2_readEvenings 59 = .ok (.invokevirtual 54, 3) := by decide +kernel
theorem dX2_readEvenings_62 : decode cX2_readEvenings 62 = .ok (.iinc 2 1, 3) := by decide +kernel
theorem dX2_readEvenings_65 : decode cX2_readEvenings 65 = .ok (.goto (-43), 3) := by decide +kernel
theorem dX2_readEvenings_68 : decode cX2_readEvenings 68 = .ok (.aload_n 0, 1) := by decide +kernel
theorem dX2_readEvenings_69 : decode cX2_readEvenings 69 = .ok (.getfield 22, 3) := by decide +kernel
theorem dX2_readEvenings_72 : decode cX2_readEvenings 72 = .ok (.ifCond .le 11, 3) := by decide +kernel
theorem dX2_readEvenings_75 : decode cX2_readEvenings 75 = .ok (.aload_n 0, 1) := by decide +kernel
theorem dX2_readEvenings_76 : decode cX2_readEvenings 76 = .ok (.getfield 26, 3) := by decide +kernel
theorem dX2_readEvenings_79 : decode cX2_readEvenings 79 = .ok (.iconst 2, 1) := by decide +kernel
theorem dX2_readEvenings_80 : decode cX2_readEvenings 80 = .ok (.invokevirtual 57, 3) := by decide +kernel
theorem dX2_readEvenings_83 : decode cX2_readEvenings 83 = .ok (.aload_n 0, 1) := by decide +kernel
theorem dX2_readEvenings_84 : decode cX2_readEvenings 84 = .ok (.getfield 12, 3) := by decide +kernel
theorem dX2_readEvenings_87 : decode cX2_readEvenings 87 = .ok (.iconst 1, 1) := by decide +kernel
theorem dX2_readEvenings_88 : decode cX2_readEvenings 88 = .ok (.putfield 60, 3) := by decide +kernel
theorem dX2_readEvenings_91 : decode cX2_readEvenings 91 = .ok (.aload_n 0, 1) := by decide +kernel
theorem dX2_readEvenings_92 : decode cX2_readEvenings 92 = .ok (.getfield 26, 3) := by decide +kernel
theorem dX2_readEvenings_95 : decode cX2_readEvenings 95 = .ok (.getfield 64, 3) := by decide +kernel
theorem dX2_readEvenings_98 : decode cX2_readEvenings 98 = .ok (.ifCond .ne 7, 3) := by decide +kernel
theorem dX2_readEvenings_101 : decode cX2_readEvenings 101 = .ok (.iconst 1, 1) := by decide +kernel
theorem dX2_readEvenings_102 : decode cX2_readEvenings 102 = .ok (.goto 4, 3) := by decide +kernel
theorem dX2_readEvenings_105 : decode cX2_readEvenings 105 = .ok (.iconst 0, 1) := by decide +kernel
theorem dX2_readEvenings_106 : decode cX2_readEvenings 106 = .ok (.ireturn, 1) := by decide +kernel
theorem dX2_readBlockEnd_0 : decode cX2_readBlockEnd 0 = .ok (.aload_n 0, 1) := by decide +kernel
theorem dX2_readBlockEnd_1 : decode cX2_readBlockEnd 1 = .ok (.getfield 22, 3) := by decide +kernel
theorem dX2_readBlockEnd_4 : decode cX2_readBlockEnd 4 = .ok (.ifCond .gt 12, 3) := by decide +kernel
theorem dX2_readBlockEnd_7 : decode cX2_readBlockEnd 7 = .ok (.aload_n 0, 1) := by decide +kernel
theorem dX2_readBlockEnd_8 : decode cX2_readBlockEnd 8 = .ok (.getfield 26, 3) := by decide +kernel
theorem dX2_readBlockEnd_11 : decode cX2_readBlockEnd 11 = .ok (.iconst 2, 1) := by decide +kernel
theorem dX2_readBlockEnd_12 : decode cX2_readBlockEnd 12 = .ok (.invokevirtual 57, 3) := by decide +kernel
theorem dX2_readBlockEnd_15 : decode cX2_readBlockEnd 15 = .ok (.return_, 1) := by decide +kernel
theorem dX2_readBlockEnd_16 : decode cX2_readBlockEnd 16 = .ok (.aload_n 0, 1) := by decide +kernel
theorem dX2_readBlockEnd_17 : decode cX2_readBlockEnd 17 = .ok (.dup, 1) := by decide +kernel
theorem dX2_readBlockEnd_18 : decode cX2_readBlockEnd 18 = .ok (.getfield 22, 3) := by decide +kernel
theorem dX2_readBlockEnd_21 : decode cX2_readBlockEnd 21 = .ok (.iconst 1, 1) := by decide +kernel
theorem dX2_readBlockEnd_22 : decode cX2_readBlockEnd 22 = .ok (.isub, 1) := by decide +kernel
theorem dX2_readBlockEnd_23 : decode cX2_readBlockEnd 23 = .ok (.putfield 22, 3) := by decide +kernel
theorem dX2_readBlockEnd_26 : decode cX2_readBlockEnd 26 = .ok (.aload_n 0, 1) := by decide +kernel
theorem dX2_readBlockEnd_27 : decode cX2_readBlockEnd 27 = .ok (.getfield 12, 3) := by decide +kernel
theorem dX2_readBlockEnd_30 : decode cX2_readBlockEnd 30 = .ok (.getfield 67, 3) := by decide +kernel
theorem dX2_readBlockEnd_33 : decode cX2_readBlockEnd 33 = .ok (.aload_n 0, 1) := by decide +kernel
theorem dX2_readBlockEnd_34 : decode cX2_readBlockEnd 34 = .ok (.getfield 18, 3) := by decide +kernel
theorem dX2_readBlockEnd_37 : decode cX2_readBlockEnd 37 = .ok (.aload_n 0, 1) := by decide +kernel
theorem dX2_readBlockEnd_38 : decode cX2_readBlockEnd 38 = .ok (.getfield 22, 3) := by decide +kernel
theorem dX2_readBlockEnd_41 : decode cX2_readBlockEnd 41 = .ok (.iaload, 1) := by decide +kernel
theorem dX2_readBlockEnd_42 : decode cX2_readBlockEnd 42 = .ok (.aload_n 0, 1) := by decide +kernel
theorem dX2_readBlockEnd_43 : decode cX2_readBlockEnd 43 = .ok (.getfield 12, 3) := by decide +kernel
theorem dX2_readBlockEnd_46 : decode cX2_readBlockEnd 46 = .ok (.getfield 70, 3) := by decide +kernel
theorem dX2_readBlockEnd_49 : decode cX2_readBlockEnd 49 = .ok (.iastore, 1) := by decide +kernel
theorem dX2_readBlockEnd_50 : decode cX2_readBlockEnd 50 = .ok (.aload_n 0, 1) := by decide +kernel
theorem dX2_readBlockEnd_51 : decode cX2_readBlockEnd 51 = .ok (.getfield 26, 3) := by decide +kernel
theorem dX2_readBlockEnd_54 : decode cX2_readBlockEnd 54 = .ok (.invokevirtual 73, 3) := by decide +kernel
theorem dX2_readBlockEnd_57 : decode cX2_readBlockEnd 57 = .ok (.aload_n 0, 1) := by decide +kernel
theorem dX2_readBlockEnd_58 : decode cX2_readBlockEnd 58 = .ok (.getfield 26, 3) := by decide +kernel
theorem dX2_readBlockEnd_61 : decode cX2_readBlockEnd 61 = .ok (.invokevirtual 76, 3) := by decide +kernel
theorem dX2_readBlockEnd_64 : decode cX2_readBlockEnd 64 = .ok (.return_, 1) := by decide +kernel
theorem dX2_isStep_0 : decode cX2_isStep 0 = .ok (.iload_n 0, 1) := by decide +kernel
theorem dX2_isStep_1 : decode cX2_isStep 1 = .ok (.bipush 16, 2) := by decide +kernel
theorem dX2_isStep_3 : decode cX2_isStep 3 = .ok (.if_icmp .lt 9, 3) := by decide +kernel
theorem dX2_isStep_6 : decode cX2_isStep 6 = .ok (.iload_n 0, 1) := by decide +kernel
theorem dX2_isStep_7 : decode cX2_isStep 7 = .ok (.bipush 23, 2) := by decide +kernel
theorem dX2_isStep_9 : decode cX2_isStep 9 = .ok (.if_icmp .le 15, 3) := by decide +kernel
theorem dX2_isStep_12 : decode cX2_isStep 12 = .ok (.iload_n 0, 1) := by decide +kernel
theorem dX2_isStep_13 : decode cX2_isStep 13 = .ok (.bipush 27, 2) := by decide +kernel
theorem dX2_isStep_15 : decode cX2_isStep 15 = .ok (.if_icmp .eq 9, 3) := by decide +kernel
theorem dX2_isStep_18 : decode cX2_isStep 18 = .ok (.iload_n 0, 1) := by decide +kernel
theorem dX2_isStep_19 : decode cX2_isStep 19 = .ok (.bipush 29, 2) := by decide +kernel
theorem dX2_isStep_21 : decode cX2_isStep 21 = .ok (.if_icmp .ne 7, 3) := by decide +kernel
theorem dX2_isStep_24 : decode cX2_isStep 24 = .ok (.iconst 1, 1) := by decide +kernel
theorem dX2_isStep_25 : decode cX2_isStep 25 = .ok (.goto 4, 3) := by decide +kernel
theorem dX2_isStep_28 : decode cX2_isStep 28 = .ok (.iconst 0, 1) := by decide +kernel
theorem dX2_isStep_29 : decode cX2_isStep 29 = .ok (.ireturn, 1) := by decide +kernel
theorem dX2_readStep_0 : decode cX2_readStep 0 = .ok (.aload_n 0, 1) := by decide +kernel
theorem dX2_readStep_1 : decode cX2_readStep 1 = .ok (.getfield 26, 3) := by decide +kernel
theorem dX2_readStep_4 : decode cX2_readStep 4 = .ok (.invokevirtual 47, 3) := by decide +kernel
theorem dX2_readStep_7 : decode cX2_readStep 7 = .ok (.istore_n 1, 1) := by decide +kernel
theorem dX2_readStep_8 : decode cX2_readStep 8 = .ok (.iload_n 1, 1) := by decide +kernel
theorem dX2_readStep_9 : decode cX2_readStep 9 = .ok (.bipush 23, 2) := by decide +kernel
theorem dX2_readStep_11 : decode cX2_readStep 11 = .ok (.if_icmp .eq 9, 3) := by decide +kernel
theorem dX2_readStep_14 : decode cX2_readStep 14 = .ok (.iload_n 1, 1) := by decide +kernel
theorem dX2_readStep_15 : decode cX2_readStep 15 = .ok (.bipush 27, 2) := by decide +kernel
theorem dX2_readStep_17 : decode cX2_readStep 17 = .ok (.if_icmp .ne 7, 3) := by decide +kernel
theorem dX2_readStep_20 : decode cX2_readStep 20 = .ok (.iconst 1, 1) := by decide +kernel
theorem dX2_readStep_21 : decode cX2_readStep 21 = .ok (.goto 4, 3) := by decide +kernel
theorem dX2_readStep_24 : decode cX2_readStep 24 = .ok (.iconst 0, 1) := by decide +kernel
theorem dX2_readStep_25 : decode cX2_readStep 25 = .ok (.istore_n 2, 1) := by decide +kernel
theorem dX2_readStep_26 : decode cX2_readStep 26 = .ok (.iload_n 1, 1) := by decide +kernel
theorem dX2_readStep_27 : decode cX2_readStep 27 = .ok (.invokestatic 79, 3) := by decide +kernel
theorem dX2_readStep_30 : decode cX2_readStep 30 = .ok (.ifCond .ne 14, 3) := by decide +kernel
theorem dX2_readStep_33 : decode cX2_readStep 33 = .ok (.aload_n 0, 1) := by decide +kernel
theorem dX2_readStep_34 : decode cX2_readStep 34 = .ok (.getfield 26, 3) := by decide +kernel
theorem dX2_readStep_37 : decode cX2_readStep 37 = .ok (.iconst 2, 1) := by decide +kernel
theorem dX2_readStep_38 : decode cX2_readStep 38 = .ok (.invokevirtual 57, 3) := by decide +kernel
theorem dX2_readStep_41 : decode cX2_readStep 41 = .ok (.goto 275, 3) := by decide +kernel
theorem dX2_readStep_44 : decode cX2_readStep 44 = .ok (.aload_n 0, 1) := by decide +kernel
theorem dX2_readStep_45 : decode cX2_readStep 45 = .ok (.getfield 12, 3) := by decide +kernel
theorem dX2_readStep_48 : decode cX2_readStep 48 = .ok (.getfield 70, 3) := by decide +kernel
theorem dX2_readStep_51 : decode cX2_readStep 51 = .ok (.bipush 30, 2) := by decide +kernel
theorem dX2_readStep_53 : decode cX2_readStep 53 = .ok (.if_icmp .lt 15, 3) := by decide +kernel
theorem dX2_readStep_56 : decode cX2_readStep 56 = .ok (.aload_n 0, 1) := by decide +kernel
theorem dX2_readStep_57 : decode cX2_readStep 57 = .ok (.getfield 26, 3) := by decide +kernel
theorem dX2_readStep_60 : decode cX2_readStep 60 = .ok (.bipush 6, 2) := by decide +kernel
theorem dX2_readStep_62 : decode cX2_readStep 62 = .ok (.invokevirtual 57, 3) := by decide +kernel
theorem dX2_readStep_65 : decode cX2_readStep 65 = .ok (.goto 251, 3) := by decide +kernel
theorem dX2_readStep_68 : decode cX2_readStep 68 = .ok (.iload_n 2, 1) := by decide +kernel
theorem dX2_readStep_69 : decode cX2_readStep 69 = .ok (.ifCond .eq 23, 3) := by decide +kernel
theorem dX2_readStep_72 : decode cX2_readStep 72 = .ok (.aload_n 0, 1) := by decide +kernel
theorem dX2_readStep_73 : decode cX2_readStep 73 = .ok (.getfield 22, 3) := by decide +kernel
theorem dX2_readStep_76 : decode cX2_readStep 76 = .ok (.iconst 3, 1) := by decide +kernel
theorem dX2_readStep_77 : decode cX2_readStep 77 = .ok (.if_icmp .lt 15, 3) := by decide +kernel
theorem dX2_readStep_80 : decode cX2_readStep 80 = .ok (.aload_n 0, 1) := by decide +kernel
theorem dX2_readStep_81 : decode cX2_readStep 81 = .ok (.getfield 26, 3) := by decide +kernel
theorem dX2_readStep_84 : decode cX2_readStep 84 = .ok (.bipush 7, 2) := by decide +kernel
theorem dX2_readStep_86 : decode cX2_readStep 86 = .ok (.invokevirtual 57, 3) := by decide +kernel
theorem dX2_readStep_89 : decode cX2_readStep 89 = .ok (.goto 227, 3) := by decide +kernel
theorem dX2_readStep_92 : decode cX2_readStep 92 = .ok (.aload_n 0, 1) := by decide +kernel
theorem dX2_readStep_93 : decode cX2_readStep 93 = .ok (.getfield 12, 3) := by decide +kernel
theorem dX2_readStep_96 : decode cX2_readStep 96 = .ok (.getfield 70, 3) := by decide +kernel
theorem dX2_readStep_99 : decode cX2_readStep 99 = .ok (.istore_n 3, 1) := by decide +kernel
theorem dX2_readStep_100 : decode cX2_readStep 100 = .ok (.aload_n 0, 1) := by decide +kernel
theorem dX2_readStep_101 : decode cX2_readStep 101 = .ok (.getfield 12, 3) := by decide +kernel
theorem dX2_readStep_104 : decode cX2_readStep 104 = .ok (.getfield 83, 3) := by decide +kernel
theorem dX2_readStep_107 : decode cX2_readStep 107 = .ok (.iload_n 3, 1) := by decide +kernel
theorem dX2_readStep_108 : decode cX2_readStep 108 = .ok (.iload_n 1, 1) := by decide +kernel
theorem dX2_readStep_109 : decode cX2_readStep 109 = .ok (.iastore, 1) := by decide +kernel
theorem dX2_readStep_110 : decode cX2_readStep 110 = .ok (.aload_n 0, 1) := by decide +kernel
theorem dX2_readStep_111 : decode cX2_readStep 111 = .ok (.getfield 12, 3) := by decide +kernel
theorem dX2_readStep_114 : decode cX2_readStep 114 = .ok (.getfield 67, 3) := by decide +kernel
theorem dX2_readStep_117 : decode cX2_readStep 117 = .ok (.iload_n 3, 1) := by decide +kernel
theorem dX2_readStep_118 : decode cX2_readStep 118 = .ok (.iload_n 3, 1) := by decide +kernel
theorem dX2_readStep_119 : decode cX2_readStep 119 = .ok (.iconst 1, 1) := by decide +kernel
theorem dX2_readStep_120 : decode cX2_readStep 120 = .ok (.iadd, 1) := by decide +kernel
theorem dX2_readStep_121 : decode cX2_readStep 121 = .ok (.iastore, 1) := by decide +kernel
theorem dX2_readStep_122 : decode cX2_readStep 122 = .ok (.aload_n 0, 1) := by decide +kernel
theorem dX2_readStep_123 : decode cX2_readStep 123 = .ok (.getfield 12, 3) := by decide +kernel
theorem dX2_readStep_126 : decode cX2_readStep 126 = .ok (.dup, 1) := by decide +kernel
theorem dX2_readStep_127 : decode cX2_readStep 127 = .ok (.getfield 70, 3) := by decide +kernel
theorem dX2_readStep_130 : decode cX2_readStep 130 = .ok (.iconst 1, 1) := by decide +kernel
theorem dX2_readStep_131 : decode cX2_readStep 131 = .ok (.iadd, 1) := by decide +kernel
theorem dX2_readStep_132 : decode cX2_readStep 132 = .ok (.putfield 70, 3) := by decide +kernel
theorem dX2_readStep_135 : decode cX2_readStep 135 = .ok (.aload_n 0, 1) := by decide +kernel
theorem dX2_readStep_136 : decode cX2_readStep 136 = .ok (.getfield 26, 3) := by decide +kernel
theorem dX2_readStep_139 : decode cX2_readStep 139 = .ok (.invokevirtual 73, 3) := by decide +kernel
theorem dX2_readStep_142 : decode cX2_readStep 142 = .ok (.iload_n 1, 1) := by decide +kernel
theorem dX2_readStep_143 : decode cX2_readStep 143 = .ok (.tableswitch 142 16 27 #[61, 83, 142, 142, 142, 126, 142, 134, 142, 142, 142, 104], 61) := by decide +kernel
theorem dX2_readStep_204 : decode cX2_readStep 204 = .ok (.aload_n 0, 1) := by decide +kernel
theorem dX2_readStep_205 : decode cX2_readStep 205 = .ok (.getfield 12, 3) := by decide +kernel
theorem dX2_readStep_208 : decode cX2_readStep 208 = .ok (.getfield 86, 3) := by decide +kernel
theorem dX2_readStep_211 : decode cX2_readStep 211 = .ok (.iload_n 3, 1) := by decide +kernel
theorem dX2_readStep_212 : decode cX2_readStep 212 = .ok (.aload_n 0, 1) := by decide +kernel
theorem dX2_readStep_213 : decode cX2_readStep 213 = .ok (.getfield 26, 3) := by decide +kernel
theorem dX2_readStep_216 : decode cX2_readStep 216 = .ok (.iconst 1, 1) := by decide +kernel
theorem dX2_readStep_217 : decode cX2_readStep 217 = .ok (.bipush 20, 2) := by decide +kernel
theorem dX2_readStep_219 : decode cX2_readStep 219 = .ok (.invokevirtual 89, 3) := by decide +kernel
theorem dX2_readStep_222 : decode cX2_readStep 222 = .ok (.iastore, 1) := by decide +kernel
theorem dX2_readStep_223 : decode cX2_readStep 223 = .ok (.goto 62, 3) := by decide +kernel
theorem dX2_readStep_226 : decode cX2_readStep 226 = .ok (.aload_n 0, 1) := by decide +kernel
theorem dX2_readStep_227 : decode cX2_readStep 227 = .ok (.getfield 12, 3) := by decide +kernel
theorem dX2_readStep_230 : decode cX2_readStep 230 = .ok (.getfield 86, 3) := by decide +kernel
theorem dX2_readStep_233 : decode cX2_readStep 233 = .ok (.iload_n 3, 1) := by decide +kernel
theorem dX2_readStep_234 : decode cX2_readStep 234 = .ok (.aload_n 0, 1) := by decide +kernel
theorem dX2_readStep_235 : decode cX2_readStep 235 = .ok (.getfield 26, 3) := by decide +kernel
theorem dX2_readStep_238 : decode cX2_readStep 238 = .ok (.iconst 0, 1) := by decide +kernel
theorem dX2_readStep_239 : decode cX2_readStep 239 = .ok (.iconst 3, 1) := by decide +kernel
theorem dX2_readStep_240 : decode cX2_readStep 240 = .ok (.invokevirtual 89, 3) := by decide +kernel
theorem dX2_readStep_243 : decode cX2_readStep 243 = .ok (.iastore, 1) := by decide +kernel
theorem dX2_readStep_244 : decode cX2_readStep 244 = .ok (.goto 41, 3) := by decide +kernel
theorem dX2_readStep_247 : decode cX2_readStep 247 = .ok (.aload_n 0, 1) := by decide +kernel
theorem dX2_readStep_248 : decode cX2_readStep 248 = .ok (.getfield 12, 3) := by decide +kernel
theorem dX2_readStep_251 : decode cX2_readStep 251 = .ok (.getfield 86, 3) := by decide +kernel
theorem dX2_readStep_254 : decode cX2_readStep 254 = .ok (.iload_n 3, 1) := by decide +kernel
theorem dX2_readStep_255 : decode cX2_readStep 255 = .ok (.aload_n 0, 1) := by decide +kernel
theorem dX2_readStep_256 : decode cX2_readStep 256 = .ok (.getfield 26, 3) := by decide +kernel
theorem dX2_readStep_259 : decode cX2_readStep 259 = .ok (.iconst 1, 1) := by decide +kernel
theorem dX2_readStep_260 : decode cX2_readStep 260 = .ok (.bipush 99, 2) := by decide +kernel
theorem dX2_readStep_262 : decode cX2_readStep 262 = .ok (.invokevirtual 89, 3) := by decide +kernel
theorem dX2_readStep_265 : decode cX2_readStep 265 = .ok (.iastore, 1) := by decide +kernel
theorem dX2_readStep_266 : decode cX2_readStep 266 = .ok (.goto 19, 3) := by decide +kernel
theorem dX2_readStep_269 : decode cX2_readStep 269 = .ok (.aload_n 0, 1) := by decide +kernel
theorem dX2_readStep_270 : decode cX2_readStep 270 = .ok (.iload_n 3, 1) := by decide +kernel
theorem dX2_readStep_271 : decode cX2_readStep 271 = .ok (.invokevirtual 93, 3) := by decide +kernel
theorem dX2_readStep_274 : decode cX2_readStep 274 = .ok (.goto 11, 3) := by decide +kernel
theorem dX2_readStep_277 : decode cX2_readStep 277 = .ok (.aload_n 0, 1) := by decide +kernel
theorem dX2_readStep_278 : decode cX2_readStep 278 = .ok (.iload_n 3, 1) := by decide +kernel
theorem dX2_readStep_279 : decode cX2_readStep 279 = .ok (.invokevirtual 96, 3) := by decide +kernel
theorem dX2_readStep_282 : decode cX2_readStep 282 = .ok (.goto 3, 3) := by decide +kernel
theorem dX2_readStep_285 : decode cX2_readStep 285 = .ok (.aload_n 0, 1) := by decide +kernel
theorem dX2_readStep_286 : decode cX2_readStep 286 = .ok (.getfield 26, 3) := by decide +kernel
theorem dX2_readStep_289 : decode cX2_readStep 289 = .ok (.invokevirtual 76, 3) := by decide +kernel
theorem dX2_readStep_292 : decode cX2_readStep 292 = .ok (.iload_n 2, 1) := by decide +kernel
theorem dX2_readStep_293 : decode cX2_readStep 293 = .ok (.ifCond .eq 23, 3) := by decide +kernel
theorem dX2_readStep_296 : decode cX2_readStep 296 = .ok (.aload_n 0, 1) := by decide +kernel
theorem dX2_readStep_297 : decode cX2_readStep 297 = .ok (.getfield 18, 3) := by decide +kernel
theorem dX2_readStep_300 : decode cX2_readStep 300 = .ok (.aload_n 0, 1) := by decide +kernel
theorem dX2_readStep_301 : decode cX2_readStep 301 = .ok (.getfield 22, 3) := by decide +kernel
theorem dX2_readStep_304 : decode cX2_readStep 304 = .ok (.iload_n 3, 1) := by decide +kernel
theorem dX2_readStep_305 : decode cX2_readStep 305 = .ok (.iastore, 1) := by decide +kernel
theorem dX2_readStep_306 : decode cX2_readStep 306 = .ok (.aload_n 0, 1) := by decide +kernel
theorem dX2_readStep_307 : decode cX2_readStep 307 = .ok (.dup, 1) := by decide +kernel
theorem dX2_readStep_308 : decode cX2_readStep 308 = .ok (.getfield 22, 3) := by decide +kernel
theorem dX2_readStep_311 : decode cX2_readStep 311 = .ok (.iconst 1, 1) := by decide +kernel
theorem dX2_readStep_312 : decode cX2_readStep 312 = .ok (.iadd, 1) := by decide +kernel
theorem dX2_readStep_313 : decode cX2_readStep 313 = .ok (.putfield 22, 3) := by decide +kernel
theorem dX2_readStep_316 : decode cX2_readStep 316 = .ok (.return_, 1) := by decide +kernel
theorem dX2_readSet_0 : decode cX2_readSet 0 = .ok (.aload_n 0, 1) := by decide +kernel
theorem dX2_readSet_1 : decode cX2_readSet 1 = .ok (.getfield 12, 3) := by decide +kernel
theorem dX2_readSet_4 : decode cX2_readSet 4 = .ok (.getfield 99, 3) := by decide +kernel
theorem dX2_readSet_7 : decode cX2_readSet 7 = .ok (.iload_n 1, 1) := by decide +kernel
theorem dX2_readSet_8 : decode cX2_readSet 8 = .ok (.aload_n 0, 1) := by decide +kernel
theorem dX2_readSet_9 : decode cX2_readSet 9 = .ok (.getfield 26, 3) := by decide +kernel
theorem dX2_readSet_12 : decode cX2_readSet 12 = .ok (.aload_n 0, 1) := by decide +kernel
theorem dX2_readSet_13 : decode cX2_readSet 13 = .ok (.getfield 30, 3) := by decide +kernel
theorem dX2_readSet_16 : decode cX2_readSet 16 = .ok (.invokevirtual 102, 3) := by decide +kernel
theorem dX2_readSet_19 : decode cX2_readSet 19 = .ok (.iastore, 1) := by decide +kernel
theorem dX2_readSet_20 : decode cX2_readSet 20 = .ok (.aload_n 0, 1) := by decide +kernel
theorem dX2_readSet_21 : decode cX2_readSet 21 = .ok (.getfield 12, 3) := by decide +kernel
theorem dX2_readSet_24 : decode cX2_readSet 24 = .ok (.getfield 86, 3) := by decide +kernel
theorem dX2_readSet_27 : decode cX2_readSet 27 = .ok (.iload_n 1, 1) := by decide +kernel
theorem dX2_readSet_28 : decode cX2_readSet 28 = .ok (.aload_n 0, 1) := by decide +kernel
theorem dX2_readSet_29 : decode cX2_readSet 29 = .ok (.getfield 26, 3) := by decide +kernel
theorem dX2_readSet_32 : decode cX2_readSet 32 = .ok (.iconst 0, 1) := by decide +kernel
theorem dX2_readSet_33 : decode cX2_readSet 33 = .ok (.iconst 5, 1) := by decide +kernel
theorem dX2_readSet_34 : decode cX2_readSet 34 = .ok (.invokevirtual 89, 3) := by decide +kernel
theorem dX2_readSet_37 : decode cX2_readSet 37 = .ok (.iastore, 1) := by decide +kernel
theorem dX2_readSet_38 : decode cX2_readSet 38 = .ok (.aload_n 0, 1) := by decide +kernel
theorem dX2_readSet_39 : decode cX2_readSet 39 = .ok (.getfield 12, 3) := by decide +kernel
theorem dX2_readSet_42 : decode cX2_readSet 42 = .ok (.getfield 106, 3) := by decide +kernel
theorem dX2_readSet_45 : decode cX2_readSet 45 = .ok (.iload_n 1, 1) := by decide +kernel
theorem dX2_readSet_46 : decode cX2_readSet 46 = .ok (.aload_n 0, 1) := by decide +kernel
theorem dX2_readSet_47 : decode cX2_readSet 47 = .ok (.getfield 26, 3) := by decide +kernel
theorem dX2_readSet_50 : decode cX2_readSet 50 = .ok (.aload_n 0, 1) := by decide +kernel
theorem dX2_readSet_51 : decode cX2_readSet 51 = .ok (.getfield 30, 3) := by decide +kernel
theorem dX2_readSet_54 : decode cX2_readSet 54 = .ok (.invokevirtual 109, 3) := by decide +kernel
theorem dX2_readSet_57 : decode cX2_readSet 57 = .ok (.iastore, 1) := by decide +kernel
theorem dX2_readSet_58 : decode cX2_readSet 58 = .ok (.return_, 1) := by decide +kernel
theorem dX2_readTest_0 : decode cX2_readTest 0 = .ok (.aload_n 0, 1) := by decide +kernel
theorem dX2_readTest_1 : decode cX2_readTest 1 = .ok (.getfield 26, 3) := by decide +kernel
theorem dX2_readTest_4 : decode cX2_readTest 4 = .ok (.invokevirtual 47, 3) := by decide +kernel
theorem dX2_readTest_7 : decode cX2_readTest 7 = .ok (.istore_n 2, 1) := by decide +kernel
theorem dX2_readTest_8 : decode cX2_readTest 8 = .ok (.aload_n 0, 1) := by decide +kernel
theorem dX2_readTest_9 : decode cX2_readTest 9 = .ok (.getfield 12, 3) := by decide +kernel
theorem dX2_readTest_12 : decode cX2_readTest 12 = .ok (.getfield 112, 3) := by decide +kernel
theorem dX2_readTest_15 : decode cX2_readTest 15 = .ok (.iload_n 1, 1) := by decide +kernel
theorem dX2_readTest_16 : decode cX2_readTest 16 = .ok (.iload_n 2, 1) := by decide +kernel
theorem dX2_readTest_17 : decode cX2_readTest 17 = .ok (.iastore, 1) := by decide +kernel
theorem dX2_readTest_18 : decode cX2_readTest 18 = .ok (.iload_n 2, 1) := by decide +kernel
theorem dX2_readTest_19 : decode cX2_readTest 19 = .ok (.bipush 24, 2) := by decide +kernel
theorem dX2_readTest_21 : decode cX2_readTest 21 = .ok (.if_icmp .eq 24, 3) := by decide +kernel
theorem dX2_readTest_24 : decode cX2_readTest 24 = .ok (.iload_n 2, 1) := by decide +kernel
theorem dX2_readTest_25 : decode cX2_readTest 25 = .ok (.bipush 25, 2) := by decide +kernel
theorem dX2_readTest_27 : decode cX2_readTest 27 = .ok (.if_icmp .eq 18, 3) := by decide +kernel
theorem dX2_readTest_30 : decode cX2_readTest 30 = .ok (.iload_n 2, 1) := by decide +kernel
theorem dX2_readTest_31 : decode cX2_readTest 31 = .ok (.bipush 26, 2) := by decide +kernel
theorem dX2_readTest_33 : decode cX2_readTest 33 = .ok (.if_icmp .eq 12, 3) := by decide +kernel
theorem dX2_readTest_36 : decode cX2_readTest 36 = .ok (.aload_n 0, 1) := by decide +kernel
theorem dX2_readTest_37 : decode cX2_readTest 37 = .ok (.getfield 26, 3) := by decide +kernel
theorem dX2_readTest_40 : decode cX2_readTest 40 = .ok (.iconst 2, 1) := by decide +kernel
theorem dX2_readTest_41 : decode cX2_readTest 41 = .ok (.invokevirtual 57, 3) := by decide +kernel
theorem dX2_readTest_44 : decode cX2_readTest 44 = .ok (.return_, 1) := by decide +kernel
theorem dX2_readTest_45 : decode cX2_readTest 45 = .ok (.aload_n 0, 1) := by decide +kernel
theorem dX2_readTest_46 : decode cX2_readTest 46 = .ok (.getfield 26, 3) := by decide +kernel
theorem dX2_readTest_49 : decode cX2_readTest 49 = .ok (.invokevirtual 73, 3) := by decide +kernel
theorem dX2_readTest_52 : decode cX2_readTest 52 = .ok (.iload_n 2, 1) := by decide +kernel
theorem dX2_readTest_53 : decode cX2_readTest 53 = .ok (.bipush 26, 2) := by decide +kernel
theorem dX2_readTest_55 : decode cX2_readTest 55 = .ok (.if_icmp .eq 23, 3) := by decide +kernel
theorem dX2_readTest_58 : decode cX2_readTest 58 = .ok (.aload_n 0, 1) := by decide +kernel
theorem dX2_readTest_59 : decode cX2_readTest 59 = .ok (.getfield 12, 3) := by decide +kernel
theorem dX2_readTest_62 : decode cX2_readTest 62 = .ok (.getfield 99, 3) := by decide +kernel
theorem dX2_readTest_65 : decode cX2_readTest 65 = .ok (.iload_n 1, 1) := by decide +kernel
theorem dX2_readTest_66 : decode cX2_readTest 66 = .ok (.aload_n 0, 1) := by decide +kernel
theorem dX2_readTest_67 : decode cX2_readTest 67 = .ok (.getfield 26, 3) := by decide +kernel
theorem dX2_readTest_70 : decode cX2_readTest 70 = .ok (.aload_n 0, 1) := by decide +kernel
theorem dX2_readTest_71 : decode cX2_readTest 71 = .ok (.getfield 30, 3) := by decide +kernel
theorem dX2_readTest_74 : decode cX2_readTest 74 = .ok (.invokevirtual 102, 3) := by decide +kernel
theorem dX2_readTest_77 : decode cX2_readTest 77 = .ok (.iastore, 1) := by decide +kernel
theorem dX2_readTest_78 : decode cX2_readTest 78 = .ok (.iload_n 2, 1) := by decide +kernel
theorem dX2_readTest_79 : decode cX2_readTest 79 = .ok (.bipush 24, 2) := by decide +kernel
theorem dX2_readTest_81 : decode cX2_readTest 81 = .ok (.if_icmp .ne 38, 3) := by decide +kernel
theorem dX2_readTest_84 : decode cX2_readTest 84 = .ok (.aload_n 0, 1) := by decide +kernel
theorem dX2_readTest_85 : decode cX2_readTest 85 = .ok (.getfield 12, 3) := by decide +kernel
theorem dX2_readTest_88 : decode cX2_readTest 88 = .ok (.getfield 106, 3) := by decide +kernel
theorem dX2_readTest_91 : decode cX2_readTest 91 = .ok (.iload_n 1, 1) := by decide +kernel
theorem dX2_readTest_92 : decode cX2_readTest 92 = .ok (.aload_n 0, 1) := by decide +kernel
theorem dX2_readTest_93 : decode cX2_readTest 93 = .ok (.getfield 26, 3) := by decide +kernel
theorem dX2_readTest_96 : decode cX2_readTest 96 = .ok (.invokevirtual 115, 3) := by decide +kernel
theorem dX2_readTest_99 : decode cX2_readTest 99 = .ok (.iastore, 1) := by decide +kernel
theorem dX2_readTest_100 : decode cX2_readTest 100 = .ok (.aload_n 0, 1) := by decide +kernel
theorem dX2_readTest_101 : decode cX2_readTest 101 = .ok (.getfield 12, 3) := by decide +kernel
theorem dX2_readTest_104 : decode cX2_readTest 104 = .ok (.getfield 86, 3) := by decide +kernel
theorem dX2_readTest_107 : decode cX2_readTest 107 = .ok (.iload_n 1, 1) := by decide +kernel
theorem dX2_readTest_108 : decode cX2_readTest 108 = .ok (.aload_n 0, 1) := by decide +kernel
theorem dX2_readTest_109 : decode cX2_readTest 109 = .ok (.getfield 26, 3) := by decide +kernel
theorem dX2_readTest_112 : decode cX2_readTest 112 = .ok (.iconst 0, 1) := by decide +kernel
theorem dX2_readTest_113 : decode cX2_readTest 113 = .ok (.bipush 30, 2) := by decide +kernel
theorem dX2_readTest_115 : decode cX2_readTest 115 = .ok (.invokevirtual 89, 3) := by decide +kernel
theorem dX2_readTest_118 : decode cX2_readTest 118 = .ok (.iastore, 1) := by decide +kernel
theorem dX2_readTest_119 : decode cX2_readTest 119 = .ok (.return_, 1) := by decide +kernel
theorem dX4_init_0 : decode cX4_init 0 = .ok (.aload_n 0, 1) := by decide +kernel
theorem dX4_init_1 : decode cX4_init 1 = .ok (.invokespecial 3, 3) := by decide +kernel
theorem dX4_init_4 : decode cX4_init 4 = .ok (.aload_n 0, 1) := by decide +kernel
theorem dX4_init_5 : decode cX4_init 5 = .ok (.new 9, 3) := by decide +kernel
theorem dX4_init_8 : decode cX4_init 8 = .ok (.dup, 1) := by decide +kernel
theorem dX4_init_9 : decode cX4_init 9 = .ok (.invokespecial 11, 3) := by decide +kernel
theorem dX4_init_12 : decode cX4_init 12 = .ok (.putfield 12, 3) := by decide +kernel
theorem dX4_init_15 : decode cX4_init 15 = .ok (.aload_n 0, 1) := by decide +kernel
theorem dX4_init_16 : decode cX4_init 16 = .ok (.iconst 0, 1) := by decide +kernel
theorem dX4_init_17 : decode cX4_init 17 = .ok (.putfield 18, 3) := by decide +kernel
theorem dX4_init_20 : decode cX4_init 20 = .ok (.aload_n 0, 1) := by decide +kernel
theorem dX4_init_21 : decode cX4_init 21 = .ok (.aload_n 1, 1) := by decide +kernel
theorem dX4_init_22 : decode cX4_init 22 = .ok (.putfield 22, 3) := by decide +kernel
theorem dX4_init_25 : decode cX4_init 25 = .ok (.return_, 1) := by decide +kernel
theorem dX4_readPark_0 : decode cX4_readPark 0 = .ok (.aload_n 0, 1) := by decide +kernel
theorem dX4_readPark_1 : decode cX4_readPark 1 = .ok (.iconst 0, 1) := by decide +kernel
theorem dX4_readPark_2 : decode cX4_readPark 2 = .ok (.putfield 18, 3) := by decide +kernel
theorem dX4_readPark_5 : decode cX4_readPark 5 = .ok (.aload_n 0, 1) := by decide +kernel
theorem dX4_readPark_6 : decode cX4_readPark 6 = .ok (.getfield 12, 3) := by decide +kernel
theorem dX4_readPark_9 : decode cX4_readPark 9 = .ok (.invokevirtual 26, 3) := by decide +kernel
theorem dX4_readPark_12 : decode cX4_readPark 12 = .ok (.aload_n 0, 1) := by decide +kernel
theorem dX4_readPark_13 : decode cX4_readPark 13 = .ok (.getfield 22, 3) := by decide +kernel
theorem dX4_readPark_16 : decode cX4_readPark 16 = .ok (.iload_n 1, 1) := by decide +kernel
theorem dX4_readPark_17 : decode cX4_readPark 17 = .ok (.invokevirtual 29, 3) := by decide +kernel
theorem dX4_readPark_20 : decode cX4_readPark 20 = .ok (.iconst 0, 1) := by decide +kernel
theorem dX4_readPark_21 : decode cX4_readPark 21 = .ok (.istore_n 2, 1) := by decide +kernel
theorem dX4_readPark_22 : decode cX4_readPark 22 = .ok (.iload_n 2, 1) := by decide +kernel
theorem dX4_readPark_23 : decode cX4_readPark 23 = .ok (.sipush 900, 3) := by decide +kernel
theorem dX4_readPark_26 : decode cX4_readPark 26 = .ok (.if_icmp .ge 171, 3) := by decide +kernel
theorem dX4_readPark_29 : decode cX4_readPark 29 = .ok (.aload_n 0, 1) := by decide +kernel
theorem dX4_readPark_30 : decode cX4_readPark 30 = .ok (.getfield 22, 3) := by decide +kernel
theorem dX4_readPark_33 : decode cX4_readPark 33 = .ok (.invokevirtual 35, 3) := by decide +kernel
theorem dX4_readPark_36 : decode cX4_readPark 36 = .ok (.ifCond .eq 161, 3) := by decide +kernel
theorem dX4_readPark_39 : decode cX4_readPark 39 = .ok (.aload_n 0, 1) := by decide +kernel
theorem dX4_readPark_40 : decode cX4_readPark 40 = .ok (.getfield 22, 3) := by decide +kernel
theorem dX4_readPark_43 : decode cX4_readPark 43 = .ok (.invokevirtual 39, 3) := by decide +kernel
theorem dX4_readPark_46 : decode cX4_readPark 46 = .ok (.tableswitch 137 0 10 #[58, 137, 65, 82, 99, 116, 123, 137, 137, 137, 130], 58) := by decide +kernel
theorem dX4_readPark_104 : decode cX4_readPark 104 = .ok (.aload_n 0, 1) := by decide +kernel
theorem dX4_readPark_105 : decode cX4_readPark 105 = .ok (.invokevirtual 43, 3) := by decide +kernel
theorem dX4_readPark_108 : decode cX4_readPark 108 = .ok (.goto 83, 3) := by decide +kernel
theorem dX4_readPark_111 : decode cX4_readPark 111 = .ok (.aload_n 0, 1) := by decide +kernel
theorem dX4_readPark_112 : decode cX4_readPark 112 = .ok (.getfield 12, 3) := by decide +kernel
theorem dX4_readPark_115 : decode cX4_readPark 115 = .ok (.aload_n 0, 1) := by decide +kernel
theorem dX4_readPark_116 : decode cX4_readPark 116 = .ok (.iconst 2, 1) := by decide +kernel
theorem dX4_readPark_117 : decode cX4_readPark 117 = .ok (.bipush 9, 2) := by decide +kernel
theorem dX4_readPark_119 : decode cX4_readPark 119 = .ok (.invokevirtual 46, 3) := by decide +kernel
theorem dX4_readPark_122 : decode cX4_readPark 122 = .ok (.putfield 50, 3) := by decide +kernel
theorem dX4_readPark_125 : decode cX4_readPark 125 = .ok (.goto 66, 3) := by decide +kernel
theorem dX4_readPark_128 : decode cX4_readPark 128 = .ok (.aload_n 0, 1) := by decide +kernel
theorem dX4_readPark_129 : decode cX4_readPark 129 = .ok (.getfield 12, 3) := by decide +kernel
theorem dX4_readPark_132 : decode cX4_readPark 132 = .ok (.aload_n 0, 1) := by decide +kernel
theorem dX4_readPark_133 : decode cX4_readPark 133 = .ok (.iconst 3, 1) := by decide +kernel
theorem dX4_readPark_134 : decode cX4_readPark 134 = .ok (.bipush 9, 2) := by decide +kernel
theorem dX4_readPark_136 : decode cX4_readPark 136 = .ok (.invokevirtual 46, 3) := by decide +kernel
theorem dX4_readPark_139 : decode cX4_readPark 139 = .ok (.putfield 53, 3) := by decide +kernel
theorem dX4_readPark_142 : decode cX4_readPark 142 = .ok (.goto 49, 3) := by decide +kernel
theorem dX4_readPark_145 : decode cX4_readPark 145 = .ok (.aload_n 0, 1) := by decide +kernel
theorem dX4_readPark_146 : decode cX4_readPark 146 = .ok (.getfield 12, 3) := by decide +kernel
theorem dX4_readPark_149 : decode cX4_readPark 149 = .ok (.aload_n 0, 1) := by decide +kernel
theorem dX4_readPark_150 : decode cX4_readPark 150 = .ok (.iconst 4, 1) := by decide +kernel
theorem dX4_readPark_151 : decode cX4_readPark 151 = .ok (.bipush 16, 2) := by decide +kernel
theorem dX4_readPark_153 : decode cX4_readPark 153 = .ok (.invokevirtual 46, 3) := by decide +kernel
theorem dX4_readPark_156 : decode cX4_readPark 156 = .ok (.putfield 56, 3) := by decide +kernel
theorem dX4_readPark_159 : decode cX4_readPark 159 = .ok (.goto 32, 3) := by decide +kernel
theorem dX4_readPark_162 : decode cX4_readPark 162 = .ok (.aload_n 0, 1) := by decide +kernel
theorem dX4_readPark_163 : decode cX4_readPark 163 = .ok (.invokevirtual 59, 3) := by decide +kernel
theorem dX4_readPark_166 : decode cX4_readPark 166 = .ok (.goto 25, 3) := by decide +kernel
theorem dX4_readPark_169 : decode cX4_readPark 169 = .ok (.aload_n 0, 1) := by decide +kernel
theorem dX4_readPark_170 : decode cX4_readPark 170 = .ok (.invokevirtual 62, 3) := by decide +kernel
theorem dX4_readPark_173 : decode cX4_readPark 173 = .ok (.goto 18, 3) := by decide +kernel
theorem dX4_readPark_176 : decode cX4_readPark 176 = .ok (.aload_n 0, 1) := by decide +kernel
theorem dX4_readPark_177 : decode cX4_readPark 177 = .ok (.invokevirtual 65, 3) := by decide +kernel
theorem dX4_readPark_180 : decode cX4_readPark 180 = .ok (.goto 11, 3) := by decide +kernel
theorem dX4_readPark_183 : decode cX4_readPark 183 = .ok (.aload_n 0, 1) := by decide +kernel
theorem dX4_readPark_184 : decode cX4_readPark 184 = .ok (.getfield 22, 3) := by decide +kernel
theorem dX4_readPark_187 : decode cX4_readPark 187 = .ok (.iconst 2, 1) := by decide +kernel
theorem dX4_readPark_188 : decode cX4_readPark 188 = .ok (.invokevirtual 68, 3) := by decide +kernel
theorem dX4_readPark_191 : decode cX4_readPark 191 = .ok (.iinc 2 1, 3) := by decide +kernel
theorem dX4_readPark_194 : decode cX4_readPark 194 = .ok (.goto (-172), 3) := by decide +kernel
theorem dX4_readPark_197 : decode cX4_readPark 197 = .ok (.aload_n 0, 1) := by decide +kernel
theorem dX4_readPark_198 : decode cX4_readPark 198 = .ok (.getfield 22, 3) := by decide +kernel
theorem dX4_readPark_201 : decode cX4_readPark 201 = .ok (.getfield 71, 3) := by decide +kernel
theorem dX4_readPark_204 : decode cX4_readPark 204 = .ok (.ifCond .ne 7, 3) := by decide +kernel
theorem dX4_readPark_207 : decode cX4_readPark 207 = .ok (.iconst 1, 1) := by decide +kernel
theorem dX4_readPark_208 : decode cX4_readPark 208 = .ok (.goto 4, 3) := by decide +kernel
theorem dX4_readPark_211 : decode cX4_readPark 211 = .ok (.iconst 0, 1) := by decide +kernel
theorem dX4_readPark_212 : decode cX4_readPark 212 = .ok (.ireturn, 1) := by decide +kernel
theorem dX4_needOnce_0 : decode cX4_needOnce 0 = .ok (.aload_n 0, 1) := by decide +kernel
theorem dX4_needOnce_1 : decode cX4_needOnce 1 = .ok (.getfield 18, 3) := by decide +kernel
theorem dX4_needOnce_4 : decode cX4_needOnce 4 = .ok (.iconst 1, 1) := by decide +kernel
theorem dX4_needOnce_5 : decode cX4_needOnce 5 = .ok (.iload_n 1, 1) := by decide +kernel
theorem dX4_needOnce_6 : decode cX4_needOnce 6 = .ok (.ishl, 1) := by decide +kernel
theorem dX4_needOnce_7 : decode cX4_needOnce 7 = .ok (.iand, 1) := by decide +kernel
theorem dX4_needOnce_8 : decode cX4_needOnce 8 = .ok (.ifCond .eq 11, 3) := by decide +kernel
theorem dX4_needOnce_11 : decode cX4_needOnce 11 = .ok (.aload_n 0, 1) := by decide +kernel
theorem dX4_needOnce_12 : decode cX4_needOnce 12 = .ok (.getfield 22, 3) := by decide +kernel
theorem dX4_needOnce_15 : decode cX4_needOnce 15 = .ok (.iconst 5, 1) := by decide +kernel
theorem dX4_needOnce_16 : decode cX4_needOnce 16 = .ok (.invokevirtual 68, 3) := by decide +kernel
theorem dX4_needOnce_19 : decode cX4_needOnce 19 = .ok (.aload_n 0, 1) := by decide +kernel
theorem dX4_needOnce_20 : decode cX4_needOnce 20 = .ok (.dup, 1) := by decide +kernel
theorem dX4_needOnce_21 : decode cX4_needOnce 21 = .ok (.getfield 18, 3) := by decide +kernel
theorem dX4_needOnce_24 : decode cX4_needOnce 24 = .ok (.iconst 1, 1) := by decide +kernel
theorem dX4_needOnce_25 : decode cX4_needOnce 25 = .ok (.iload_n 1, 1) := by decide +kernel
theorem dX4_needOnce_26 : decode cX4_needOnce 26 = .ok (.ishl, 1) := by decide +kernel
theorem dX4_needOnce_27 : decode cX4_needOnce 27 = .ok (.ior, 1) := by decide +kernel
theorem dX4_needOnce_28 : decode cX4_needOnce 28 = .ok (.putfield 18, 3) := by decide +kernel
theorem dX4_needOnce_31 : decode cX4_needOnce 31 = .ok (.aload_n 0, 1) := by decide +kernel
theorem dX4_needOnce_32 : decode cX4_needOnce 32 = .ok (.getfield 22, 3) := by decide +kernel
theorem dX4_needOnce_35 : decode cX4_needOnce 35 = .ok (.invokevirtual 74, 3) := by decide +kernel
theorem dX4_needOnce_38 : decode cX4_needOnce 38 = .ok (.return_, 1) := by decide +kernel
theorem dX4_needBehindPark_0 : decode cX4_needBehindPark 0 = .ok (.aload_n 0, 1) := by decide +kernel
theorem dX4_needBehindPark_1 : decode cX4_needBehindPark 1 = .ok (.getfield 18, 3) := by decide +kernel
theorem dX4_needBehindPark_4 : decode cX4_needBehindPark 4 = .ok (.iconst 1, 1) := by decide +kernel
theorem dX4_needBehindPark_5 : decode cX4_needBehindPark 5 = .ok (.iand, 1) := by decide +kernel
theorem dX4_needBehindPark_6 : decode cX4_needBehindPark 6 = .ok (.ifCond .ne 11, 3) := by decide +kernel
theorem dX4_needBehindPark_9 : decode cX4_needBehindPark 9 = .ok (.aload_n 0, 1) := by decide +kernel
theorem dX4_needBehindPark_10 : decode cX4_needBehindPark 10 = .ok (.getfield 22, 3) := by decide +kernel
theorem dX4_needBehindPark_13 : decode cX4_needBehindPark 13 = .ok (.iconst 2, 1) := by decide +kernel
theorem dX4_needBehindPark_14 : decode cX4_needBehindPark 14 = .ok (.invokevirtual 68, 3) := by decide +kernel
theorem dX4_needBehindPark_17 : decode cX4_needBehindPark 17 = .ok (.return_, 1) := by decide +kernel
theorem dX4_readSize_0 : decode cX4_readSize 0 = .ok (.aload_n 0, 1) := by decide +kernel
theorem dX4_readSize_1 : decode cX4_readSize 1 = .ok (.iconst 0, 1) := by decide +kernel
theorem dX4_readSize_2 : decode cX4_readSize 2 = .ok (.invokevirtual 77, 3) := by decide +kernel
theorem dX4_readSize_5 : decode cX4_readSize 5 = .ok (.aload_n 0, 1) := by decide +kernel
theorem dX4_readSize_6 : decode cX4_readSize 6 = .ok (.getfield 22, 3) := by decide +kernel
theorem dX4_readSize_9 : decode cX4_readSize 9 = .ok (.iconst 1, 1) := by decide +kernel
theorem dX4_readSize_10 : decode cX4_readSize 10 = .ok (.bipush 6, 2) := by decide +kernel
theorem dX4_readSize_12 : decode cX4_readSize 12 = .ok (.invokevirtual 80, 3) := by decide +kernel
theorem dX4_readSize_15 : decode cX4_readSize 15 = .ok (.istore_n 1, 1) := by decide +kernel
theorem dX4_readSize_16 : decode cX4_readSize 16 = .ok (.aload_n 0, 1) := by decide +kernel
theorem dX4_readSize_17 : decode cX4_readSize 17 = .ok (.getfield 22, 3) := by decide +kernel
theorem dX4_readSize_20 : decode cX4_readSize 20 = .ok (.iconst 1, 1) := by decide +kernel
theorem dX4_readSize_21 : decode cX4_readSize 21 = .ok (.invokevirtual 83, 3) := by decide +kernel
theorem dX4_readSize_24 : decode cX4_readSize 24 = .ok (.aload_n 0, 1) := by decide +kernel
theorem dX4_readSize_25 : decode cX4_readSize 25 = .ok (.getfield 22, 3) := by decide +kernel
theorem dX4_readSize_28 : decode cX4_readSize 28 = .ok (.iconst 1, 1) := by decide +kernel
theorem dX4_readSize_29 : decode cX4_readSize 29 = .ok (.iconst 5, 1) := by decide +kernel
theorem dX4_readSize_30 : decode cX4_readSize 30 = .ok (.invokevirtual 80, 3) := by decide +kernel
theorem dX4_readSize_33 : decode cX4_readSize 33 = .ok (.istore_n 2, 1) := by decide +kernel
theorem dX4_readSize_34 : decode cX4_readSize 34 = .ok (.aload_n 0, 1) := by decide +kernel
theorem dX4_readSize_35 : decode cX4_readSize 35 = .ok (.getfield 22, 3) := by decide +kernel
theorem dX4_readSize_38 : decode cX4_readSize 38 = .ok (.invokevirtual 86, 3) := by decide +kernel
theorem dX4_readSize_41 : decode cX4_readSize 41 = .ok (.aload_n 0, 1) := by decide +kernel
theorem dX4_readSize_42 : decode cX4_readSize 42 = .ok (.getfield 22, 3) := by decide +kernel
theorem dX4_readSize_45 : decode cX4_readSize 45 = .ok (.getfield 71, 3) := by decide +kernel
theorem dX4_readSize_48 : decode cX4_readSize 48 = .ok (.ifCond .ne 19, 3) := by decide +kernel
theorem dX4_readSize_51 : decode cX4_readSize 51 = .ok (.aload_n 0, 1) := by decide +kernel
theorem dX4_readSize_52 : decode cX4_readSize 52 = .ok (.getfield 12, 3) := by decide +kernel
theorem dX4_readSize_55 : decode cX4_readSize 55 = .ok (.iload_n 1, 1) := by decide +kernel
theorem dX4_readSize_56 : decode cX4_readSize 56 = .ok (.putfield 89, 3) := by decide +kernel
theorem dX4_readSize_59 : decode cX4_readSize 59 = .ok (.aload_n 0, 1) := by decide +kernel
theorem dX4_readSize_60 : decode cX4_readSize 60 = .ok (.getfield 12, 3) := by decide +kernel
theorem dX4_readSize_63 : decode cX4_readSize 63 = .ok (.iload_n 2, 1) := by decide +kernel
theorem dX4_readSize_64 : decode cX4_readSize 64 = .ok (.putfield 92, 3) := by decide +kernel
theorem dX4_readSize_67 : decode cX4_readSize 67 = .ok (.return_, 1) := by decide +kernel
theorem dX4_readRule_0 : decode cX4_readRule 0 = .ok (.aload_n 0, 1) := by decide +kernel
theorem dX4_readRule_1 : decode cX4_readRule 1 = .ok (.iload_n 1, 1) := by decide +kernel
theorem dX4_readRule_2 : decode cX4_readRule 2 = .ok (.invokevirtual 77, 3) := by decide +kernel
theorem dX4_readRule_5 : decode cX4_readRule 5 = .ok (.aload_n 0, 1) := by decide +kernel
theorem dX4_readRule_6 : decode cX4_readRule 6 = .ok (.getfield 22, 3) := by decide +kernel
theorem dX4_readRule_9 : decode cX4_readRule 9 = .ok (.iconst 0, 1) := by decide +kernel
theorem dX4_readRule_10 : decode cX4_readRule 10 = .ok (.iload_n 2, 1) := by decide +kernel
theorem dX4_readRule_11 : decode cX4_readRule 11 = .ok (.invokevirtual 80, 3) := by decide +kernel
theorem dX4_readRule_14 : decode cX4_readRule 14 = .ok (.istore_n 3, 1) := by decide +kernel
theorem dX4_readRule_15 : decode cX4_readRule 15 = .ok (.aload_n 0, 1) := by decide +kernel
theorem dX4_readRule_16 : decode cX4_readRule 16 = .ok (.getfield 22, 3) := by decide +kernel
theorem dX4_readRule_19 : decode cX4_readRule 19 = .ok (.invokevirtual 86, 3) := by decide +kernel
theorem dX4_readRule_22 : decode cX4_readRule 22 = .ok (.iload_n 3, 1) := by decide +kernel
theorem dX4_readRule_23 : decode cX4_readRule 23 = .ok (.ireturn, 1) := by decide +kernel
theorem dX4_readPond_0 : decode cX4_readPond 0 = .ok (.aload_n 0, 1) := by decide +kernel
theorem dX4_readPond_1 : decode cX4_readPond 1 = .ok (.invokevirtual 95, 3) := by decide +kernel
theorem dX4_readPond_4 : decode cX4_readPond 4 = .ok (.aload_n 0, 1) := by decide +kernel
theorem dX4_readPond_5 : decode cX4_readPond 5 = .ok (.getfield 22, 3) := by decide +kernel
theorem dX4_readPond_8 : decode cX4_readPond 8 = .ok (.invokevirtual 74, 3) := by decide +kernel
theorem dX4_readPond_11 : decode cX4_readPond 11 = .ok (.aload_n 0, 1) := by decide +kernel
theorem dX4_readPond_12 : decode cX4_readPond 12 = .ok (.getfield 22, 3) := by decide +kernel
theorem dX4_readPond_15 : decode cX4_readPond 15 = .ok (.iconst 0, 1) := by decide +kernel
theorem dX4_readPond_16 : decode cX4_readPond 16 = .ok (.aload_n 0, 1) := by decide +kernel
theorem dX4_readPond_17 : decode cX4_readPond 17 = .ok (.getfield 12, 3) := by decide +kernel
theorem dX4_readPond_20 : decode cX4_readPond 20 = .ok (.getfield 89, 3) := by decide +kernel
theorem dX4_readPond_23 : decode cX4_readPond 23 = .ok (.iconst 1, 1) := by decide +kernel
theorem dX4_readPond_24 : decode cX4_readPond 24 = .ok (.isub, 1) := by decide +kernel
theorem dX4_readPond_25 : decode cX4_readPond 25 = .ok (.invokevirtual 80, 3) := by decide +kernel
theorem dX4_readPond_28 : decode cX4_readPond 28 = .ok (.istore_n 1, 1) := by decide +kernel
theorem dX4_readPond_29 : decode cX4_readPond 29 = .ok (.aload_n 0, 1) := by decide +kernel
theorem dX4_readPond_30 : decode cX4_readPond 30 = .ok (.getfield 22, 3) := by decide +kernel
theorem dX4_readPond_33 : decode cX4_readPond 33 = .ok (.iconst 0, 1) := by decide +kernel
theorem dX4_readPond_34 : decode cX4_readPond 34 = .ok (.aload_n 0, 1) := by decide +kernel
theorem dX4_readPond_35 : decode cX4_readPond 35 = .ok (.getfield 12, 3) := by decide +kernel
theorem dX4_readPond_38 : decode cX4_readPond 38 = .ok (.getfield 92, 3) := by decide +kernel
theorem dX4_readPond_41 : decode cX4_readPond 41 = .ok (.iconst 1, 1) := by decide +kernel
theorem dX4_readPond_42 : decode cX4_readPond 42 = .ok (.isub, 1) := by decide +kernel
theorem dX4_readPond_43 : decode cX4_readPond 43 = .ok (.invokevirtual 80, 3) := by decide +kernel
theorem dX4_readPond_46 : decode cX4_readPond 46 = .ok (.istore_n 2, 1) := by decide +kernel
theorem dX4_readPond_47 : decode cX4_readPond 47 = .ok (.aload_n 0, 1) := by decide +kernel
theorem dX4_readPond_48 : decode cX4_readPond 48 = .ok (.getfield 22, 3) := by decide +kernel
theorem dX4_readPond_51 : decode cX4_readPond 51 = .ok (.invokevirtual 86, 3) := by decide +kernel
theorem dX4_readPond_54 : decode cX4_readPond 54 = .ok (.aload_n 0, 1) := by decide +kernel
theorem dX4_readPond_55 : decode cX4_readPond 55 = .ok (.getfield 12, 3) := by decide +kernel
theorem dX4_readPond_58 : decode cX4_readPond 58 = .ok (.iload_n 1, 1) := by decide +kernel
theorem dX4_readPond_59 : decode cX4_readPond 59 = .ok (.iload_n 2, 1) := by decide +kernel
theorem dX4_readPond_60 : decode cX4_readPond 60 = .ok (.invokevirtual 98, 3) := by decide +kernel
theorem dX4_readPond_63 : decode cX4_readPond 63 = .ok (.istore_n 3, 1) := by decide +kernel
theorem dX4_readPond_64 : decode cX4_readPond 64 = .ok (.aload_n 0, 1) := by decide +kernel
theorem dX4_readPond_65 : decode cX4_readPond 65 = .ok (.getfield 22, 3) := by decide +kernel
theorem dX4_readPond_68 : decode cX4_readPond 68 = .ok (.getfield 71, 3) := by decide +kernel
theorem dX4_readPond_71 : decode cX4_readPond 71 = .ok (.ifCond .ne 18, 3) := by decide +kernel
theorem dX4_readPond_74 : decode cX4_readPond 74 = .ok (.iload_n 3, 1) := by decide +kernel
theorem dX4_readPond_75 : decode cX4_readPond 75 = .ok (.iconst (-1), 1) := by decide +kernel
theorem dX4_readPond_76 : decode cX4_readPond 76 = .ok (.if_icmp .eq 13, 3) := by decide +kernel
theorem dX4_readPond_79 : decode cX4_readPond 79 = .ok (.aload_n 0, 1) := by decide +kernel
theorem dX4_readPond_80 : decode cX4_readPond 80 = .ok (.getfield 12, 3) := by decide +kernel
theorem dX4_readPond_83 : decode cX4_readPond 83 = .ok (.getfield 101, 3) := by decide +kernel
theorem dX4_readPond_86 : decode cX4_readPond 86 = .ok (.iload_n 3, 1) := by decide +kernel
theorem dX4_readPond_87 : decode cX4_readPond 87 = .ok (.iconst 1, 1) := by decide +kernel
theorem dX4_readPond_88 : decode cX4_readPond 88 = .ok (.bastore, 1) := by decide +kernel
theorem dX4_readPond_89 : decode cX4_readPond 89 = .ok (.return_, 1) := by decide +kernel
theorem dX4_needNewName_0 : decode cX4_needNewName 0 = .ok (.aload_n 0, 1) := by decide +kernel
theorem dX4_needNewName_1 : decode cX4_needNewName 1 = .ok (.getfield 22, 3) := by decide +kernel
theorem dX4_needNewName_4 : decode cX4_needNewName 4 = .ok (.invokevirtual 105, 3) := by decide +kernel
theorem dX4_needNewName_7 : decode cX4_needNewName 7 = .ok (.lstore_n 1, 1) := by decide +kernel
theorem dX4_needNewName_8 : decode cX4_needNewName 8 = .ok (.aload_n 0, 1) := by decide +kernel
theorem dX4_needNewName_9 : decode cX4_needNewName 9 = .ok (.getfield 12, 3) := by decide +kernel
theorem dX4_needNewName_12 : decode cX4_needNewName 12 = .ok (.lload_n 1, 1) := by decide +kernel
theorem dX4_needNewName_13 : decode cX4_needNewName 13 = .ok (.invokevirtual 109, 3) := by decide +kernel
theorem dX4_needNewName_16 : decode cX4_needNewName 16 = .ok (.iconst (-1), 1) := by decide +kernel
theorem dX4_needNewName_17 : decode cX4_needNewName 17 = .ok (.if_icmp .ne 15, 3) := by decide +kernel
theorem dX4_needNewName_20 : decode cX4_needNewName 20 = .ok (.aload_n 0, 1) := by decide +kernel
theorem dX4_needNewName_21 : decode cX4_needNewName 21 = .ok (.getfield 12, 3) := by decide +kernel
theorem dX4_needNewName_24 : decode cX4_needNewName 24 = .ok (.lload_n 1, 1) := by decide +kernel
theorem dX4_needNewName_25 : decode cX4_needNewName 25 = .ok (.invokevirtual 113, 3) := by decide +kernel
theorem dX4_needNewName_28 : decode cX4_needNewName 28 = .ok (.iconst (-1), 1) := by decide +kernel
theorem dX4_needNewName_29 : decode cX4_needNewName 29 = .ok (.if_icmp .eq 11, 3) := by decide +kernel
theorem dX4_needNewName_32 : decode cX4_needNewName 32 = .ok (.aload_n 0, 1) := by decide +kernel
theorem dX4_needNewName_33 : decode cX4_needNewName 33 = .ok (.getfield 22, 3) := by decide +kernel
theorem dX4_needNewName_36 : decode cX4_needNewName 36 = .ok (.iconst 3, 1) := by decide +kernel
theorem dX4_needNewName_37 : decode cX4_needNewName 37 = .ok (.invokevirtual 68, 3) := by decide +kernel
theorem dX4_needNewName_40 : decode cX4_needNewName 40 = .ok (.aload_n 0, 1) := by decide +kernel
theorem dX4_needNewName_41 : decode cX4_needNewName 41 = .ok (.getfield 22, 3) := by decide +kernel
theorem dX4_needNewName_44 : decode cX4_needNewName 44 = .ok (.invokevirtual 74, 3) := by decide +kernel
theorem dX4_needNewName_47 : decode cX4_needNewName 47 = .ok (.lload_n 1, 1) := by decide +kernel
theorem dX4_needNewName_48 : decode cX4_needNewName 48 = .ok (.lreturn, 1) := by decide +kernel
theorem dX4_readTune_0 : decode cX4_readTune 0 = .ok (.aload_n 0, 1) := by decide +kernel
theorem dX4_readTune_1 : decode cX4_readTune 1 = .ok (.getfield 12, 3) := by decide +kernel
theorem dX4_readTune_4 : decode cX4_readTune 4 = .ok (.getfield 116, 3) := by decide +kernel
theorem dX4_readTune_7 : decode cX4_readTune 7 = .ok (.bipush 6, 2) := by decide +kernel
theorem dX4_readTune_9 : decode cX4_readTune 9 = .ok (.if_icmp .lt 13, 3) := by decide +kernel
theorem dX4_readTune_12 : decode cX4_readTune 12 = .ok (.aload_n 0, 1) := by decide +kernel
theorem dX4_readTune_13 : decode cX4_readTune 13 = .ok (.getfield 22, 3) := by decide +kernel
theorem dX4_readTune_16 : decode cX4_readTune 16 = .ok (.bipush 6, 2) := by decide +kernel
theorem dX4_readTune_18 : decode cX4_readTune 18 = .ok (.invokevirtual 68, 3) := by decide +kernel
theorem dX4_readTune_21 : decode cX4_readTune 21 = .ok (.return_, 1) := by decide +kernel
theorem dX4_readTune_22 : decode cX4_readTune 22 = .ok (.aload_n 0, 1) := by decide +kernel
theorem dX4_readTune_23 : decode cX4_readTune 23 = .ok (.getfield 22, 3) := by decide +kernel
theorem dX4_readTune_26 : decode cX4_readTune 26 = .ok (.invokevirtual 74, 3) := by decide +kernel
theorem dX4_readTune_29 : decode cX4_readTune 29 = .ok (.aload_n 0, 1) := by decide +kernel
theorem dX4_readTune_30 : decode cX4_readTune 30 = .ok (.getfield 12, 3) := by decide +kernel
theorem dX4_readTune_33 : decode cX4_readTune 33 = .ok (.getfield 119, 3) := by decide +kernel
theorem dX4_readTune_36 : decode cX4_readTune 36 = .ok (.aload_n 0, 1) := by decide +kernel
theorem dX4_readTune_37 : decode cX4_readTune 37 = .ok (.getfield 12, 3) := by decide +kernel
theorem dX4_readTune_40 : decode cX4_readTune 40 = .ok (.getfield 116, 3) := by decide +kernel
theorem dX4_readTune_43 : decode cX4_readTune 43 = .ok (.aaload, 1) := by decide +kernel
theorem dX4_readTune_44 : decode cX4_readTune 44 = .ok (.astore_n 1, 1) := by decide +kernel
theorem dX4_readTune_45 : decode cX4_readTune 45 = .ok (.aload_n 1, 1) := by decide +kernel
theorem dX4_readTune_46 : decode cX4_readTune 46 = .ok (.aload_n 0, 1) := by decide +kernel
theorem dX4_readTune_47 : decode cX4_readTune 47 = .ok (.invokevirtual 123, 3) := by decide +kernel
theorem dX4_readTune_50 : decode cX4_readTune 50 = .ok (.putfield 126, 3) := by decide +kernel
theorem dX4_readTune_53 : decode cX4_readTune 53 = .ok (.aload_n 0, 1) := by decide +kernel
theorem dX4_readTune_54 : decode cX4_readTune 54 = .ok (.getfield 22, 3) := by decide +kernel
theorem dX4_readTune_57 : decode cX4_readTune 57 = .ok (.bipush 7, 2) := by decide +kernel
theorem dX4_readTune_59 : decode cX4_readTune 59 = .ok (.invokevirtual 83, 3) := by decide +kernel
theorem dX4_readTune_62 : decode cX4_readTune 62 = .ok (.aload_n 1, 1) := by decide +kernel
theorem dX4_readTune_63 : decode cX4_readTune 63 = .ok (.aload_n 0, 1) := by decide +kernel
theorem dX4_readTune_64 : decode cX4_readTune 64 = .ok (.getfield 22, 3) := by decide +kernel
theorem dX4_readTune_67 : decode cX4_readTune 67 = .ok (.iconst 0, 1) := by decide +kernel
theorem dX4_readTune_68 : decode cX4_readTune 68 = .ok (.bipush 20, 2) := by decide +kernel
theorem dX4_readTune_70 : decode cX4_readTune 70 = .ok (.invokevirtual 80, 3) := by decide +kernel
theorem dX4_readTune_73 : decode cX4_readTune 73 = .ok (.putfield 132, 3) := by decide +kernel
theorem dX4_readTune_76 : decode cX4_readTune 76 = .ok (.aload_n 0, 1) := by decide +kernel
theorem dX4_readTune_77 : decode cX4_readTune 77 = .ok (.getfield 22, 3) := by decide +kernel
theorem dX4_readTune_80 : decode cX4_readTune 80 = .ok (.bipush 8, 2) := by decide +kernel
theorem dX4_readTune_82 : decode cX4_readTune 82 = .ok (.invokevirtual 83, 3) := by decide +kernel
theorem dX4_readTune_85 : decode cX4_readTune 85 = .ok (.aload_n 1, 1) := by decide +kernel
theorem dX4_readTune_86 : decode cX4_readTune 86 = .ok (.aload_n 0, 1) := by decide +kernel
theorem dX4_readTune_87 : decode cX4_readTune 87 = .ok (.getfield 22, 3) := by decide +kernel
theorem dX4_readTune_90 : decode cX4_readTune 90 = .ok (.iconst 0, 1) := by decide +kernel
theorem dX4_readTune_91 : decode cX4_readTune 91 = .ok (.bipush 9, 2) := by decide +kernel
theorem dX4_readTune_93 : decode cX4_readTune 93 = .ok (.invokevirtual 80, 3) := by decide +kernel
theorem dX4_readTune_96 : decode cX4_readTune 96 = .ok (.putfield 135, 3) := by decide +kernel
theorem dX4_readTune_99 : decode cX4_readTune 99 = .ok (.aload_n 1, 1) := by decide +kernel
theorem dX4_readTune_100 : decode cX4_readTune 100 = .ok (.iconst 4, 1) := by decide +kernel
theorem dX4_readTune_101 : decode cX4_readTune 101 = .ok (.putfield 138, 3) := by decide +kernel
theorem dX4_readTune_104 : decode cX4_readTune 104 = .ok (.aload_n 0, 1) := by decide +kernel
theorem dX4_readTune_105 : decode cX4_readTune 105 = .ok (.getfield 22, 3) := by decide +kernel
theorem dX4_readTune_108 : decode cX4_readTune 108 = .ok (.invokevirtual 39, 3) := by decide +kernel
theorem dX4_readTune_111 : decode cX4_readTune 111 = .ok (.bipush 9, 2) := by decide +kernel
theorem dX4_readTune_113 : decode cX4_readTune 113 = .ok (.if_icmp .ne 24, 3) := by decide +kernel
theorem dX4_readTune_116 : decode cX4_readTune 116 = .ok (.aload_n 0, 1) := by decide +kernel
theorem dX4_readTune_117 : decode cX4_readTune 117 = .ok (.getfield 22, 3) := by decide +kernel
theorem dX4_readTune_120 : decode cX4_readTune 120 = .ok (.invokevirtual 74, 3) := by decide +kernel
theorem dX4_readTune_123 : decode cX4_readTune 123 = .ok (.aload_n 1, 1) := by decide +kernel
theorem dX4_readTune_124 : decode cX4_readTune 124 = .ok (.aload_n 0, 1) := by decide +kernel
theorem dX4_readTune_125 : decode cX4_readTune 125 = .ok (.getfield 22, 3) := by decide +kernel
theorem dX4_readTune_128 : decode cX4_readTune 128 = .ok (.iconst 1, 1) := by decide +kernel
theorem dX4_readTune_129 : decode cX4_readTune 129 = .ok (.bipush 99, 2) := by decide +kernel
theorem dX4_readTune_131 : decode cX4_readTune 131 = .ok (.invokevirtual 80, 3) := by decide +kernel
theorem dX4_readTune_134 : decode cX4_readTune 134 = .ok (.putfield 138, 3) := by decide +kernel
theorem dX4_readTune_137 : decode cX4_readTune 137 = .ok (.aload_n 0, 1) := by decide +kernel
theorem dX4_readTune_138 : decode cX4_readTune 138 = .ok (.getfield 22, 3) := by decide +kernel
theorem dX4_readTune_141 : decode cX4_readTune 141 = .ok (.invokevirtual 86, 3) := by decide +kernel
theorem dX4_readTune_144 : decode cX4_readTune 144 = .ok (.aload_n 0, 1) := by decide +kernel
theorem dX4_readTune_145 : decode cX4_readTune 145 = .ok (.getfield 12, 3) := by decide +kernel
theorem dX4_readTune_148 : decode cX4_readTune 148 = .ok (.dup, 1) := by decide +kernel
theorem dX4_readTune_149 : decode cX4_readTune 149 = .ok (.getfield 116, 3) := by decide +kernel
theorem dX4_readTune_152 : decode cX4_readTune 152 = .ok (.iconst 1, 1) := by decide +kernel
theorem dX4_readTune_153 : decode cX4_readTune 153 = .ok (.iadd, 1) := by decide +kernel
theorem dX4_readTune_154 : decode cX4_readTune 154 = .ok (.putfield 116, 3) := by decide +kernel
theorem dX4_readTune_157 : decode cX4_readTune 157 = .ok (.return_, 1) := by decide +kernel
theorem dX4_readBand_0 : decode cX4_readBand 0 = .ok (.aload_n 0, 1) := by decide +kernel
theorem dX4_readBand_1 : decode cX4_readBand 1 = .ok (.invokevirtual 95, 3) := by decide +kernel
theorem dX4_readBand_4 : decode cX4_readBand 4 = .ok (.aload_n 0, 1) := by decide +kernel
theorem dX4_readBand_5 : decode cX4_readBand 5 = .ok (.getfield 12, 3) := by decide +kernel
theorem dX4_readBand_8 : decode cX4_readBand 8 = .ok (.getfield 141, 3) := by decide +kernel
theorem dX4_readBand_11 : decode cX4_readBand 11 = .ok (.bipush 6, 2) := by decide +kernel
theorem dX4_readBand_13 : decode cX4_readBand 13 = .ok (.if_icmp .lt 13, 3) := by decide +kernel
theorem dX4_readBand_16 : decode cX4_readBand 16 = .ok (.aload_n 0, 1) := by decide +kernel
theorem dX4_readBand_17 : decode cX4_readBand 17 = .ok (.getfield 22, 3) := by decide +kernel
theorem dX4_readBand_20 : decode cX4_readBand 20 = .ok (.bipush 6, 2) := by decide +kernel
theorem dX4_readBand_22 : decode cX4_readBand 22 = .ok (.invokevirtual 68, 3) := by decide +kernel
theorem dX4_readBand_25 : decode cX4_readBand 25 = .ok (.return_, 1) := by decide +kernel
theorem dX4_readBand_26 : decode cX4_readBand 26 = .ok (.aload_n 0, 1) := by decide +kernel
theorem dX4_readBand_27 : decode cX4_readBand 27 = .ok (.getfield 22, 3) := by decide +kernel
theorem dX4_readBand_30 : decode cX4_readBand 30 = .ok (.invokevirtual 74, 3) := by decide +kernel
theorem dX4_readBand_33 : decode cX4_readBand 33 = .ok (.aload_n 0, 1) := by decide +kernel
theorem dX4_readBand_34 : decode cX4_readBand 34 = .ok (.getfield 12, 3) := by decide +kernel
theorem dX4_readBand_37 : decode cX4_readBand 37 = .ok (.getfield 144, 3) := by decide +kernel
theorem dX4_readBand_40 : decode cX4_readBand 40 = .ok (.aload_n 0, 1) := by decide +kernel
theorem dX4_readBand_41 : decode cX4_readBand 41 = .ok (.getfield 12, 3) := by decide +kernel
theorem dX4_readBand_44 : decode cX4_readBand 44 = .ok (.getfield 141, 3) := by decide +kernel
theorem dX4_readBand_47 : decode cX4_readBand 47 = .ok (.aaload, 1) := by decide +kernel
theorem dX4_readBand_48 : decode cX4_readBand 48 = .ok (.astore_n 1, 1) := by decide +kernel
theorem dX4_readBand_49 : decode cX4_readBand 49 = .ok (.aload_n 1, 1) := by decide +kernel
theorem dX4_readBand_50 : decode cX4_readBand 50 = .ok (.invokevirtual 148, 3) := by decide +kernel
theorem dX4_readBand_53 : decode cX4_readBand 53 = .ok (.aload_n 1, 1) := by decide +kernel
theorem dX4_readBand_54 : decode cX4_readBand 54 = .ok (.aload_n 0, 1) := by decide +kernel
theorem dX4_readBand_55 : decode cX4_readBand 55 = .ok (.invokevirtual 123, 3) := by decide +kernel
theorem dX4_readBand_58 : decode cX4_readBand 58 = .ok (.putfield 151, 3) := by decide +kernel
theorem dX4_readBand_61 : decode cX4_readBand 61 = .ok (.aload_n 0, 1) := by decide +kernel
theorem dX4_readBand_62 : decode cX4_readBand 62 = .ok (.aload_n 1, 1) := by decide +kernel
theorem dX4_readBand_63 : decode cX4_readBand 63 = .ok (.invokevirtual 152, 3) := by decide +kernel
theorem dX4_readBand_66 : decode cX4_readBand 66 = .ok (.aload_n 0, 1) := by decide +kernel
theorem dX4_readBand_67 : decode cX4_readBand 67 = .ok (.getfield 22, 3) := by decide +kernel
theorem dX4_readBand_70 : decode cX4_readBand 70 = .ok (.bipush 12, 2) := by decide +kernel
theorem dX4_readBand_72 : decode cX4_readBand 72 = .ok (.invokevirtual 83, 3) := by decide +kernel
theorem dX4_readBand_75 : decode cX4_readBand 75 = .ok (.aload_n 1, 1) := by decide +kernel
theorem dX4_readBand_76 : decode cX4_readBand 76 = .ok (.aload_n 0, 1) := by decide +kernel
theorem dX4_readBand_77 : decode cX4_readBand 77 = .ok (.getfield 22, 3) := by decide +kernel
theorem dX4_readBand_80 : decode cX4_readBand 80 = .ok (.iconst 0, 1) := by decide +kernel
theorem dX4_readBand_81 : decode cX4_readBand 81 = .ok (.bipush 20, 2) := by decide +kernel
theorem dX4_readBand_83 : decode cX4_readBand 83 = .ok (.invokevirtual 80, 3) := by decide +kernel
theorem dX4_readBand_86 : decode cX4_readBand 86 = .ok (.putfield 156, 3) := by decide +kernel
theorem dX4_readBand_89 : decode cX4_readBand 89 = .ok (.aload_n 0, 1) := by decide +kernel
theorem dX4_readBand_90 : decode cX4_readBand 90 = .ok (.getfield 22, 3) := by decide +kernel
theorem dX4_readBand_93 : decode cX4_readBand 93 = .ok (.bipush 13, 2) := by decide +kernel
theorem dX4_readBand_95 : decode cX4_readBand 95 = .ok (.invokevirtual 83, 3) := by decide +kernel
theorem dX4_readBand_98 : decode cX4_readBand 98 = .ok (.aload_n 1, 1) := by decide +kernel
theorem dX4_readBand_99 : decode cX4_readBand 99 = .ok (.aload_n 0, 1) := by decide +kernel
theorem dX4_readBand_100 : decode cX4_readBand 100 = .ok (.getfield 22, 3) := by decide +kernel
theorem dX4_readBand_103 : decode cX4_readBand 103 = .ok (.iconst 0, 1) := by decide +kernel
theorem dX4_readBand_104 : decode cX4_readBand 104 = .ok (.bipush 99, 2) := by decide +kernel
theorem dX4_readBand_106 : decode cX4_readBand 106 = .ok (.invokevirtual 80, 3) := by decide +kernel
theorem dX4_readBand_109 : decode cX4_readBand 109 = .ok (.putfield 159, 3) := by decide +kernel
theorem dX4_readBand_112 : decode cX4_readBand 112 = .ok (.aload_n 1, 1) := by decide +kernel
theorem dX4_readBand_113 : decode cX4_readBand 113 = .ok (.aload_n 1, 1) := by decide +kernel
theorem dX4_readBand_114 : decode cX4_readBand 114 = .ok (.getfield 159, 3) := by decide +kernel
theorem dX4_readBand_117 : decode cX4_readBand 117 = .ok (.putfield 162, 3) := by decide +kernel
theorem dX4_readBand_120 : decode cX4_readBand 120 = .ok (.aload_n 0, 1) := by decide +kernel
theorem dX4_readBand_121 : decode cX4_readBand 121 = .ok (.getfield 22, 3) := by decide +kernel
theorem dX4_readBand_124 : decode cX4_readBand 124 = .ok (.invokevirtual 39, 3) := by decide +kernel
theorem dX4_readBand_127 : decode cX4_readBand 127 = .ok (.bipush 14, 2) := by decide +kernel
theorem dX4_readBand_129 : decode cX4_readBand 129 = .ok (.if_icmp .ne 8, 3) := by decide +kernel
theorem dX4_readBand_132 : decode cX4_readBand 132 = .ok (.aload_n 0, 1) := by decide +kernel
theorem dX4_readBand_133 : decode cX4_readBand 133 = .ok (.aload_n 1, 1) := by decide +kernel
theorem dX4_readBand_134 : decode cX4_readBand 134 = .ok (.invokevirtual 165, 3) := by decide +kernel
theorem dX4_readBand_137 : decode cX4_readBand 137 = .ok (.aload_n 0, 1) := by decide +kernel
theorem dX4_readBand_138 : decode cX4_readBand 138 = .ok (.getfield 22, 3) := by decide +kernel
theorem dX4_readBand_141 : decode cX4_readBand 141 = .ok (.invokevirtual 86, 3) := by decide +kernel
theorem dX4_readBand_144 : decode cX4_readBand 144 = .ok (.aload_n 0, 1) := by decide +kernel
theorem dX4_readBand_145 : decode cX4_readBand 145 = .ok (.getfield 12, 3) := by decide +kernel
theorem dX4_readBand_148 : decode cX4_readBand 148 = .ok (.dup, 1) := by decide +kernel
theorem dX4_readBand_149 : decode cX4_readBand 149 = .ok (.getfield 141, 3) := by decide +kernel
theorem dX4_readBand_152 : decode cX4_readBand 152 = .ok (.iconst 1, 1) := by decide +kernel
theorem dX4_readBand_153 : decode cX4_readBand 153 = .ok (.iadd, 1) := by decide +kernel
theorem dX4_readBand_154 : decode cX4_readBand 154 = .ok (.putfield 141, 3) := by decide +kernel
theorem dX4_readBand_157 : decode cX4_readBand 157 = .ok (.return_, 1) := by decide +kernel
theorem dX4_readStand_0 : decode cX4_readStand 0 = .ok (.aload_n 0, 1) := by decide +kernel
theorem dX4_readStand_1 : decode cX4_readStand 1 = .ok (.getfield 22, 3) := by decide +kernel
theorem dX4_readStand_4 : decode cX4_readStand 4 = .ok (.bipush 11, 2) := by decide +kernel
theorem dX4_readStand_6 : decode cX4_readStand 6 = .ok (.invokevirtual 83, 3) := by decide +kernel
theorem dX4_readStand_9 : decode cX4_readStand 9 = .ok (.aload_n 1, 1) := by decide +kernel
theorem dX4_readStand_10 : decode cX4_readStand 10 = .ok (.aload_n 0, 1) := by decide +kernel
theorem dX4_readStand_11 : decode cX4_readStand 11 = .ok (.getfield 22, 3) := by decide +kernel
theorem dX4_readStand_14 : decode cX4_readStand 14 = .ok (.iconst 0, 1) := by decide +kernel
theorem dX4_readStand_15 : decode cX4_readStand 15 = .ok (.aload_n 0, 1) := by decide +kernel
theorem dX4_readStand_16 : decode cX4_readStand 16 = .ok (.getfield 12, 3) := by decide +kernel
theorem dX4_readStand_19 : decode cX4_readStand 19 = .ok (.getfield 89, 3) := by decide +kernel
theorem dX4_readStand_22 : decode cX4_readStand 22 = .ok (.iconst 1, 1) := by decide +kernel
theorem dX4_readStand_23 : decode cX4_readStand 23 = .ok (.isub, 1) := by decide +kernel
theorem dX4_readStand_24 : decode cX4_readStand 24 = .ok (.invokevirtual 80, 3) := by decide +kernel
theorem dX4_readStand_27 : decode cX4_readStand 27 = .ok (.putfield 168, 3) := by decide +kernel
theorem dX4_readStand_30 : decode cX4_readStand 30 = .ok (.aload_n 1, 1) := by decide +kernel
theorem dX4_readStand_31 : decode cX4_readStand 31 = .ok (.aload_n 0, 1) := by decide +kernel
theorem dX4_readStand_32 : decode cX4_readStand 32 = .ok (.getfield 22, 3) := by decide +kernel
theorem dX4_readStand_35 : decode cX4_readStand 35 = .ok (.iconst 0, 1) := by decide +kernel
theorem dX4_readStand_36 : decode cX4_readStand 36 = .ok (.aload_n 0, 1) := by decide +kernel
theorem dX4_readStand_37 : decode cX4_readStand 37 = .ok (.getfield 12, 3) := by decide +kernel
theorem dX4_readStand_40 : decode cX4_readStand 40 = .ok (.getfield 92, 3) := by decide +kernel
theorem dX4_readStand_43 : decode cX4_readStand 43 = .ok (.iconst 1, 1) := by decide +kernel
theorem dX4_readStand_44 : decode cX4_readStand 44 = .ok (.isub, 1) := by decide +kernel
theorem dX4_readStand_45 : decode cX4_readStand 45 = .ok (.invokevirtual 171, 3) := by decide +kernel
theorem dX4_readStand_48 : decode cX4_readStand 48 = .ok (.putfield 174, 3) := by decide +kernel
theorem dX4_readStand_51 : decode cX4_readStand 51 = .ok (.aload_n 0, 1) := by decide +kernel
theorem dX4_readStand_52 : decode cX4_readStand 52 = .ok (.getfield 12, 3) := by decide +kernel
theorem dX4_readStand_55 : decode cX4_readStand 55 = .ok (.aload_n 1, 1) := by decide +kernel
theorem dX4_readStand_56 : decode cX4_readStand 56 = .ok (.getfield 168, 3) := by decide +kernel
theorem dX4_readStand_59 : decode cX4_readStand 59 = .ok (.aload_n 1, 1) := by decide +kernel
theorem dX4_readStand_60 : decode cX4_readStand 60 = .ok (.getfield 174, 3) := by decide +kernel
theorem dX4_readStand_63 : decode cX4_readStand 63 = .ok (.invokevirtual 177, 3) := by decide +kernel
theorem dX4_readStand_66 : decode cX4_readStand 66 = .ok (.ifCond .eq 11, 3) := by decide +kernel
theorem dX4_readStand_69 : decode cX4_readStand 69 = .ok (.aload_n 0, 1) := by decide +kernel
theorem dX4_readStand_70 : decode cX4_readStand 70 = .ok (.getfield 22, 3) := by decide +kernel
theorem dX4_readStand_73 : decode cX4_readStand 73 = .ok (.iconst 5, 1) := by decide +kernel
theorem dX4_readStand_74 : decode cX4_readStand 74 = .ok (.invokevirtual 68, 3) := by decide +kernel
theorem dX4_readStand_77 : decode cX4_readStand 77 = .ok (.aload_n 0, 1) := by decide +kernel
theorem dX4_readStand_78 : decode cX4_readStand 78 = .ok (.getfield 22, 3) := by decide +kernel
theorem dX4_readStand_81 : decode cX4_readStand 81 = .ok (.invokevirtual 74, 3) := by decide +kernel
theorem dX4_readStand_84 : decode cX4_readStand 84 = .ok (.return_, 1) := by decide +kernel
theorem dX4_readProgramme_0 : decode cX4_readProgramme 0 = .ok (.aload_n 0, 1) := by decide +kernel
theorem dX4_readProgramme_1 : decode cX4_readProgramme 1 = .ok (.getfield 22, 3) := by decide +kernel
theorem dX4_readProgramme_4 : decode cX4_readProgramme 4 = .ok (.invokevirtual 74, 3) := by decide +kernel
theorem dX4_readProgramme_7 : decode cX4_readProgramme 7 = .ok (.iconst 1, 1) := by decide +kernel
theorem dX4_readProgramme_8 : decode cX4_readProgramme 8 = .ok (.istore_n 2, 1) := by decide +kernel
theorem dX4_readProgramme_9 : decode cX4_readProgramme 9 = .ok (.iconst 0, 1) := by decide +kernel
theorem dX4_readProgramme_10 : decode cX4_readProgramme 10 = .ok (.istore_n 3, 1) := by decide +kernel
theorem dX4_readProgramme_11 : decode cX4_readProgramme 11 = .ok (.iload_n 3, 1) := by decide +kernel
theorem dX4_readProgramme_12 : decode cX4_readProgramme 12 = .ok (.bipush 6, 2) := by decide +kernel
theorem dX4_readProgramme_14 : decode cX4_readProgramme 14 = .ok (.if_icmp .gt 94, 3) := by decide +kernel
theorem dX4_readProgramme_17 : decode cX4_readProgramme 17 = .ok (.iload_n 2, 1) := by decide +kernel
theorem dX4_readProgramme_18 : decode cX4_readProgramme 18 = .ok (.ifCond .eq 90, 3) := by decide +kernel
theorem dX4_readProgramme_21 : decode cX4_readProgramme 21 = .ok (.aload_n 0, 1) := by decide +kernel
theorem dX4_readProgramme_22 : decode cX4_readProgramme 22 = .ok (.getfield 22, 3) := by decide +kernel
theorem dX4_readProgramme_25 : decode cX4_readProgramme 25 = .ok (.aload_n 0, 1) := by decide +kernel
theorem dX4_readProgramme_26 : decode cX4_readProgramme 26 = .ok (.getfield 12, 3) := by decide +kernel
theorem dX4_readProgramme_29 : decode cX4_readProgramme 29 = .ok (.invokevirtual 181, 3) := by decide +kernel
theorem dX4_readProgramme_32 : decode cX4_readProgramme 32 = .ok (.istore 4, 2) := by decide +kernel
theorem dX4_readProgramme_34 : decode cX4_readProgramme 34 = .ok (.iload_n 3, 1) := by decide +kernel
theorem dX4_readProgramme_35 : decode cX4_readProgramme 35 = .ok (.bipush 6, 2) := by decide +kernel
theorem dX4_readProgramme_37 : decode cX4_readProgramme 37 = .ok (.if_icmp .lt 15, 3) := by decide +kernel
theorem dX4_readProgramme_40 : decode cX4_readProgramme 40 = .ok (.aload_n 0, 1) := by decide +kernel
theorem dX4_readProgramme_41 : decode cX4_readProgramme 41 = .ok (.getfield 22, 3) := by decide +kernel
theorem dX4_readProgramme_44 : decode cX4_readProgramme 44 = .ok (.bipush 6, 2) := by decide +kernel
theorem dX4_readProgramme_46 : decode cX4_readProgramme 46 = .ok (.invokevirtual 68, 3) := by decide +kernel
theorem dX4_readProgramme_49 : decode cX4_readProgramme 49 = .ok (.goto 18, 3) := by decide +kernel
theorem dX4_readProgramme_52 : decode cX4_readProgramme 52 = .ok (.aload_n 1, 1) := by decide +kernel
theorem dX4_readProgramme_53 : decode cX4_readProgramme 53 = .ok (.getfield 185, 3) := by decide +kernel
theorem dX4_readProgramme_56 : decode cX4_readProgramme 56 = .ok (.iload_n 3, 1) := by decide +kernel
theorem dX4_readProgramme_57 : decode cX4_readProgramme 57 = .ok (.iload 4, 2) := by decide +kernel
theorem dX4_readProgramme_59 : decode cX4_readProgramme 59 = .ok (.iastore, 1) := by decide +kernel
theorem dX4_readProgramme_60 : decode cX4_readProgramme 60 = .ok (.aload_n 1, 1) := by decide +kernel
theorem dX4_readProgramme_61 : decode cX4_readProgramme 61 = .ok (.iload_n 3, 1) := by decide +kernel
theorem dX4_readProgramme_62 : decode cX4_readProgramme 62 = .ok (.iconst 1, 1) := by decide +kernel
theorem dX4_readProgramme_63 : decode cX4_readProgramme 63 = .ok (.iadd, 1) := by decide +kernel
theorem dX4_readProgramme_64 : decode cX4_readProgramme 64 = .ok (.putfield 189, 3) := by decide +kernel
theorem dX4_readProgramme_67 : decode cX4_readProgramme 67 = .ok (.aload_n 0, 1) := by decide +kernel
theorem dX4_readProgramme_68 : decode cX4_readProgramme 68 = .ok (.getfield 22, 3) := by decide +kernel
theorem dX4_readProgramme_71 : decode cX4_readProgramme 71 = .ok (.invokevirtual 74, 3) := by decide +kernel
theorem dX4_readProgramme_74 : decode cX4_readProgramme 74 = .ok (.aload_n 0, 1) := by decide +kernel
theorem dX4_readProgramme_75 : decode cX4_readProgramme 75 = .ok (.getfield 22, 3) := by decide +kernel
theorem dX4_readProgramme_78 : decode cX4_readProgramme 78 = .ok (.invokevirtual 35, 3) := by decide +kernel
theorem dX4_readProgramme_81 : decode cX4_readProgramme 81 = .ok (.ifCond .eq 19, 3) := by decide +kernel
theorem dX4_readProgramme_84 : decode cX4_readProgramme 84 = .ok (.aload_n 0, 1) := by decide +kernel
theorem dX4_readProgramme_85 : decode cX4_readProgramme 85 = .ok (.getfield 22, 3) := by decide +kernel
theorem dX4_readProgramme_88 : decode cX4_readProgramme 88 = .ok (.bipush 59, 2) := by decide +kernel
theorem dX4_readProgramme_90 : decode cX4_readProgramme 90 = .ok (.invokevirtual 192, 3) := by decide +kernel
theorem dX4_readProgramme_93 : decode cX4_readProgramme 93 = .ok (.ifCond .ne 7, 3) := by decide +kernel
theorem dX4_readProgramme_96 : decode cX4_readProgramme 96 = .ok (.iconst 1, 1) := by decide +kernel
theorem dX4_readProgramme_97 : decode cX4_readProgramme 97 = .ok (.goto 4, 3) := by decide +kernel
theorem dX4_readProgramme_100 : decode cX4_readProgramme 100 = .ok (.iconst 0, 1) := by decide +kernel
theorem dX4_readProgramme_101 : decode cX4_readProgramme 101 = .ok (.istore_n 2, 1) := by decide +kernel
theorem dX4_readProgramme_102 : decode cX4_readProgramme 102 = .ok (.iinc 3 1, 3) := by decide +kernel
theorem dX4_readProgramme_105 : decode cX4_readProgramme 105 = .ok (.goto (-94), 3) := by decide +kernel
theorem dX4_readProgramme_108 : decode cX4_readProgramme 108 = .ok (.return_, 1) := by decide +kernel
