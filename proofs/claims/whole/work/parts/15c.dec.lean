theorem dX3_init_0 : decode cX3_init 0 = .ok (.aload_n 0, 1) := by decide +kernel
theorem dX3_init_1 : decode cX3_init 1 = .ok (.invokespecial 3, 3) := by decide +kernel
theorem dX3_init_4 : decode cX3_init 4 = .ok (.aload_n 0, 1) := by decide +kernel
theorem dX3_init_5 : decode cX3_init 5 = .ok (.iconst 0, 1) := by decide +kernel
theorem dX3_init_6 : decode cX3_init 6 = .ok (.putfield 9, 3) := by decide +kernel
theorem dX3_init_9 : decode cX3_init 9 = .ok (.aload_n 0, 1) := by decide +kernel
theorem dX3_init_10 : decode cX3_init 10 = .ok (.iconst 0, 1) := by decide +kernel
theorem dX3_init_11 : decode cX3_init 11 = .ok (.putfield 15, 3) := by decide +kernel
theorem dX3_init_14 : decode cX3_init 14 = .ok (.aload_n 0, 1) := by decide +kernel
theorem dX3_init_15 : decode cX3_init 15 = .ok (.iconst 2, 1) := by decide +kernel
theorem dX3_init_16 : decode cX3_init 16 = .ok (.putfield 18, 3) := by decide +kernel
theorem dX3_init_19 : decode cX3_init 19 = .ok (.aload_n 0, 1) := by decide +kernel
theorem dX3_init_20 : decode cX3_init 20 = .ok (.iconst 2, 1) := by decide +kernel
theorem dX3_init_21 : decode cX3_init 21 = .ok (.putfield 21, 3) := by decide +kernel
theorem dX3_init_24 : decode cX3_init 24 = .ok (.aload_n 0, 1) := by decide +kernel
theorem dX3_init_25 : decode cX3_init 25 = .ok (.iconst 4, 1) := by decide +kernel
theorem dX3_init_26 : decode cX3_init 26 = .ok (.putfield 24, 3) := by decide +kernel
theorem dX3_init_29 : decode cX3_init 29 = .ok (.aload_n 0, 1) := by decide +kernel
theorem dX3_init_30 : decode cX3_init 30 = .ok (.iconst 0, 1) := by decide +kernel
theorem dX3_init_31 : decode cX3_init 31 = .ok (.putfield 27, 3) := by decide +kernel
theorem dX3_init_34 : decode cX3_init 34 = .ok (.aload_n 0, 1) := by decide +kernel
theorem dX3_init_35 : decode cX3_init 35 = .ok (.iconst 4, 1) := by decide +kernel
theorem dX3_init_36 : decode cX3_init 36 = .ok (.putfield 30, 3) := by decide +kernel
theorem dX3_init_39 : decode cX3_init 39 = .ok (.aload_n 0, 1) := by decide +kernel
theorem dX3_init_40 : decode cX3_init 40 = .ok (.iconst 0, 1) := by decide +kernel
theorem dX3_init_41 : decode cX3_init 41 = .ok (.putfield 33, 3) := by decide +kernel
theorem dX3_init_44 : decode cX3_init 44 = .ok (.aload_n 0, 1) := by decide +kernel
theorem dX3_init_45 : decode cX3_init 45 = .ok (.bipush 30, 2) := by decide +kernel
theorem dX3_init_47 : decode cX3_init 47 = .ok (.newarray .boolean, 2) := by decide +kernel
theorem dX3_init_49 : decode cX3_init 49 = .ok (.putfield 37, 3) := by decide +kernel
theorem dX3_init_52 : decode cX3_init 52 = .ok (.aload_n 0, 1) := by decide +kernel
theorem dX3_init_53 : decode cX3_init 53 = .ok (.iconst 0, 1) := by decide +kernel
theorem dX3_init_54 : decode cX3_init 54 = .ok (.putfield 41, 3) := by decide +kernel
theorem dX3_init_57 : decode cX3_init 57 = .ok (.aload_n 0, 1) := by decide +kernel
theorem dX3_init_58 : decode cX3_init 58 = .ok (.bipush 6, 2) := by decide +kernel
theorem dX3_init_60 : decode cX3_init 60 = .ok (.anewarray 44, 3) := by decide +kernel
theorem dX3_init_63 : decode cX3_init 63 = .ok (.putfield 46, 3) := by decide +kernel
theorem dX3_init_66 : decode cX3_init 66 = .ok (.aload_n 0, 1) := by decide +kernel
theorem dX3_init_67 : decode cX3_init 67 = .ok (.iconst 0, 1) := by decide +kernel
theorem dX3_init_68 : decode cX3_init 68 = .ok (.putfield 50, 3) := by decide +kernel
theorem dX3_init_71 : decode cX3_init 71 = .ok (.aload_n 0, 1) := by decide +kernel
theorem dX3_init_72 : decode cX3_init 72 = .ok (.bipush 6, 2) := by decide +kernel
theorem dX3_init_74 : decode cX3_init 74 = .ok (.anewarray 53, 3) := by decide +kernel
theorem dX3_init_77 : decode cX3_init 77 = .ok (.putfield 55, 3) := by decide +kernel
theorem dX3_init_80 : decode cX3_init 80 = .ok (.aload_n 0, 1) := by decide +kernel
theorem dX3_init_81 : decode cX3_init 81 = .ok (.new 59, 3) := by decide +kernel
theorem dX3_init_84 : decode cX3_init 84 = .ok (.dup, 1) := by decide +kernel
theorem dX3_init_85 : decode cX3_init 85 = .ok (.invokespecial 61, 3) := by decide +kernel
theorem dX3_init_88 : decode cX3_init 88 = .ok (.putfield 62, 3) := by decide +kernel
theorem dX3_init_91 : decode cX3_init 91 = .ok (.aload_n 0, 1) := by decide +kernel
theorem dX3_init_92 : decode cX3_init 92 = .ok (.iconst 0, 1) := by decide +kernel
theorem dX3_init_93 : decode cX3_init 93 = .ok (.putfield 66, 3) := by decide +kernel
theorem dX3_init_96 : decode cX3_init 96 = .ok (.iconst 0, 1) := by decide +kernel
theorem dX3_init_97 : decode cX3_init 97 = .ok (.istore_n 1, 1) := by decide +kernel
theorem dX3_init_98 : decode cX3_init 98 = .ok (.iload_n 1, 1) := by decide +kernel
theorem dX3_init_99 : decode cX3_init 99 = .ok (.bipush 6, 2) := by decide +kernel
theorem dX3_init_101 : decode cX3_init 101 = .ok (.if_icmp .ge 22, 3) := by decide +kernel
theorem dX3_init_104 : decode cX3_init 104 = .ok (.aload_n 0, 1) := by decide +kernel
theorem dX3_init_105 : decode cX3_init 105 = .ok (.getfield 46, 3) := by decide +kernel
theorem dX3_init_108 : decode cX3_init 108 = .ok (.iload_n 1, 1) := by decide +kernel
theorem dX3_init_109 : decode cX3_init 109 = .ok (.new 44, 3) := by decide +kernel
theorem dX3_init_112 : decode cX3_init 112 = .ok (.dup, 1) := by decide +kernel
theorem dX3_init_113 : decode cX3_init 113 = .ok (.invokespecial 69, 3) := by decide +kernel
theorem dX3_init_116 : decode cX3_init 116 = .ok (.aastore, 1) := by decide +kernel
theorem dX3_init_117 : decode cX3_init 117 = .ok (.iinc 1 1, 3) := by decide +kernel
theorem dX3_init_120 : decode cX3_init 120 = .ok (.goto (-22), 3) := by decide +kernel
theorem dX3_init_123 : decode cX3_init 123 = .ok (.iconst 0, 1) := by decide +kernel
theorem dX3_init_124 : decode cX3_init 124 = .ok (.istore_n 1, 1) := by decide +kernel
theorem dX3_init_125 : decode cX3_init 125 = .ok (.iload_n 1, 1) := by decide +kernel
theorem dX3_init_126 : decode cX3_init 126 = .ok (.bipush 6, 2) := by decide +kernel
theorem dX3_init_128 : decode cX3_init 128 = .ok (.if_icmp .ge 22, 3) := by decide +kernel
theorem dX3_init_131 : decode cX3_init 131 = .ok (.aload_n 0, 1) := by decide +kernel
theorem dX3_init_132 : decode cX3_init 132 = .ok (.getfield 55, 3) := by decide +kernel
theorem dX3_init_135 : decode cX3_init 135 = .ok (.iload_n 1, 1) := by decide +kernel
theorem dX3_init_136 : decode cX3_init 136 = .ok (.new 53, 3) := by decide +kernel
theorem dX3_init_139 : decode cX3_init 139 = .ok (.dup, 1) := by decide +kernel
theorem dX3_init_140 : decode cX3_init 140 = .ok (.invokespecial 70, 3) := by decide +kernel
theorem dX3_init_143 : decode cX3_init 143 = .ok (.aastore, 1) := by decide +kernel
theorem dX3_init_144 : decode cX3_init 144 = .ok (.iinc 1 1, 3) := by decide +kernel
theorem dX3_init_147 : decode cX3_init 147 = .ok (.goto (-22), 3) := by decide +kernel
theorem dX3_init_150 : decode cX3_init 150 = .ok (.return_, 1) := by decide +kernel
theorem dX3_clear_0 : decode cX3_clear 0 = .ok (.aload_n 0, 1) := by decide +kernel
theorem dX3_clear_1 : decode cX3_clear 1 = .ok (.iconst 0, 1) := by decide +kernel
theorem dX3_clear_2 : decode cX3_clear 2 = .ok (.putfield 9, 3) := by decide +kernel
theorem dX3_clear_5 : decode cX3_clear 5 = .ok (.aload_n 0, 1) := by decide +kernel
theorem dX3_clear_6 : decode cX3_clear 6 = .ok (.iconst 0, 1) := by decide +kernel
theorem dX3_clear_7 : decode cX3_clear 7 = .ok (.putfield 15, 3) := by decide +kernel
theorem dX3_clear_10 : decode cX3_clear 10 = .ok (.aload_n 0, 1) := by decide +kernel
theorem dX3_clear_11 : decode cX3_clear 11 = .ok (.iconst 2, 1) := by decide +kernel
theorem dX3_clear_12 : decode cX3_clear 12 = .ok (.putfield 18, 3) := by decide +kernel
theorem dX3_clear_15 : decode cX3_clear 15 = .ok (.aload_n 0, 1) := by decide +kernel
theorem dX3_clear_16 : decode cX3_clear 16 = .ok (.iconst 2, 1) := by decide +kernel
theorem dX3_clear_17 : decode cX3_clear 17 = .ok (.putfield 21, 3) := by decide +kernel
theorem dX3_clear_20 : decode cX3_clear 20 = .ok (.aload_n 0, 1) := by decide +kernel
theorem dX3_clear_21 : decode cX3_clear 21 = .ok (.iconst 4, 1) := by decide +kernel
theorem dX3_clear_22 : decode cX3_clear 22 = .ok (.putfield 24, 3) := by decide +kernel
theorem dX3_clear_25 : decode cX3_clear 25 = .ok (.aload_n 0, 1) := by decide +kernel
theorem dX3_clear_26 : decode cX3_clear 26 = .ok (.iconst 0, 1) := by decide +kernel
theorem dX3_clear_27 : decode cX3_clear 27 = .ok (.putfield 27, 3) := by decide +kernel
theorem dX3_clear_30 : decode cX3_clear 30 = .ok (.aload_n 0, 1) := by decide +kernel
theorem dX3_clear_31 : decode cX3_clear 31 = .ok (.iconst 4, 1) := by decide +kernel
theorem dX3_clear_32 : decode cX3_clear 32 = .ok (.putfield 30, 3) := by decide +kernel
theorem dX3_clear_35 : decode cX3_clear 35 = .ok (.aload_n 0, 1) := by decide +kernel
theorem dX3_clear_36 : decode cX3_clear 36 = .ok (.iconst 0, 1) := by decide +kernel
theorem dX3_clear_37 : decode cX3_clear 37 = .ok (.putfield 33, 3) := by decide +kernel
theorem dX3_clear_40 : decode cX3_clear 40 = .ok (.aload_n 0, 1) := by decide +kernel
theorem dX3_clear_41 : decode cX3_clear 41 = .ok (.iconst 0, 1) := by decide +kernel
theorem dX3_clear_42 : decode cX3_clear 42 = .ok (.putfield 41, 3) := by decide +kernel
theorem dX3_clear_45 : decode cX3_clear 45 = .ok (.aload_n 0, 1) := by decide +kernel
theorem dX3_clear_46 : decode cX3_clear 46 = .ok (.iconst 0, 1) := by decide +kernel
theorem dX3_clear_47 : decode cX3_clear 47 = .ok (.putfield 50, 3) := by decide +kernel
theorem dX3_clear_50 : decode cX3_clear 50 = .ok (.aload_n 0, 1) := by decide +kernel
theorem dX3_clear_51 : decode cX3_clear 51 = .ok (.getfield 62, 3) := by decide +kernel
theorem dX3_clear_54 : decode cX3_clear 54 = .ok (.invokevirtual 71, 3) := by decide +kernel
theorem dX3_clear_57 : decode cX3_clear 57 = .ok (.aload_n 0, 1) := by decide +kernel
theorem dX3_clear_58 : decode cX3_clear 58 = .ok (.dup, 1) := by decide +kernel
theorem dX3_clear_59 : decode cX3_clear 59 = .ok (.getfield 66, 3) := by decide +kernel
theorem dX3_clear_62 : decode cX3_clear 62 = .ok (.iconst 1, 1) := by decide +kernel
theorem dX3_clear_63 : decode cX3_clear 63 = .ok (.iadd, 1) := by decide +kernel
theorem dX3_clear_64 : decode cX3_clear 64 = .ok (.putfield 66, 3) := by decide +kernel
theorem dX3_clear_67 : decode cX3_clear 67 = .ok (.iconst 0, 1) := by decide +kernel
theorem dX3_clear_68 : decode cX3_clear 68 = .ok (.istore_n 1, 1) := by decide +kernel
theorem dX3_clear_69 : decode cX3_clear 69 = .ok (.iload_n 1, 1) := by decide +kernel
theorem dX3_clear_70 : decode cX3_clear 70 = .ok (.bipush 30, 2) := by decide +kernel
theorem dX3_clear_72 : decode cX3_clear 72 = .ok (.if_icmp .ge 16, 3) := by decide +kernel
theorem dX3_clear_75 : decode cX3_clear 75 = .ok (.aload_n 0, 1) := by decide +kernel
theorem dX3_clear_76 : decode cX3_clear 76 = .ok (.getfield 37, 3) := by decide +kernel
theorem dX3_clear_79 : decode cX3_clear 79 = .ok (.iload_n 1, 1) := by decide +kernel
theorem dX3_clear_80 : decode cX3_clear 80 = .ok (.iconst 0, 1) := by decide +kernel
theorem dX3_clear_81 : decode cX3_clear 81 = .ok (.bastore, 1) := by decide +kernel
theorem dX3_clear_82 : decode cX3_clear 82 = .ok (.iinc 1 1, 3) := by decide +kernel
theorem dX3_clear_85 : decode cX3_clear 85 = .ok (.goto (-16), 3) := by decide +kernel
theorem dX3_clear_88 : decode cX3_clear 88 = .ok (.return_, 1) := by decide +kernel
theorem dX3_takeFrom_0 : decode cX3_takeFrom 0 = .ok (.aload_n 0, 1) := by decide +kernel
theorem dX3_takeFrom_1 : decode cX3_takeFrom 1 = .ok (.aload_n 1, 1) := by decide +kernel
theorem dX3_takeFrom_2 : decode cX3_takeFrom 2 = .ok (.getfield 9, 3) := by decide +kernel
theorem dX3_takeFrom_5 : decode cX3_takeFrom 5 = .ok (.putfield 9, 3) := by decide +kernel
theorem dX3_takeFrom_8 : decode cX3_takeFrom 8 = .ok (.aload_n 0, 1) := by decide +kernel
theorem dX3_takeFrom_9 : decode cX3_takeFrom 9 = .ok (.aload_n 1, 1) := by decide +kernel
theorem dX3_takeFrom_10 : decode cX3_takeFrom 10 = .ok (.getfield 15, 3) := by decide +kernel
theorem dX3_takeFrom_13 : decode cX3_takeFrom 13 = .ok (.putfield 15, 3) := by decide +kernel
theorem dX3_takeFrom_16 : decode cX3_takeFrom 16 = .ok (.aload_n 0, 1) := by decide +kernel
theorem dX3_takeFrom_17 : decode cX3_takeFrom 17 = .ok (.aload_n 1, 1) := by decide +kernel
theorem dX3_takeFrom_18 : decode cX3_takeFrom 18 = .ok (.getfield 18, 3) := by decide +kernel
theorem dX3_takeFrom_21 : decode cX3_takeFrom 21 = .ok (.putfield 18, 3) := by decide +kernel
theorem dX3_takeFrom_24 : decode cX3_takeFrom 24 = .ok (.aload_n 0, 1) := by decide +kernel
theorem dX3_takeFrom_25 : decode cX3_takeFrom 25 = .ok (.aload_n 1, 1) := by decide +kernel
theorem dX3_takeFrom_26 : decode cX3_takeFrom 26 = .ok (.getfield 21, 3) := by decide +kernel
theorem dX3_takeFrom_29 : decode cX3_takeFrom 29 = .ok (.putfield 21, 3) := by decide +kernel
theorem dX3_takeFrom_32 : decode cX3_takeFrom 32 = .ok (.aload_n 0, 1) := by decide +kernel
theorem dX3_takeFrom_33 : decode cX3_takeFrom 33 = .ok (.aload_n 1, 1) := by decide +kernel
theorem dX3_takeFrom_34 : decode cX3_takeFrom 34 = .ok (.getfield 24, 3) := by decide +kernel
theorem dX3_takeFrom_37 : decode cX3_takeFrom 37 = .ok (.putfield 24, 3) := by decide +kernel
theorem dX3_takeFrom_40 : decode cX3_takeFrom 40 = .ok (.aload_n 0, 1) := by decide +kernel
theorem dX3_takeFrom_41 : decode cX3_takeFrom 41 = .ok (.aload_n 1, 1) := by decide +kernel
theorem dX3_takeFrom_42 : decode cX3_takeFrom 42 = .ok (.getfield 27, 3) := by decide +kernel
theorem dX3_takeFrom_45 : decode cX3_takeFrom 45 = .ok (.putfield 27, 3) := by decide +kernel
theorem dX3_takeFrom_48 : decode cX3_takeFrom 48 = .ok (.aload_n 0, 1) := by decide +kernel
theorem dX3_takeFrom_49 : decode cX3_takeFrom 49 = .ok (.aload_n 1, 1) := by decide +kernel
theorem dX3_takeFrom_50 : decode cX3_takeFrom 50 = .ok (.getfield 30, 3) := by decide +kernel
theorem dX3_takeFrom_53 : decode cX3_takeFrom 53 = .ok (.putfield 30, 3) := by decide +kernel
theorem dX3_takeFrom_56 : decode cX3_takeFrom 56 = .ok (.aload_n 0, 1) := by decide +kernel
theorem dX3_takeFrom_57 : decode cX3_takeFrom 57 = .ok (.aload_n 1, 1) := by decide +kernel
theorem dX3_takeFrom_58 : decode cX3_takeFrom 58 = .ok (.getfield 33, 3) := by decide +kernel
theorem dX3_takeFrom_61 : decode cX3_takeFrom 61 = .ok (.putfield 33, 3) := by decide +kernel
theorem dX3_takeFrom_64 : decode cX3_takeFrom 64 = .ok (.aload_n 0, 1) := by decide +kernel
theorem dX3_takeFrom_65 : decode cX3_takeFrom 65 = .ok (.aload_n 1, 1) := by decide +kernel
theorem dX3_takeFrom_66 : decode cX3_takeFrom 66 = .ok (.getfield 41, 3) := by decide +kernel
theorem dX3_takeFrom_69 : decode cX3_takeFrom 69 = .ok (.putfield 41, 3) := by decide +kernel
theorem dX3_takeFrom_72 : decode cX3_takeFrom 72 = .ok (.aload_n 0, 1) := by decide +kernel
theorem dX3_takeFrom_73 : decode cX3_takeFrom 73 = .ok (.aload_n 1, 1) := by decide +kernel
theorem dX3_takeFrom_74 : decode cX3_takeFrom 74 = .ok (.getfield 50, 3) := by decide +kernel
theorem dX3_takeFrom_77 : decode cX3_takeFrom 77 = .ok (.putfield 50, 3) := by decide +kernel
theorem dX3_takeFrom_80 : decode cX3_takeFrom 80 = .ok (.aload_n 0, 1) := by decide +kernel
theorem dX3_takeFrom_81 : decode cX3_takeFrom 81 = .ok (.getfield 62, 3) := by decide +kernel
theorem dX3_takeFrom_84 : decode cX3_takeFrom 84 = .ok (.aload_n 1, 1) := by decide +kernel
theorem dX3_takeFrom_85 : decode cX3_takeFrom 85 = .ok (.getfield 62, 3) := by decide +kernel
theorem dX3_takeFrom_88 : decode cX3_takeFrom 88 = .ok (.invokevirtual 74, 3) := by decide +kernel
theorem dX3_takeFrom_91 : decode cX3_takeFrom 91 = .ok (.aload_n 0, 1) := by decide +kernel
theorem dX3_takeFrom_92 : decode cX3_takeFrom 92 = .ok (.dup, 1) := by decide +kernel
theorem dX3_takeFrom_93 : decode cX3_takeFrom 93 = .ok (.getfield 66, 3) := by decide +kernel
theorem dX3_takeFrom_96 : decode cX3_takeFrom 96 = .ok (.iconst 1, 1) := by decide +kernel
theorem dX3_takeFrom_97 : decode cX3_takeFrom 97 = .ok (.iadd, 1) := by decide +kernel
theorem dX3_takeFrom_98 : decode cX3_takeFrom 98 = .ok (.putfield 66, 3) := by decide +kernel
theorem dX3_takeFrom_101 : decode cX3_takeFrom 101 = .ok (.iconst 0, 1) := by decide +kernel
theorem dX3_takeFrom_102 : decode cX3_takeFrom 102 = .ok (.istore_n 2, 1) := by decide +kernel
theorem dX3_takeFrom_103 : decode cX3_takeFrom 103 = .ok (.iload_n 2, 1) := by decide +kernel
theorem dX3_takeFrom_104 : decode cX3_takeFrom 104 = .ok (.bipush 30, 2) := by decide +kernel
theorem dX3_takeFrom_106 : decode cX3_takeFrom 106 = .ok (.if_icmp .ge 21, 3) := by decide +kernel
theorem dX3_takeFrom_109 : decode cX3_takeFrom 109 = .ok (.aload_n 0, 1) := by decide +kernel
theorem dX3_takeFrom_110 : decode cX3_takeFrom 110 = .ok (.getfield 37, 3) := by decide +kernel
theorem dX3_takeFrom_113 : decode cX3_takeFrom 113 = .ok (.iload_n 2, 1) := by decide +kernel
theorem dX3_takeFrom_114 : decode cX3_takeFrom 114 = .ok (.aload_n 1, 1) := by decide +kernel
theorem dX3_takeFrom_115 : decode cX3_takeFrom 115 = .ok (.getfield 37, 3) := by decide +kernel
theorem dX3_takeFrom_118 : decode cX3_takeFrom 118 = .ok (.iload_n 2, 1) := by decide +kernel
theorem dX3_takeFrom_119 : decode cX3_takeFrom 119 = .ok (.baload, 1) := by decide +kernel
theorem dX3_takeFrom_120 : decode cX3_takeFrom 120 = .ok (.bastore, 1) := by decide +kernel
theorem dX3_takeFrom_121 : decode cX3_takeFrom 121 = .ok (.iinc 2 1, 3) := by decide +kernel
theorem dX3_takeFrom_124 : decode cX3_takeFrom 124 = .ok (.goto (-21), 3) := by decide +kernel
theorem dX3_takeFrom_127 : decode cX3_takeFrom 127 = .ok (.iconst 0, 1) := by decide +kernel
theorem dX3_takeFrom_128 : decode cX3_takeFrom 128 = .ok (.istore_n 2, 1) := by decide +kernel
theorem dX3_takeFrom_129 : decode cX3_takeFrom 129 = .ok (.iload_n 2, 1) := by decide +kernel
theorem dX3_takeFrom_130 : decode cX3_takeFrom 130 = .ok (.aload_n 0, 1) := by decide +kernel
theorem dX3_takeFrom_131 : decode cX3_takeFrom 131 = .ok (.getfield 41, 3) := by decide +kernel
theorem dX3_takeFrom_134 : decode cX3_takeFrom 134 = .ok (.if_icmp .ge 30, 3) := by decide +kernel
theorem dX3_takeFrom_137 : decode cX3_takeFrom 137 = .ok (.iload_n 2, 1) := by decide +kernel
theorem dX3_takeFrom_138 : decode cX3_takeFrom 138 = .ok (.bipush 6, 2) := by decide +kernel
theorem dX3_takeFrom_140 : decode cX3_takeFrom 140 = .ok (.if_icmp .ge 24, 3) := by decide +kernel
theorem dX3_takeFrom_143 : decode cX3_takeFrom 143 = .ok (.aload_n 0, 1) := by decide +kernel
theorem dX3_takeFrom_144 : decode cX3_takeFrom 144 = .ok (.getfield 46, 3) := by decide +kernel
theorem dX3_takeFrom_147 : decode cX3_takeFrom 147 = .ok (.iload_n 2, 1) := by decide +kernel
theorem dX3_takeFrom_148 : decode cX3_takeFrom 148 = .ok (.aaload, 1) := by decide +kernel
theorem dX3_takeFrom_149 : decode cX3_takeFrom 149 = .ok (.aload_n 1, 1) := by decide +kernel
theorem dX3_takeFrom_150 : decode cX3_takeFrom 150 = .ok (.getfield 46, 3) := by decide +kernel
theorem dX3_takeFrom_153 : decode cX3_takeFrom 153 = .ok (.iload_n 2, 1) := by decide +kernel
theorem dX3_takeFrom_154 : decode cX3_takeFrom 154 = .ok (.aaload, 1) := by decide +kernel
theorem dX3_takeFrom_155 : decode cX3_takeFrom 155 = .ok (.invokevirtual 78, 3) := by decide +kernel
theorem dX3_takeFrom_158 : decode cX3_takeFrom 158 = .ok (.iinc 2 1, 3) := by decide +kernel
theorem dX3_takeFrom_161 : decode cX3_takeFrom 161 = .ok (.goto (-32), 3) := by decide +kernel
theorem dX3_takeFrom_164 : decode cX3_takeFrom 164 = .ok (.iconst 0, 1) := by decide +kernel
theorem dX3_takeFrom_165 : decode cX3_takeFrom 165 = .ok (.istore_n 2, 1) := by decide +kernel
theorem dX3_takeFrom_166 : decode cX3_takeFrom 166 = .ok (.iload_n 2, 1) := by decide +kernel
theorem dX3_takeFrom_167 : decode cX3_takeFrom 167 = .ok (.aload_n 0, 1) := by decide +kernel
theorem dX3_takeFrom_168 : decode cX3_takeFrom 168 = .ok (.getfield 50, 3) := by decide +kernel
theorem dX3_takeFrom_171 : decode cX3_takeFrom 171 = .ok (.if_icmp .ge 30, 3) := by decide +kernel
theorem dX3_takeFrom_174 : decode cX3_takeFrom 174 = .ok (.iload_n 2, 1) := by decide +kernel
theorem dX3_takeFrom_175 : decode cX3_takeFrom 175 = .ok (.bipush 6, 2) := by decide +kernel
theorem dX3_takeFrom_177 : decode cX3_takeFrom 177 = .ok (.if_icmp .ge 24, 3) := by decide +kernel
theorem dX3_takeFrom_180 : decode cX3_takeFrom 180 = .ok (.aload_n 0, 1) := by decide +kernel
theorem dX3_takeFrom_181 : decode cX3_takeFrom 181 = .ok (.getfield 55, 3) := by decide +kernel
theorem dX3_takeFrom_184 : decode cX3_takeFrom 184 = .ok (.iload_n 2, 1) := by decide +kernel
theorem dX3_takeFrom_185 : decode cX3_takeFrom 185 = .ok (.aaload, 1) := by decide +kernel
theorem dX3_takeFrom_186 : decode cX3_takeFrom 186 = .ok (.aload_n 1, 1) := by decide +kernel
theorem dX3_takeFrom_187 : decode cX3_takeFrom 187 = .ok (.getfield 55, 3) := by decide +kernel
theorem dX3_takeFrom_190 : decode cX3_takeFrom 190 = .ok (.iload_n 2, 1) := by decide +kernel
theorem dX3_takeFrom_191 : decode cX3_takeFrom 191 = .ok (.aaload, 1) := by decide +kernel
theorem dX3_takeFrom_192 : decode cX3_takeFrom 192 = .ok (.invokevirtual 81, 3) := by decide +kernel
theorem dX3_takeFrom_195 : decode cX3_takeFrom 195 = .ok (.iinc 2 1, 3) := by decide +kernel
theorem dX3_takeFrom_198 : decode cX3_takeFrom 198 = .ok (.goto (-32), 3) := by decide +kernel
theorem dX3_takeFrom_201 : decode cX3_takeFrom 201 = .ok (.return_, 1) := by decide +kernel
theorem dX3_hasTune_0 : decode cX3_hasTune 0 = .ok (.iload_n 1, 1) := by decide +kernel
theorem dX3_hasTune_1 : decode cX3_hasTune 1 = .ok (.ifCond .lt 21, 3) := by decide +kernel
theorem dX3_hasTune_4 : decode cX3_hasTune 4 = .ok (.iload_n 1, 1) := by decide +kernel
theorem dX3_hasTune_5 : decode cX3_hasTune 5 = .ok (.aload_n 0, 1) := by decide +kernel
theorem dX3_hasTune_6 : decode cX3_hasTune 6 = .ok (.getfield 41, 3) := by decide +kernel
theorem dX3_hasTune_9 : decode cX3_hasTune 9 = .ok (.if_icmp .ge 13, 3) := by decide +kernel
theorem dX3_hasTune_12 : decode cX3_hasTune 12 = .ok (.iload_n 1, 1) := by decide +kernel
theorem dX3_hasTune_13 : decode cX3_hasTune 13 = .ok (.bipush 6, 2) := by decide +kernel
theorem dX3_hasTune_15 : decode cX3_hasTune 15 = .ok (.if_icmp .ge 7, 3) := by decide +kernel
theorem dX3_hasTune_18 : decode cX3_hasTune 18 = .ok (.iconst 1, 1) := by decide +kernel
theorem dX3_hasTune_19 : decode cX3_hasTune 19 = .ok (.goto 4, 3) := by decide +kernel
theorem dX3_hasTune_22 : decode cX3_hasTune 22 = .ok (.iconst 0, 1) := by decide +kernel
theorem dX3_hasTune_23 : decode cX3_hasTune 23 = .ok (.ireturn, 1) := by decide +kernel
theorem dX3_hasBand_0 : decode cX3_hasBand 0 = .ok (.iload_n 1, 1) := by decide +kernel
theorem dX3_hasBand_1 : decode cX3_hasBand 1 = .ok (.ifCond .lt 21, 3) := by decide +kernel
theorem dX3_hasBand_4 : decode cX3_hasBand 4 = .ok (.iload_n 1, 1) := by decide +kernel
theorem dX3_hasBand_5 : decode cX3_hasBand 5 = .ok (.aload_n 0, 1) := by decide +kernel
theorem dX3_hasBand_6 : decode cX3_hasBand 6 = .ok (.getfield 50, 3) := by decide +kernel
theorem dX3_hasBand_9 : decode cX3_hasBand 9 = .ok (.if_icmp .ge 13, 3) := by decide +kernel
theorem dX3_hasBand_12 : decode cX3_hasBand 12 = .ok (.iload_n 1, 1) := by decide +kernel
theorem dX3_hasBand_13 : decode cX3_hasBand 13 = .ok (.bipush 6, 2) := by decide +kernel
theorem dX3_hasBand_15 : decode cX3_hasBand 15 = .ok (.if_icmp .ge 7, 3) := by decide +kernel
theorem dX3_hasBand_18 : decode cX3_hasBand 18 = .ok (.iconst 1, 1) := by decide +kernel
theorem dX3_hasBand_19 : decode cX3_hasBand 19 = .ok (.goto 4, 3) := by decide +kernel
theorem dX3_hasBand_22 : decode cX3_hasBand 22 = .ok (.iconst 0, 1) := by decide +kernel
theorem dX3_hasBand_23 : decode cX3_hasBand 23 = .ok (.ireturn, 1) := by decide +kernel
theorem dX3_hasEntry_0 : decode cX3_hasEntry 0 = .ok (.iload_n 1, 1) := by decide +kernel
theorem dX3_hasEntry_1 : decode cX3_hasEntry 1 = .ok (.bipush 6, 2) := by decide +kernel
theorem dX3_hasEntry_3 : decode cX3_hasEntry 3 = .ok (.if_icmp .eq 11, 3) := by decide +kernel
theorem dX3_hasEntry_6 : decode cX3_hasEntry 6 = .ok (.aload_n 0, 1) := by decide +kernel
theorem dX3_hasEntry_7 : decode cX3_hasEntry 7 = .ok (.iload_n 1, 1) := by decide +kernel
theorem dX3_hasEntry_8 : decode cX3_hasEntry 8 = .ok (.invokevirtual 84, 3) := by decide +kernel
theorem dX3_hasEntry_11 : decode cX3_hasEntry 11 = .ok (.ifCond .eq 7, 3) := by decide +kernel
theorem dX3_hasEntry_14 : decode cX3_hasEntry 14 = .ok (.iconst 1, 1) := by decide +kernel
theorem dX3_hasEntry_15 : decode cX3_hasEntry 15 = .ok (.goto 4, 3) := by decide +kernel
theorem dX3_hasEntry_18 : decode cX3_hasEntry 18 = .ok (.iconst 0, 1) := by decide +kernel
theorem dX3_hasEntry_19 : decode cX3_hasEntry 19 = .ok (.ireturn, 1) := by decide +kernel
theorem dX3_isBandSet_0 : decode cX3_isBandSet 0 = .ok (.iload_n 1, 1) := by decide +kernel
theorem dX3_isBandSet_1 : decode cX3_isBandSet 1 = .ok (.ifCond .lt 17, 3) := by decide +kernel
theorem dX3_isBandSet_4 : decode cX3_isBandSet 4 = .ok (.iload_n 1, 1) := by decide +kernel
theorem dX3_isBandSet_5 : decode cX3_isBandSet 5 = .ok (.iconst 1, 1) := by decide +kernel
theorem dX3_isBandSet_6 : decode cX3_isBandSet 6 = .ok (.aload_n 0, 1) := by decide +kernel
theorem dX3_isBandSet_7 : decode cX3_isBandSet 7 = .ok (.getfield 50, 3) := by decide +kernel
theorem dX3_isBandSet_10 : decode cX3_isBandSet 10 = .ok (.ishl, 1) := by decide +kernel
theorem dX3_isBandSet_11 : decode cX3_isBandSet 11 = .ok (.if_icmp .ge 7, 3) := by decide +kernel
theorem dX3_isBandSet_14 : decode cX3_isBandSet 14 = .ok (.iconst 1, 1) := by decide +kernel
theorem dX3_isBandSet_15 : decode cX3_isBandSet 15 = .ok (.goto 4, 3) := by decide +kernel
theorem dX3_isBandSet_18 : decode cX3_isBandSet 18 = .ok (.iconst 0, 1) := by decide +kernel
theorem dX3_isBandSet_19 : decode cX3_isBandSet 19 = .ok (.ireturn, 1) := by decide +kernel
theorem dX3_countCells_0 : decode cX3_countCells 0 = .ok (.aload_n 0, 1) := by decide +kernel
theorem dX3_countCells_1 : decode cX3_countCells 1 = .ok (.getfield 9, 3) := by decide +kernel
theorem dX3_countCells_4 : decode cX3_countCells 4 = .ok (.aload_n 0, 1) := by decide +kernel
theorem dX3_countCells_5 : decode cX3_countCells 5 = .ok (.getfield 15, 3) := by decide +kernel
theorem dX3_countCells_8 : decode cX3_countCells 8 = .ok (.imul, 1) := by decide +kernel
theorem dX3_countCells_9 : decode cX3_countCells 9 = .ok (.istore_n 1, 1) := by decide +kernel
theorem dX3_countCells_10 : decode cX3_countCells 10 = .ok (.iload_n 1, 1) := by decide +kernel
theorem dX3_countCells_11 : decode cX3_countCells 11 = .ok (.bipush 30, 2) := by decide +kernel
theorem dX3_countCells_13 : decode cX3_countCells 13 = .ok (.if_icmp .ge 7, 3) := by decide +kernel
theorem dX3_countCells_16 : decode cX3_countCells 16 = .ok (.iload_n 1, 1) := by decide +kernel
theorem dX3_countCells_17 : decode cX3_countCells 17 = .ok (.goto 5, 3) := by decide +kernel
theorem dX3_countCells_20 : decode cX3_countCells 20 = .ok (.bipush 30, 2) := by decide +kernel
theorem dX3_countCells_22 : decode cX3_countCells 22 = .ok (.ireturn, 1) := by decide +kernel
theorem dX3_cellAt_0 : decode cX3_cellAt 0 = .ok (.iload_n 1, 1) := by decide +kernel
theorem dX3_cellAt_1 : decode cX3_cellAt 1 = .ok (.ifCond .lt 27, 3) := by decide +kernel
theorem dX3_cellAt_4 : decode cX3_cellAt 4 = .ok (.iload_n 1, 1) := by decide +kernel
theorem dX3_cellAt_5 : decode cX3_cellAt 5 = .ok (.aload_n 0, 1) := by decide +kernel
theorem dX3_cellAt_6 : decode cX3_cellAt 6 = .ok (.getfield 9, 3) := by decide +kernel
theorem dX3_cellAt_9 : decode cX3_cellAt 9 = .ok (.if_icmp .ge 19, 3) := by decide +kernel
theorem dX3_cellAt_12 : decode cX3_cellAt 12 = .ok (.iload_n 2, 1) := by decide +kernel
theorem dX3_cellAt_13 : decode cX3_cellAt 13 = .ok (.ifCond .lt 15, 3) := by decide +kernel
theorem dX3_cellAt_16 : decode cX3_cellAt 16 = .ok (.iload_n 2, 1) := by decide +kernel
theorem dX3_cellAt_17 : decode cX3_cellAt 17 = .ok (.aload_n 0, 1) := by decide +kernel
theorem dX3_cellAt_18 : decode cX3_cellAt 18 = .ok (.getfield 15, 3) := by decide +kernel
theorem dX3_cellAt_21 : decode cX3_cellAt 21 = .ok (.if_icmp .ge 7, 3) := by decide +kernel
theorem dX3_cellAt_24 : decode cX3_cellAt 24 = .ok (.iconst 1, 1) := by decide +kernel
theorem dX3_cellAt_25 : decode cX3_cellAt 25 = .ok (.goto 4, 3) := by decide +kernel
theorem dX3_cellAt_28 : decode cX3_cellAt 28 = .ok (.iconst 0, 1) := by decide +kernel
theorem dX3_cellAt_29 : decode cX3_cellAt 29 = .ok (.istore_n 3, 1) := by decide +kernel
theorem dX3_cellAt_30 : decode cX3_cellAt 30 = .ok (.iload_n 3, 1) := by decide +kernel
theorem dX3_cellAt_31 : decode cX3_cellAt 31 = .ok (.ifCond .eq 14, 3) := by decide +kernel
theorem dX3_cellAt_34 : decode cX3_cellAt 34 = .ok (.iload_n 2, 1) := by decide +kernel
theorem dX3_cellAt_35 : decode cX3_cellAt 35 = .ok (.aload_n 0, 1) := by decide +kernel
theorem dX3_cellAt_36 : decode cX3_cellAt 36 = .ok (.getfield 9, 3) := by decide +kernel
theorem dX3_cellAt_39 : decode cX3_cellAt 39 = .ok (.imul, 1) := by decide +kernel
theorem dX3_cellAt_40 : decode cX3_cellAt 40 = .ok (.iload_n 1, 1) := by decide +kernel
theorem dX3_cellAt_41 : decode cX3_cellAt 41 = .ok (.iadd, 1) := by decide +kernel
theorem dX3_cellAt_42 : decode cX3_cellAt 42 = .ok (.goto 4, 3) := by decide +kernel
theorem dX3_cellAt_45 : decode cX3_cellAt 45 = .ok (.iconst (-1), 1) := by decide +kernel
theorem dX3_cellAt_46 : decode cX3_cellAt 46 = .ok (.ireturn, 1) := by decide +kernel
theorem dX3_countPonds_0 : decode cX3_countPonds 0 = .ok (.iconst 0, 1) := by decide +kernel
theorem dX3_countPonds_1 : decode cX3_countPonds 1 = .ok (.istore_n 1, 1) := by decide +kernel
theorem dX3_countPonds_2 : decode cX3_countPonds 2 = .ok (.iconst 0, 1) := by decide +kernel
theorem dX3_countPonds_3 : decode cX3_countPonds 3 = .ok (.istore_n 2, 1) := by decide +kernel
theorem dX3_countPonds_4 : decode cX3_countPonds 4 = .ok (.iload_n 2, 1) := by decide +kernel
theorem dX3_countPonds_5 : decode cX3_countPonds 5 = .ok (.aload_n 0, 1) := by decide +kernel
theorem dX3_countPonds_6 : decode cX3_countPonds 6 = .ok (.invokevirtual 88, 3) := by decide +kernel
theorem dX3_countPonds_9 : decode cX3_countPonds 9 = .ok (.if_icmp .ge 26, 3) := by decide +kernel
theorem dX3_countPonds_12 : decode cX3_countPonds 12 = .ok (.iload_n 1, 1) := by decide +kernel
theorem dX3_countPonds_13 : decode cX3_countPonds 13 = .ok (.aload_n 0, 1) := by decide +kernel
theorem dX3_countPonds_14 : decode cX3_countPonds 14 = .ok (.getfield 37, 3) := by decide +kernel
theorem dX3_countPonds_17 : decode cX3_countPonds 17 = .ok (.iload_n 2, 1) := by decide +kernel
theorem dX3_countPonds_18 : decode cX3_countPonds 18 = .ok (.baload, 1) := by decide +kernel
theorem dX3_countPonds_19 : decode cX3_countPonds 19 = .ok (.ifCond .eq 7, 3) := by decide +kernel
theorem dX3_countPonds_22 : decode cX3_countPonds 22 = .ok (.iconst 1, 1) := by decide +kernel
theorem dX3_countPonds_23 : decode cX3_countPonds 23 = .ok (.goto 4, 3) := by decide +kernel
theorem dX3_countPonds_26 : decode cX3_countPonds 26 = .ok (.iconst 0, 1) := by decide +kernel
theorem dX3_countPonds_27 : decode cX3_countPonds 27 = .ok (.iadd, 1) := by decide +kernel
theorem dX3_countPonds_28 : decode cX3_countPonds 28 = .ok (.istore_n 1, 1) := by decide +kernel
theorem dX3_countPonds_29 : decode cX3_countPonds 29 = .ok (.iinc 2 1, 3) := by decide +kernel
theorem dX3_countPonds_32 : decode cX3_countPonds 32 = .ok (.goto (-28), 3) := by decide +kernel
theorem dX3_countPonds_35 : decode cX3_countPonds 35 = .ok (.iload_n 1, 1) := by decide +kernel
theorem dX3_countPonds_36 : decode cX3_countPonds 36 = .ok (.ireturn, 1) := by decide +kernel
theorem dX3_tuneNamed_0 : decode cX3_tuneNamed 0 = .ok (.iconst 0, 1) := by decide +kernel
theorem dX3_tuneNamed_1 : decode cX3_tuneNamed 1 = .ok (.istore_n 3, 1) := by decide +kernel
theorem dX3_tuneNamed_2 : decode cX3_tuneNamed 2 = .ok (.iload_n 3, 1) := by decide +kernel
theorem dX3_tuneNamed_3 : decode cX3_tuneNamed 3 = .ok (.aload_n 0, 1) := by decide +kernel
theorem dX3_tuneNamed_4 : decode cX3_tuneNamed 4 = .ok (.getfield 41, 3) := by decide +kernel
theorem dX3_tuneNamed_7 : decode cX3_tuneNamed 7 = .ok (.if_icmp .ge 31, 3) := by decide +kernel
theorem dX3_tuneNamed_10 : decode cX3_tuneNamed 10 = .ok (.iload_n 3, 1) := by decide +kernel
theorem dX3_tuneNamed_11 : decode cX3_tuneNamed 11 = .ok (.bipush 6, 2) := by decide +kernel
theorem dX3_tuneNamed_13 : decode cX3_tuneNamed 13 = .ok (.if_icmp .ge 25, 3) := by decide +kernel
theorem dX3_tuneNamed_16 : decode cX3_tuneNamed 16 = .ok (.aload_n 0, 1) := by decide +kernel
theorem dX3_tuneNamed_17 : decode cX3_tuneNamed 17 = .ok (.getfield 46, 3) := by decide +kernel
theorem dX3_tuneNamed_20 : decode cX3_tuneNamed 20 = .ok (.iload_n 3, 1) := by decide +kernel
theorem dX3_tuneNamed_21 : decode cX3_tuneNamed 21 = .ok (.aaload, 1) := by decide +kernel
theorem dX3_tuneNamed_22 : decode cX3_tuneNamed 22 = .ok (.getfield 92, 3) := by decide +kernel
theorem dX3_tuneNamed_25 : decode cX3_tuneNamed 25 = .ok (.lload_n 1, 1) := by decide +kernel
theorem dX3_tuneNamed_26 : decode cX3_tuneNamed 26 = .ok (.lcmp, 1) := by decide +kernel
theorem dX3_tuneNamed_27 : decode cX3_tuneNamed 27 = .ok (.ifCond .ne 5, 3) := by decide +kernel
theorem dX3_tuneNamed_30 : decode cX3_tuneNamed 30 = .ok (.iload_n 3, 1) := by decide +kernel
theorem dX3_tuneNamed_31 : decode cX3_tuneNamed 31 = .ok (.ireturn, 1) := by decide +kernel
theorem dX3_tuneNamed_32 : decode cX3_tuneNamed 32 = .ok (.iinc 3 1, 3) := by decide +kernel
theorem dX3_tuneNamed_35 : decode cX3_tuneNamed 35 = .ok (.goto (-33), 3) := by decide +kernel
theorem dX3_tuneNamed_38 : decode cX3_tuneNamed 38 = .ok (.iconst (-1), 1) := by decide +kernel
theorem dX3_tuneNamed_39 : decode cX3_tuneNamed 39 = .ok (.ireturn, 1) := by decide +kernel
theorem dX3_bandNamed_0 : decode cX3_bandNamed 0 = .ok (.iconst 0, 1) := by decide +kernel
theorem dX3_bandNamed_1 : decode cX3_bandNamed 1 = .ok (.istore_n 3, 1) := by decide +kernel
theorem dX3_bandNamed_2 : decode cX3_bandNamed 2 = .ok (.iload_n 3, 1) := by decide +kernel
theorem dX3_bandNamed_3 : decode cX3_bandNamed 3 = .ok (.aload_n 0, 1) := by decide +kernel
theorem dX3_bandNamed_4 : decode cX3_bandNamed 4 = .ok (.getfield 50, 3) := by decide +kernel
theorem dX3_bandNamed_7 : decode cX3_bandNamed 7 = .ok (.if_icmp .ge 31, 3) := by decide +kernel
theorem dX3_bandNamed_10 : decode cX3_bandNamed 10 = .ok (.iload_n 3, 1) := by decide +kernel
theorem dX3_bandNamed_11 : decode cX3_bandNamed 11 = .ok (.bipush 6, 2) := by decide +kernel
theorem dX3_bandNamed_13 : decode cX3_bandNamed 13 = .ok (.if_icmp .ge 25, 3) := by decide +kernel
theorem dX3_bandNamed_16 : decode cX3_bandNamed 16 = .ok (.aload_n 0, 1) := by decide +kernel
theorem dX3_bandNamed_17 : decode cX3_bandNamed 17 = .ok (.getfield 55, 3) := by decide +kernel
theorem dX3_bandNamed_20 : decode cX3_bandNamed 20 = .ok (.iload_n 3, 1) := by decide +kernel
theorem dX3_bandNamed_21 : decode cX3_bandNamed 21 = .ok (.aaload, 1) := by decide +kernel
theorem dX3_bandNamed_22 : decode cX3_bandNamed 22 = .ok (.getfield 96, 3) := by decide +kernel
theorem dX3_bandNamed_25 : decode cX3_bandNamed 25 = .ok (.lload_n 1, 1) := by decide +kernel
theorem dX3_bandNamed_26 : decode cX3_bandNamed 26 = .ok (.lcmp, 1) := by decide +kernel
theorem dX3_bandNamed_27 : decode cX3_bandNamed 27 = .ok (.ifCond .ne 5, 3) := by decide +kernel
theorem dX3_bandNamed_30 : decode cX3_bandNamed 30 = .ok (.iload_n 3, 1) := by decide +kernel
theorem dX3_bandNamed_31 : decode cX3_bandNamed 31 = .ok (.ireturn, 1) := by decide +kernel
theorem dX3_bandNamed_32 : decode cX3_bandNamed 32 = .ok (.iinc 3 1, 3) := by decide +kernel
theorem dX3_bandNamed_35 : decode cX3_bandNamed 35 = .ok (.goto (-33), 3) := by decide +kernel
theorem dX3_bandNamed_38 : decode cX3_bandNamed 38 = .ok (.iconst (-1), 1) := by decide +kernel
theorem dX3_bandNamed_39 : decode cX3_bandNamed 39 = .ok (.ireturn, 1) := by decide +kernel
theorem dX3_bandIsAt_0 : decode cX3_bandIsAt 0 = .ok (.iconst 0, 1) := by decide +kernel
theorem dX3_bandIsAt_1 : decode cX3_bandIsAt 1 = .ok (.istore_n 3, 1) := by decide +kernel
theorem dX3_bandIsAt_2 : decode cX3_bandIsAt 2 = .ok (.iload_n 3, 1) := by decide +kernel
theorem dX3_bandIsAt_3 : decode cX3_bandIsAt 3 = .ok (.aload_n 0, 1) := by decide +kernel
theorem dX3_bandIsAt_4 : decode cX3_bandIsAt 4 = .ok (.getfield 50, 3) := by decide +kernel
theorem dX3_bandIsAt_7 : decode cX3_bandIsAt 7 = .ok (.if_icmp .ge 43, 3) := by decide +kernel
theorem dX3_bandIsAt_10 : decode cX3_bandIsAt 10 = .ok (.iload_n 3, 1) := by decide +kernel
theorem dX3_bandIsAt_11 : decode cX3_bandIsAt 11 = .ok (.bipush 6, 2) := by decide +kernel
theorem dX3_bandIsAt_13 : decode cX3_bandIsAt 13 = .ok (.if_icmp .ge 37, 3) := by decide +kernel
theorem dX3_bandIsAt_16 : decode cX3_bandIsAt 16 = .ok (.aload_n 0, 1) := by decide +kernel
theorem dX3_bandIsAt_17 : decode cX3_bandIsAt 17 = .ok (.getfield 55, 3) := by decide +kernel
theorem dX3_bandIsAt_20 : decode cX3_bandIsAt 20 = .ok (.iload_n 3, 1) := by decide +kernel
theorem dX3_bandIsAt_21 : decode cX3_bandIsAt 21 = .ok (.aaload, 1) := by decide +kernel
theorem dX3_bandIsAt_22 : decode cX3_bandIsAt 22 = .ok (.getfield 97, 3) := by decide +kernel
theorem dX3_bandIsAt_25 : decode cX3_bandIsAt 25 = .ok (.iload_n 1, 1) := by decide +kernel
theorem dX3_bandIsAt_26 : decode cX3_bandIsAt 26 = .ok (.if_icmp .ne 18, 3) := by decide +kernel
theorem dX3_bandIsAt_29 : decode cX3_bandIsAt 29 = .ok (.aload_n 0, 1) := by decide +kernel
theorem dX3_bandIsAt_30 : decode cX3_bandIsAt 30 = .ok (.getfield 55, 3) := by decide +kernel
theorem dX3_bandIsAt_33 : decode cX3_bandIsAt 33 = .ok (.iload_n 3, 1) := by decide +kernel
theorem dX3_bandIsAt_34 : decode cX3_bandIsAt 34 = .ok (.aaload, 1) := by decide +kernel
theorem dX3_bandIsAt_35 : decode cX3_bandIsAt 35 = .ok (.getfield 100, 3) := by decide +kernel
theorem dX3_bandIsAt_38 : decode cX3_bandIsAt 38 = .ok (.iload_n 2, 1) := by decide +kernel
theorem dX3_bandIsAt_39 : decode cX3_bandIsAt 39 = .ok (.if_icmp .ne 5, 3) := by decide +kernel
theorem dX3_bandIsAt_42 : decode cX3_bandIsAt 42 = .ok (.iconst 1, 1) := by decide +kernel
theorem dX3_bandIsAt_43 : decode cX3_bandIsAt 43 = .ok (.ireturn, 1) := by decide +kernel
theorem dX3_bandIsAt_44 : decode cX3_bandIsAt 44 = .ok (.iinc 3 1, 3) := by decide +kernel
theorem dX3_bandIsAt_47 : decode cX3_bandIsAt 47 = .ok (.goto (-45), 3) := by decide +kernel
theorem dX3_bandIsAt_50 : decode cX3_bandIsAt 50 = .ok (.iconst 0, 1) := by decide +kernel
theorem dX3_bandIsAt_51 : decode cX3_bandIsAt 51 = .ok (.ireturn, 1) := by decide +kernel
theorem dX3_placeBand_0 : decode cX3_placeBand 0 = .ok (.aload_n 0, 1) := by decide +kernel
theorem dX3_placeBand_1 : decode cX3_placeBand 1 = .ok (.iload_n 1, 1) := by decide +kernel
theorem dX3_placeBand_2 : decode cX3_placeBand 2 = .ok (.invokevirtual 103, 3) := by decide +kernel
theorem dX3_placeBand_5 : decode cX3_placeBand 5 = .ok (.ifCond .eq 33, 3) := by decide +kernel
theorem dX3_placeBand_8 : decode cX3_placeBand 8 = .ok (.aload_n 0, 1) := by decide +kernel
theorem dX3_placeBand_9 : decode cX3_placeBand 9 = .ok (.getfield 55, 3) := by decide +kernel
theorem dX3_placeBand_12 : decode cX3_placeBand 12 = .ok (.iload_n 1, 1) := by decide +kernel
theorem dX3_placeBand_13 : decode cX3_placeBand 13 = .ok (.aaload, 1) := by decide +kernel
theorem dX3_placeBand_14 : decode cX3_placeBand 14 = .ok (.iload_n 2, 1) := by decide +kernel
theorem dX3_placeBand_15 : decode cX3_placeBand 15 = .ok (.putfield 97, 3) := by decide +kernel
theorem dX3_placeBand_18 : decode cX3_placeBand 18 = .ok (.aload_n 0, 1) := by decide +kernel
theorem dX3_placeBand_19 : decode cX3_placeBand 19 = .ok (.getfield 55, 3) := by decide +kernel
theorem dX3_placeBand_22 : decode cX3_placeBand 22 = .ok (.iload_n 1, 1) := by decide +kernel
theorem dX3_placeBand_23 : decode cX3_placeBand 23 = .ok (.aaload, 1) := by decide +kernel
theorem dX3_placeBand_24 : decode cX3_placeBand 24 = .ok (.iload_n 3, 1) := by decide +kernel
theorem dX3_placeBand_25 : decode cX3_placeBand 25 = .ok (.putfield 100, 3) := by decide +kernel
theorem dX3_placeBand_28 : decode cX3_placeBand 28 = .ok (.aload_n 0, 1) := by decide +kernel
theorem dX3_placeBand_29 : decode cX3_placeBand 29 = .ok (.dup, 1) := by decide +kernel
theorem dX3_placeBand_30 : decode cX3_placeBand 30 = .ok (.getfield 66, 3) := by decide +kernel
theorem dX3_placeBand_33 : decode cX3_placeBand 33 = .ok (.iconst 1, 1) := by decide +kernel
theorem dX3_placeBand_34 : decode cX3_placeBand 34 = .ok (.iadd, 1) := by decide +kernel
theorem dX3_placeBand_35 : decode cX3_placeBand 35 = .ok (.putfield 66, 3) := by decide +kernel
theorem dX3_placeBand_38 : decode cX3_placeBand 38 = .ok (.return_, 1) := by decide +kernel
theorem dX3_turnWind_0 : decode cX3_turnWind 0 = .ok (.aload_n 0, 1) := by decide +kernel
theorem dX3_turnWind_1 : decode cX3_turnWind 1 = .ok (.getfield 30, 3) := by decide +kernel
theorem dX3_turnWind_4 : decode cX3_turnWind 4 = .ok (.iload_n 1, 1) := by decide +kernel
theorem dX3_turnWind_5 : decode cX3_turnWind 5 = .ok (.if_icmp .ne 5, 3) := by decide +kernel
theorem dX3_turnWind_8 : decode cX3_turnWind 8 = .ok (.iconst 0, 1) := by decide +kernel
theorem dX3_turnWind_9 : decode cX3_turnWind 9 = .ok (.ireturn, 1) := by decide +kernel
theorem dX3_turnWind_10 : decode cX3_turnWind 10 = .ok (.aload_n 0, 1) := by decide +kernel
theorem dX3_turnWind_11 : decode cX3_turnWind 11 = .ok (.iload_n 1, 1) := by decide +kernel
theorem dX3_turnWind_12 : decode cX3_turnWind 12 = .ok (.putfield 30, 3) := by decide +kernel
theorem dX3_turnWind_15 : decode cX3_turnWind 15 = .ok (.aload_n 0, 1) := by decide +kernel
theorem dX3_turnWind_16 : decode cX3_turnWind 16 = .ok (.dup, 1) := by decide +kernel
theorem dX3_turnWind_17 : decode cX3_turnWind 17 = .ok (.getfield 66, 3) := by decide +kernel
theorem dX3_turnWind_20 : decode cX3_turnWind 20 = .ok (.iconst 1, 1) := by decide +kernel
theorem dX3_turnWind_21 : decode cX3_turnWind 21 = .ok (.iadd, 1) := by decide +kernel
theorem dX3_turnWind_22 : decode cX3_turnWind 22 = .ok (.putfield 66, 3) := by decide +kernel
theorem dX3_turnWind_25 : decode cX3_turnWind 25 = .ok (.iconst 1, 1) := by decide +kernel
theorem dX3_turnWind_26 : decode cX3_turnWind 26 = .ok (.ireturn, 1) := by decide +kernel
theorem dX3_turnRain_0 : decode cX3_turnRain 0 = .ok (.aload_n 0, 1) := by decide +kernel
theorem dX3_turnRain_1 : decode cX3_turnRain 1 = .ok (.getfield 33, 3) := by decide +kernel
theorem dX3_turnRain_4 : decode cX3_turnRain 4 = .ok (.iload_n 1, 1) := by decide +kernel
theorem dX3_turnRain_5 : decode cX3_turnRain 5 = .ok (.if_icmp .ne 5, 3) := by decide +kernel
theorem dX3_turnRain_8 : decode cX3_turnRain 8 = .ok (.iconst 0, 1) := by decide +kernel
theorem dX3_turnRain_9 : decode cX3_turnRain 9 = .ok (.ireturn, 1) := by decide +kernel
theorem dX3_turnRain_10 : decode cX3_turnRain 10 = .ok (.aload_n 0, 1) := by decide +kernel
theorem dX3_turnRain_11 : decode cX3_turnRain 11 = .ok (.iload_n 1, 1) := by decide +kernel
theorem dX3_turnRain_12 : decode cX3_turnRain 12 = .ok (.putfield 33, 3) := by decide +kernel
theorem dX3_turnRain_15 : decode cX3_turnRain 15 = .ok (.aload_n 0, 1) := by decide +kernel
theorem dX3_turnRain_16 : decode cX3_turnRain 16 = .ok (.dup, 1) := by decide +kernel
theorem dX3_turnRain_17 : decode cX3_turnRain 17 = .ok (.getfield 66, 3) := by decide +kernel
theorem dX3_turnRain_20 : decode cX3_turnRain 20 = .ok (.iconst 1, 1) := by decide +kernel
theorem dX3_turnRain_21 : decode cX3_turnRain 21 = .ok (.iadd, 1) := by decide +kernel
theorem dX3_turnRain_22 : decode cX3_turnRain 22 = .ok (.putfield 66, 3) := by decide +kernel
theorem dX3_turnRain_25 : decode cX3_turnRain 25 = .ok (.iconst 1, 1) := by decide +kernel
theorem dX3_turnRain_26 : decode cX3_turnRain 26 = .ok (.ireturn, 1) := by decide +kernel
theorem dX3_changeRule_0 : decode cX3_changeRule 0 = .ok (.iload_n 1, 1) := by decide +kernel
theorem dX3_changeRule_1 : decode cX3_changeRule 1 = .ok (.iconst 4, 1) := by decide +kernel
theorem dX3_changeRule_2 : decode cX3_changeRule 2 = .ok (.if_icmp .ne 30, 3) := by decide +kernel
theorem dX3_changeRule_5 : decode cX3_changeRule 5 = .ok (.iload_n 2, 1) := by decide +kernel
theorem dX3_changeRule_6 : decode cX3_changeRule 6 = .ok (.ifCond .lt 26, 3) := by decide +kernel
theorem dX3_changeRule_9 : decode cX3_changeRule 9 = .ok (.iload_n 2, 1) := by decide +kernel
theorem dX3_changeRule_10 : decode cX3_changeRule 10 = .ok (.bipush 9, 2) := by decide +kernel
theorem dX3_changeRule_12 : decode cX3_changeRule 12 = .ok (.if_icmp .gt 20, 3) := by decide +kernel
theorem dX3_changeRule_15 : decode cX3_changeRule 15 = .ok (.aload_n 0, 1) := by decide +kernel
theorem dX3_changeRule_16 : decode cX3_changeRule 16 = .ok (.iload_n 2, 1) := by decide +kernel
theorem dX3_changeRule_17 : decode cX3_changeRule 17 = .ok (.putfield 18, 3) := by decide +kernel
theorem dX3_changeRule_20 : decode cX3_changeRule 20 = .ok (.aload_n 0, 1) := by decide +kernel
theorem dX3_changeRule_21 : decode cX3_changeRule 21 = .ok (.dup, 1) := by decide +kernel
theorem dX3_changeRule_22 : decode cX3_changeRule 22 = .ok (.getfield 66, 3) := by decide +kernel
theorem dX3_changeRule_25 : decode cX3_changeRule 25 = .ok (.iconst 1, 1) := by decide +kernel
theorem dX3_changeRule_26 : decode cX3_changeRule 26 = .ok (.iadd, 1) := by decide +kernel
theorem dX3_changeRule_27 : decode cX3_changeRule 27 = .ok (.putfield 66, 3) := by decide +kernel
theorem dX3_changeRule_30 : decode cX3_changeRule 30 = .ok (.iconst 1, 1) := by decide +kernel
theorem dX3_changeRule_31 : decode cX3_changeRule 31 = .ok (.ireturn, 1) := by decide +kernel
theorem dX3_changeRule_32 : decode cX3_changeRule 32 = .ok (.iload_n 1, 1) := by decide +kernel
theorem dX3_changeRule_33 : decode cX3_changeRule 33 = .ok (.iconst 5, 1) := by decide +kernel
theorem dX3_changeRule_34 : decode cX3_changeRule 34 = .ok (.if_icmp .ne 20, 3) := by decide +kernel
theorem dX3_changeRule_37 : decode cX3_changeRule 37 = .ok (.iload_n 2, 1) := by decide +kernel
theorem dX3_changeRule_38 : decode cX3_changeRule 38 = .ok (.ifCond .lt 16, 3) := by decide +kernel
theorem dX3_changeRule_41 : decode cX3_changeRule 41 = .ok (.iload_n 2, 1) := by decide +kernel
theorem dX3_changeRule_42 : decode cX3_changeRule 42 = .ok (.bipush 9, 2) := by decide +kernel
theorem dX3_changeRule_44 : decode cX3_changeRule 44 = .ok (.if_icmp .gt 10, 3) := by decide +kernel
theorem dX3_changeRule_47 : decode cX3_changeRule 47 = .ok (.aload_n 0, 1) := by decide +kernel
theorem dX3_changeRule_48 : decode cX3_changeRule 48 = .ok (.iload_n 2, 1) := by decide +kernel
theorem dX3_changeRule_49 : decode cX3_changeRule 49 = .ok (.putfield 21, 3) := by decide +kernel
theorem dX3_changeRule_52 : decode cX3_changeRule 52 = .ok (.iconst 1, 1) := by decide +kernel
theorem dX3_changeRule_53 : decode cX3_changeRule 53 = .ok (.ireturn, 1) := by decide +kernel
theorem dX3_changeRule_54 : decode cX3_changeRule 54 = .ok (.iload_n 1, 1) := by decide +kernel
theorem dX3_changeRule_55 : decode cX3_changeRule 55 = .ok (.bipush 6, 2) := by decide +kernel
theorem dX3_changeRule_57 : decode cX3_changeRule 57 = .ok (.if_icmp .ne 20, 3) := by decide +kernel
theorem dX3_changeRule_60 : decode cX3_changeRule 60 = .ok (.iload_n 2, 1) := by decide +kernel
theorem dX3_changeRule_61 : decode cX3_changeRule 61 = .ok (.ifCond .lt 16, 3) := by decide +kernel
theorem dX3_changeRule_64 : decode cX3_changeRule 64 = .ok (.iload_n 2, 1) := by decide +kernel
theorem dX3_changeRule_65 : decode cX3_changeRule 65 = .ok (.bipush 16, 2) := by decide +kernel
theorem dX3_changeRule_67 : decode cX3_changeRule 67 = .ok (.if_icmp .gt 10, 3) := by decide +kernel
theorem dX3_changeRule_70 : decode cX3_changeRule 70 = .ok (.aload_n 0, 1) := by decide +kernel
theorem dX3_changeRule_71 : decode cX3_changeRule 71 = .ok (.iload_n 2, 1) := by decide +kernel
theorem dX3_changeRule_72 : decode cX3_changeRule 72 = .ok (.putfield 24, 3) := by decide +kernel
theorem dX3_changeRule_75 : decode cX3_changeRule 75 = .ok (.iconst 1, 1) := by decide +kernel
theorem dX3_changeRule_76 : decode cX3_changeRule 76 = .ok (.ireturn, 1) := by decide +kernel
theorem dX3_changeRule_77 : decode cX3_changeRule 77 = .ok (.iconst 0, 1) := by decide +kernel
theorem dX3_changeRule_78 : decode cX3_changeRule 78 = .ok (.ireturn, 1) := by decide +kernel
theorem dX3_tollOf_0 : decode cX3_tollOf 0 = .ok (.aload_n 0, 1) := by decide +kernel
theorem dX3_tollOf_1 : decode cX3_tollOf 1 = .ok (.iload_n 1, 1) := by decide +kernel
theorem dX3_tollOf_2 : decode cX3_tollOf 2 = .ok (.invokevirtual 84, 3) := by decide +kernel
theorem dX3_tollOf_5 : decode cX3_tollOf 5 = .ok (.ifCond .eq 15, 3) := by decide +kernel
theorem dX3_tollOf_8 : decode cX3_tollOf 8 = .ok (.aload_n 0, 1) := by decide +kernel
theorem dX3_tollOf_9 : decode cX3_tollOf 9 = .ok (.getfield 46, 3) := by decide +kernel
theorem dX3_tollOf_12 : decode cX3_tollOf 12 = .ok (.iload_n 1, 1) := by decide +kernel
theorem dX3_tollOf_13 : decode cX3_tollOf 13 = .ok (.aaload, 1) := by decide +kernel
theorem dX3_tollOf_14 : decode cX3_tollOf 14 = .ok (.getfield 106, 3) := by decide +kernel
theorem dX3_tollOf_17 : decode cX3_tollOf 17 = .ok (.goto 4, 3) := by decide +kernel
theorem dX3_tollOf_20 : decode cX3_tollOf 20 = .ok (.iconst 0, 1) := by decide +kernel
theorem dX3_tollOf_21 : decode cX3_tollOf 21 = .ok (.ireturn, 1) := by decide +kernel
theorem dX3_canHavePlayed_0 : decode cX3_canHavePlayed 0 = .ok (.aload_n 0, 1) := by decide +kernel
theorem dX3_canHavePlayed_1 : decode cX3_canHavePlayed 1 = .ok (.iload_n 1, 1) := by decide +kernel
theorem dX3_canHavePlayed_2 : decode cX3_canHavePlayed 2 = .ok (.invokevirtual 103, 3) := by decide +kernel
theorem dX3_canHavePlayed_5 : decode cX3_canHavePlayed 5 = .ok (.ifCond .ne 5, 3) := by decide +kernel
theorem dX3_canHavePlayed_8 : decode cX3_canHavePlayed 8 = .ok (.iconst 0, 1) := by decide +kernel
theorem dX3_canHavePlayed_9 : decode cX3_canHavePlayed 9 = .ok (.ireturn, 1) := by decide +kernel
theorem dX3_canHavePlayed_10 : decode cX3_canHavePlayed 10 = .ok (.iload_n 2, 1) := by decide +kernel
theorem dX3_canHavePlayed_11 : decode cX3_canHavePlayed 11 = .ok (.istore 5, 2) := by decide +kernel
theorem dX3_canHavePlayed_13 : decode cX3_canHavePlayed 13 = .ok (.iconst 0, 1) := by decide +kernel
theorem dX3_canHavePlayed_14 : decode cX3_canHavePlayed 14 = .ok (.istore 6, 2) := by decide +kernel
theorem dX3_canHavePlayed_16 : decode cX3_canHavePlayed 16 = .ok (.iload 6, 2) := by decide +kernel
theorem dX3_canHavePlayed_18 : decode cX3_canHavePlayed 18 = .ok (.iload 4, 2) := by decide +kernel
theorem dX3_canHavePlayed_20 : decode cX3_canHavePlayed 20 = .ok (.if_icmp .ge 100, 3) := by decide +kernel
theorem dX3_canHavePlayed_23 : decode cX3_canHavePlayed 23 = .ok (.iload 6, 2) := by decide +kernel
theorem dX3_canHavePlayed_25 : decode cX3_canHavePlayed 25 = .ok (.aload_n 3, 1) := by decide +kernel
theorem dX3_canHavePlayed_26 : decode cX3_canHavePlayed 26 = .ok (.arraylength, 1) := by decide +kernel
theorem dX3_canHavePlayed_27 : decode cX3_canHavePlayed 27 = .ok (.if_icmp .ge 93, 3) := by decide +kernel
theorem dX3_canHavePlayed_30 : decode cX3_canHavePlayed 30 = .ok (.aload_n 0, 1) := by decide +kernel
theorem dX3_canHavePlayed_31 : decode cX3_canHavePlayed 31 = .ok (.getfield 55, 3) := by decide +kernel
theorem dX3_canHavePlayed_34 : decode cX3_canHavePlayed 34 = .ok (.iload_n 1, 1) := by decide +kernel
theorem dX3_canHavePlayed_35 : decode cX3_canHavePlayed 35 = .ok (.aaload, 1) := by decide +kernel
theorem dX3_canHavePlayed_36 : decode cX3_canHavePlayed 36 = .ok (.iload 6, 2) := by decide +kernel
theorem dX3_canHavePlayed_38 : decode cX3_canHavePlayed 38 = .ok (.invokevirtual 109, 3) := by decide +kernel
theorem dX3_canHavePlayed_41 : decode cX3_canHavePlayed 41 = .ok (.istore 7, 2) := by decide +kernel
theorem dX3_canHavePlayed_43 : decode cX3_canHavePlayed 43 = .ok (.aload_n 0, 1) := by decide +kernel
theorem dX3_canHavePlayed_44 : decode cX3_canHavePlayed 44 = .ok (.iload 7, 2) := by decide +kernel
theorem dX3_canHavePlayed_46 : decode cX3_canHavePlayed 46 = .ok (.invokevirtual 113, 3) := by decide +kernel
theorem dX3_canHavePlayed_49 : decode cX3_canHavePlayed 49 = .ok (.istore 8, 2) := by decide +kernel
theorem dX3_canHavePlayed_51 : decode cX3_canHavePlayed 51 = .ok (.iload 7, 2) := by decide +kernel
theorem dX3_canHavePlayed_53 : decode cX3_canHavePlayed 53 = .ok (.bipush 6, 2) := by decide +kernel
theorem dX3_canHavePlayed_55 : decode cX3_canHavePlayed 55 = .ok (.if_icmp .eq 14, 3) := by decide +kernel
theorem dX3_canHavePlayed_58 : decode cX3_canHavePlayed 58 = .ok (.iload 5, 2) := by decide +kernel
theorem dX3_canHavePlayed_60 : decode cX3_canHavePlayed 60 = .ok (.iload 8, 2) := by decide +kernel
theorem dX3_canHavePlayed_62 : decode cX3_canHavePlayed 62 = .ok (.if_icmp .lt 7, 3) := by decide +kernel
theorem dX3_canHavePlayed_65 : decode cX3_canHavePlayed 65 = .ok (.iconst 1, 1) := by decide +kernel
theorem dX3_canHavePlayed_66 : decode cX3_canHavePlayed 66 = .ok (.goto 4, 3) := by decide +kernel
theorem dX3_canHavePlayed_69 : decode cX3_canHavePlayed 69 = .ok (.iconst 0, 1) := by decide +kernel
theorem dX3_canHavePlayed_70 : decode cX3_canHavePlayed 70 = .ok (.istore 9, 2) := by decide +kernel
theorem dX3_canHavePlayed_72 : decode cX3_canHavePlayed 72 = .ok (.iload 9, 2) := by decide +kernel
theorem dX3_canHavePlayed_74 : decode cX3_canHavePlayed 74 = .ok (.aload_n 3, 1) := by decide +kernel
theorem dX3_canHavePlayed_75 : decode cX3_canHavePlayed 75 = .ok (.iload 6, 2) := by decide +kernel
theorem dX3_canHavePlayed_77 : decode cX3_canHavePlayed 77 = .ok (.laload, 1) := by decide +kernel
theorem dX3_canHavePlayed_78 : decode cX3_canHavePlayed 78 = .ok (.lconst 1, 1) := by decide +kernel
theorem dX3_canHavePlayed_79 : decode cX3_canHavePlayed 79 = .ok (.lcmp, 1) := by decide +kernel
theorem dX3_canHavePlayed_80 : decode cX3_canHavePlayed 80 = .ok (.ifCond .ne 7, 3) := by decide +kernel
theorem dX3_canHavePlayed_83 : decode cX3_canHavePlayed 83 = .ok (.iconst 1, 1) := by decide +kernel
theorem dX3_canHavePlayed_84 : decode cX3_canHavePlayed 84 = .ok (.goto 4, 3) := by decide +kernel
theorem dX3_canHavePlayed_87 : decode cX3_canHavePlayed 87 = .ok (.iconst 0, 1) := by decide +kernel
theorem dX3_canHavePlayed_88 : decode cX3_canHavePlayed 88 = .ok (.if_icmp .eq 5, 3) := by decide +kernel
theorem dX3_canHavePlayed_91 : decode cX3_canHavePlayed 91 = .ok (.iconst 0, 1) := by decide +kernel
theorem dX3_canHavePlayed_92 : decode cX3_canHavePlayed 92 = .ok (.ireturn, 1) := by decide +kernel
theorem dX3_canHavePlayed_93 : decode cX3_canHavePlayed 93 = .ok (.aload_n 0, 1) := by decide +kernel
theorem dX3_canHavePlayed_94 : decode cX3_canHavePlayed 94 = .ok (.getfield 55, 3) := by decide +kernel
theorem dX3_canHavePlayed_97 : decode cX3_canHavePlayed 97 = .ok (.iload_n 1, 1) := by decide +kernel
theorem dX3_canHavePlayed_98 : decode cX3_canHavePlayed 98 = .ok (.aaload, 1) := by decide +kernel
theorem dX3_canHavePlayed_99 : decode cX3_canHavePlayed 99 = .ok (.iload 5, 2) := by decide +kernel
theorem dX3_canHavePlayed_101 : decode cX3_canHavePlayed 101 = .ok (.iload 9, 2) := by decide +kernel
theorem dX3_canHavePlayed_103 : decode cX3_canHavePlayed 103 = .ok (.iload 8, 2) := by decide +kernel
theorem dX3_canHavePlayed_105 : decode cX3_canHavePlayed 105 = .ok (.aload_n 0, 1) := by decide +kernel
theorem dX3_canHavePlayed_106 : decode cX3_canHavePlayed 106 = .ok (.getfield 21, 3) := by decide +kernel
theorem dX3_canHavePlayed_109 : decode cX3_canHavePlayed 109 = .ok (.invokevirtual 116, 3) := by decide +kernel
theorem dX3_canHavePlayed_112 : decode cX3_canHavePlayed 112 = .ok (.istore 5, 2) := by decide +kernel
theorem dX3_canHavePlayed_114 : decode cX3_canHavePlayed 114 = .ok (.iinc 6 1, 3) := by decide +kernel
theorem dX3_canHavePlayed_117 : decode cX3_canHavePlayed 117 = .ok (.goto (-101), 3) := by decide +kernel
theorem dX3_canHavePlayed_120 : decode cX3_canHavePlayed 120 = .ok (.iconst 1, 1) := by decide +kernel
theorem dX3_canHavePlayed_121 : decode cX3_canHavePlayed 121 = .ok (.ireturn, 1) := by decide +kernel
theorem dX8_init_0 : decode cX8_init 0 = .ok (.aload_n 0, 1) := by decide +kernel
theorem dX8_init_1 : decode cX8_init 1 = .ok (.invokespecial 3, 3) := by decide +kernel
theorem dX8_init_4 : decode cX8_init 4 = .ok (.aload_n 0, 1) := by decide +kernel
theorem dX8_init_5 : decode cX8_init 5 = .ok (.sipush 900, 3) := by decide +kernel
theorem dX8_init_8 : decode cX8_init 8 = .ok (.newarray .byte, 2) := by decide +kernel
theorem dX8_init_10 : decode cX8_init 10 = .ok (.putfield 9, 3) := by decide +kernel
theorem dX8_init_13 : decode cX8_init 13 = .ok (.aload_n 0, 1) := by decide +kernel
theorem dX8_init_14 : decode cX8_init 14 = .ok (.iconst 0, 1) := by decide +kernel
theorem dX8_init_15 : decode cX8_init 15 = .ok (.putfield 15, 3) := by decide +kernel
theorem dX8_init_18 : decode cX8_init 18 = .ok (.aload_n 0, 1) := by decide +kernel
theorem dX8_init_19 : decode cX8_init 19 = .ok (.iconst 0, 1) := by decide +kernel
theorem dX8_init_20 : decode cX8_init 20 = .ok (.putfield 19, 3) := by decide +kernel
theorem dX8_init_23 : decode cX8_init 23 = .ok (.aload_n 0, 1) := by decide +kernel
theorem dX8_init_24 : decode cX8_init 24 = .ok (.iconst (-1), 1) := by decide +kernel
theorem dX8_init_25 : decode cX8_init 25 = .ok (.putfield 22, 3) := by decide +kernel
theorem dX8_init_28 : decode cX8_init 28 = .ok (.aload_n 0, 1) := by decide +kernel
theorem dX8_init_29 : decode cX8_init 29 = .ok (.bipush 30, 2) := by decide +kernel
theorem dX8_init_31 : decode cX8_init 31 = .ok (.newarray .long, 2) := by decide +kernel
theorem dX8_init_33 : decode cX8_init 33 = .ok (.putfield 25, 3) := by decide +kernel
theorem dX8_init_36 : decode cX8_init 36 = .ok (.aload_n 0, 1) := by decide +kernel
theorem dX8_init_37 : decode cX8_init 37 = .ok (.iconst 0, 1) := by decide +kernel
theorem dX8_init_38 : decode cX8_init 38 = .ok (.putfield 29, 3) := by decide +kernel
theorem dX8_init_41 : decode cX8_init 41 = .ok (.aload_n 0, 1) := by decide +kernel
theorem dX8_init_42 : decode cX8_init 42 = .ok (.iconst 0, 1) := by decide +kernel
theorem dX8_init_43 : decode cX8_init 43 = .ok (.putfield 32, 3) := by decide +kernel
theorem dX8_init_46 : decode cX8_init 46 = .ok (.aload_n 0, 1) := by decide +kernel
theorem dX8_init_47 : decode cX8_init 47 = .ok (.iconst 0, 1) := by decide +kernel
theorem dX8_init_48 : decode cX8_init 48 = .ok (.putfield 35, 3) := by decide +kernel
theorem dX8_init_51 : decode cX8_init 51 = .ok (.aload_n 0, 1) := by decide +kernel
theorem dX8_init_52 : decode cX8_init 52 = .ok (.iconst 0, 1) := by decide +kernel
theorem dX8_init_53 : decode cX8_init 53 = .ok (.putfield 38, 3) := by decide +kernel
theorem dX8_init_56 : decode cX8_init 56 = .ok (.aload_n 0, 1) := by decide +kernel
theorem dX8_init_57 : decode cX8_init 57 = .ok (.iconst (-1), 1) := by decide +kernel
theorem dX8_init_58 : decode cX8_init 58 = .ok (.putfield 41, 3) := by decide +kernel
theorem dX8_init_61 : decode cX8_init 61 = .ok (.aload_n 0, 1) := by decide +kernel
theorem dX8_init_62 : decode cX8_init 62 = .ok (.iconst 0, 1) := by decide +kernel
theorem dX8_init_63 : decode cX8_init 63 = .ok (.putfield 44, 3) := by decide +kernel
theorem dX8_init_66 : decode cX8_init 66 = .ok (.aload_n 0, 1) := by decide +kernel
theorem dX8_init_67 : decode cX8_init 67 = .ok (.lconst 0, 1) := by decide +kernel
theorem dX8_init_68 : decode cX8_init 68 = .ok (.putfield 47, 3) := by decide +kernel
theorem dX8_init_71 : decode cX8_init 71 = .ok (.iconst 0, 1) := by decide +kernel
theorem dX8_init_72 : decode cX8_init 72 = .ok (.istore_n 1, 1) := by decide +kernel
theorem dX8_init_73 : decode cX8_init 73 = .ok (.iconst 0, 1) := by decide +kernel
theorem dX8_init_74 : decode cX8_init 74 = .ok (.istore_n 2, 1) := by decide +kernel
theorem dX8_init_75 : decode cX8_init 75 = .ok (.iload_n 2, 1) := by decide +kernel
theorem dX8_init_76 : decode cX8_init 76 = .ok (.ldc 51, 2) := by decide +kernel
theorem dX8_init_78 : decode cX8_init 78 = .ok (.invokevirtual 53, 3) := by decide +kernel
theorem dX8_init_81 : decode cX8_init 81 = .ok (.if_icmp .ge 58, 3) := by decide +kernel
theorem dX8_init_84 : decode cX8_init 84 = .ok (.iload_n 1, 1) := by decide +kernel
theorem dX8_init_85 : decode cX8_init 85 = .ok (.bipush 30, 2) := by decide +kernel
theorem dX8_init_87 : decode cX8_init 87 = .ok (.if_icmp .ge 52, 3) := by decide +kernel
theorem dX8_init_90 : decode cX8_init 90 = .ok (.ldc 51, 2) := by decide +kernel
theorem dX8_init_92 : decode cX8_init 92 = .ok (.iload_n 2, 1) := by decide +kernel
theorem dX8_init_93 : decode cX8_init 93 = .ok (.invokevirtual 58, 3) := by decide +kernel
theorem dX8_init_96 : decode cX8_init 96 = .ok (.istore_n 3, 1) := by decide +kernel
theorem dX8_init_97 : decode cX8_init 97 = .ok (.iload_n 3, 1) := by decide +kernel
theorem dX8_init_98 : decode cX8_init 98 = .ok (.bipush 32, 2) := by decide +kernel
theorem dX8_init_100 : decode cX8_init 100 = .ok (.if_icmp .ne 9, 3) := by decide +kernel
theorem dX8_init_103 : decode cX8_init 103 = .ok (.iinc 1 1, 3) := by decide +kernel
theorem dX8_init_106 : decode cX8_init 106 = .ok (.goto 27, 3) := by decide +kernel
theorem dX8_init_109 : decode cX8_init 109 = .ok (.aload_n 0, 1) := by decide +kernel
theorem dX8_init_110 : decode cX8_init 110 = .ok (.getfield 25, 3) := by decide +kernel
theorem dX8_init_113 : decode cX8_init 113 = .ok (.iload_n 1, 1) := by decide +kernel
theorem dX8_init_114 : decode cX8_init 114 = .ok (.aload_n 0, 1) := by decide +kernel
theorem dX8_init_115 : decode cX8_init 115 = .ok (.getfield 25, 3) := by decide +kernel
theorem dX8_init_118 : decode cX8_init 118 = .ok (.iload_n 1, 1) := by decide +kernel
theorem dX8_init_119 : decode cX8_init 119 = .ok (.laload, 1) := by decide +kernel
theorem dX8_init_120 : decode cX8_init 120 = .ok (.ldc2_w 62, 3) := by decide +kernel
theorem dX8_init_123 : decode cX8_init 123 = .ok (.lmul, 1) := by decide +kernel
theorem dX8_init_124 : decode cX8_init 124 = .ok (.iload_n 3, 1) := by decide +kernel
theorem dX8_init_125 : decode cX8_init 125 = .ok (.bipush 97, 2) := by decide +kernel
theorem dX8_init_127 : decode cX8_init 127 = .ok (.isub, 1) := by decide +kernel
theorem dX8_init_128 : decode cX8_init 128 = .ok (.iconst 1, 1) := by decide +kernel
theorem dX8_init_129 : decode cX8_init 129 = .ok (.iadd, 1) := by decide +kernel
theorem dX8_init_130 : decode cX8_init 130 = .ok (.i2l, 1) := by decide +kernel
theorem dX8_init_131 : decode cX8_init 131 = .ok (.ladd, 1) := by decide +kernel
theorem dX8_init_132 : decode cX8_init 132 = .ok (.lastore, 1) := by decide +kernel
theorem dX8_init_133 : decode cX8_init 133 = .ok (.iinc 2 1, 3) := by decide +kernel
theorem dX8_init_136 : decode cX8_init 136 = .ok (.goto (-61), 3) := by decide +kernel
theorem dX8_init_139 : decode cX8_init 139 = .ok (.return_, 1) := by decide +kernel
theorem dX8_hasRoom_0 : decode cX8_hasRoom 0 = .ok (.aload_n 0, 1) := by decide +kernel
theorem dX8_hasRoom_1 : decode cX8_hasRoom 1 = .ok (.getfield 15, 3) := by decide +kernel
theorem dX8_hasRoom_4 : decode cX8_hasRoom 4 = .ok (.sipush 900, 3) := by decide +kernel
theorem dX8_hasRoom_7 : decode cX8_hasRoom 7 = .ok (.iload_n 1, 1) := by decide +kernel
theorem dX8_hasRoom_8 : decode cX8_hasRoom 8 = .ok (.isub, 1) := by decide +kernel
theorem dX8_hasRoom_9 : decode cX8_hasRoom 9 = .ok (.if_icmp .gt 7, 3) := by decide +kernel
theorem dX8_hasRoom_12 : decode cX8_hasRoom 12 = .ok (.iconst 1, 1) := by decide +kernel
theorem dX8_hasRoom_13 : decode cX8_hasRoom 13 = .ok (.goto 4, 3) := by decide +kernel
theorem dX8_hasRoom_16 : decode cX8_hasRoom 16 = .ok (.iconst 0, 1) := by decide +kernel
theorem dX8_hasRoom_17 : decode cX8_hasRoom 17 = .ok (.ireturn, 1) := by decide +kernel
theorem dX8_append_0 : decode cX8_append 0 = .ok (.aload_n 0, 1) := by decide +kernel
theorem dX8_append_1 : decode cX8_append 1 = .ok (.iconst 4, 1) := by decide +kernel
theorem dX8_append_2 : decode cX8_append 2 = .ok (.invokevirtual 64, 3) := by decide +kernel
theorem dX8_append_5 : decode cX8_append 5 = .ok (.ifCond .eq 39, 3) := by decide +kernel
theorem dX8_append_8 : decode cX8_append 8 = .ok (.bipush 24, 2) := by decide +kernel
theorem dX8_append_10 : decode cX8_append 10 = .ok (.istore_n 2, 1) := by decide +kernel
theorem dX8_append_11 : decode cX8_append 11 = .ok (.iload_n 2, 1) := by decide +kernel
theorem dX8_append_12 : decode cX8_append 12 = .ok (.ifCond .lt 32, 3) := by decide +kernel
theorem dX8_append_15 : decode cX8_append 15 = .ok (.aload_n 0, 1) := by decide +kernel
theorem dX8_append_16 : decode cX8_append 16 = .ok (.getfield 9, 3) := by decide +kernel
theorem dX8_append_19 : decode cX8_append 19 = .ok (.aload_n 0, 1) := by decide +kernel
theorem dX8_append_20 : decode cX8_append 20 = .ok (.getfield 15, 3) := by decide +kernel
theorem dX8_append_23 : decode cX8_append 23 = .ok (.iload_n 1, 1) := by decide +kernel
theorem dX8_append_24 : decode cX8_append 24 = .ok (.iload_n 2, 1) := by decide +kernel
theorem dX8_append_25 : decode cX8_append 25 = .ok (.ishr, 1) := by decide +kernel
theorem dX8_append_26 : decode cX8_append 26 = .ok (.i2b, 1) := by decide +kernel
theorem dX8_append_27 : decode cX8_append 27 = .ok (.bastore, 1) := by decide +kernel
theorem dX8_append_28 : decode cX8_append 28 = .ok (.aload_n 0, 1) := by decide +kernel
theorem dX8_append_29 : decode cX8_append 29 = .ok (.dup, 1) := by decide +kernel
theorem dX8_append_30 : decode cX8_append 30 = .ok (.getfield 15, 3) := by decide +kernel
theorem dX8_append_33 : decode cX8_append 33 = .ok (.iconst 1, 1) := by decide +kernel
theorem dX8_append_34 : decode cX8_append 34 = .ok (.iadd, 1) := by decide +kernel
theorem dX8_append_35 : decode cX8_append 35 = .ok (.putfield 15, 3) := by decide +kernel
theorem dX8_append_38 : decode cX8_append 38 = .ok (.iinc 2 (-8), 3) := by decide +kernel
theorem dX8_append_41 : decode cX8_append 41 = .ok (.goto (-30), 3) := by decide +kernel
theorem dX8_append_44 : decode cX8_append 44 = .ok (.return_, 1) := by decide +kernel
theorem dX8_begin_0 : decode cX8_begin 0 = .ok (.aload_n 0, 1) := by decide +kernel
theorem dX8_begin_1 : decode cX8_begin 1 = .ok (.iload_n 1, 1) := by decide +kernel
theorem dX8_begin_2 : decode cX8_begin 2 = .ok (.iconst 0, 1) := by decide +kernel
theorem dX8_begin_3 : decode cX8_begin 3 = .ok (.invokestatic 68, 3) := by decide +kernel
theorem dX8_begin_6 : decode cX8_begin 6 = .ok (.aload_n 0, 1) := by decide +kernel
theorem dX8_begin_7 : decode cX8_begin 7 = .ok (.getfield 15, 3) := by decide +kernel
theorem dX8_begin_10 : decode cX8_begin 10 = .ok (.invokestatic 74, 3) := by decide +kernel
theorem dX8_begin_13 : decode cX8_begin 13 = .ok (.putfield 29, 3) := by decide +kernel
theorem dX8_begin_16 : decode cX8_begin 16 = .ok (.aload_n 0, 1) := by decide +kernel
theorem dX8_begin_17 : decode cX8_begin 17 = .ok (.iconst 0, 1) := by decide +kernel
theorem dX8_begin_18 : decode cX8_begin 18 = .ok (.putfield 32, 3) := by decide +kernel
theorem dX8_begin_21 : decode cX8_begin 21 = .ok (.aload_n 0, 1) := by decide +kernel
theorem dX8_begin_22 : decode cX8_begin 22 = .ok (.iconst 0, 1) := by decide +kernel
theorem dX8_begin_23 : decode cX8_begin 23 = .ok (.putfield 19, 3) := by decide +kernel
theorem dX8_begin_26 : decode cX8_begin 26 = .ok (.aload_n 0, 1) := by decide +kernel
theorem dX8_begin_27 : decode cX8_begin 27 = .ok (.iconst (-1), 1) := by decide +kernel
theorem dX8_begin_28 : decode cX8_begin 28 = .ok (.putfield 22, 3) := by decide +kernel
theorem dX8_begin_31 : decode cX8_begin 31 = .ok (.aload_n 0, 1) := by decide +kernel
theorem dX8_begin_32 : decode cX8_begin 32 = .ok (.invokevirtual 77, 3) := by decide +kernel
theorem dX8_begin_35 : decode cX8_begin 35 = .ok (.return_, 1) := by decide +kernel
theorem dX8_advance_0 : decode cX8_advance 0 = .ok (.aload_n 0, 1) := by decide +kernel
theorem dX8_advance_1 : decode cX8_advance 1 = .ok (.getfield 19, 3) := by decide +kernel
theorem dX8_advance_4 : decode cX8_advance 4 = .ok (.ifCond .eq 4, 3) := by decide +kernel
theorem dX8_advance_7 : decode cX8_advance 7 = .ok (.return_, 1) := by decide +kernel
theorem dX8_advance_8 : decode cX8_advance 8 = .ok (.aload_n 0, 1) := by decide +kernel
theorem dX8_advance_9 : decode cX8_advance 9 = .ok (.getfield 32, 3) := by decide +kernel
theorem dX8_advance_12 : decode cX8_advance 12 = .ok (.aload_n 0, 1) := by decide +kernel
theorem dX8_advance_13 : decode cX8_advance 13 = .ok (.getfield 29, 3) := by decide +kernel
theorem dX8_advance_16 : decode cX8_advance 16 = .ok (.if_icmp .ge 44, 3) := by decide +kernel
theorem dX8_advance_19 : decode cX8_advance 19 = .ok (.aload_n 0, 1) := by decide +kernel
theorem dX8_advance_20 : decode cX8_advance 20 = .ok (.getfield 9, 3) := by decide +kernel
theorem dX8_advance_23 : decode cX8_advance 23 = .ok (.aload_n 0, 1) := by decide +kernel
theorem dX8_advance_24 : decode cX8_advance 24 = .ok (.getfield 32, 3) := by decide +kernel
theorem dX8_advance_27 : decode cX8_advance 27 = .ok (.baload, 1) := by decide +kernel
theorem dX8_advance_28 : decode cX8_advance 28 = .ok (.bipush 10, 2) := by decide +kernel
theorem dX8_advance_30 : decode cX8_advance 30 = .ok (.if_icmp .eq 17, 3) := by decide +kernel
theorem dX8_advance_33 : decode cX8_advance 33 = .ok (.aload_n 0, 1) := by decide +kernel
theorem dX8_advance_34 : decode cX8_advance 34 = .ok (.getfield 9, 3) := by decide +kernel
theorem dX8_advance_37 : decode cX8_advance 37 = .ok (.aload_n 0, 1) := by decide +kernel
theorem dX8_advance_38 : decode cX8_advance 38 = .ok (.getfield 32, 3) := by decide +kernel
theorem dX8_advance_41 : decode cX8_advance 41 = .ok (.baload, 1) := by decide +kernel
theorem dX8_advance_42 : decode cX8_advance 42 = .ok (.bipush 32, 2) := by decide +kernel
theorem dX8_advance_44 : decode cX8_advance 44 = .ok (.if_icmp .ne 16, 3) := by decide +kernel
theorem dX8_advance_47 : decode cX8_advance 47 = .ok (.aload_n 0, 1) := by decide +kernel
theorem dX8_advance_48 : decode cX8_advance 48 = .ok (.dup, 1) := by decide +kernel
theorem dX8_advance_49 : decode cX8_advance 49 = .ok (.getfield 32, 3) := by decide +kernel
theorem dX8_advance_52 : decode cX8_advance 52 = .ok (.iconst 1, 1) := by decide +kernel
theorem dX8_advance_53 : decode cX8_advance 53 = .ok (.iadd, 1) := by decide +kernel
theorem dX8_advance_54 : decode cX8_advance 54 = .ok (.putfield 32, 3) := by decide +kernel
theorem dX8_advance_57 : decode cX8_advance 57 = .ok (.goto (-49), 3) := by decide +kernel
theorem dX8_advance_60 : decode cX8_advance 60 = .ok (.aload_n 0, 1) := by decide +kernel
theorem dX8_advance_61 : decode cX8_advance 61 = .ok (.aload_n 0, 1) := by decide +kernel
theorem dX8_advance_62 : decode cX8_advance 62 = .ok (.getfield 32, 3) := by decide +kernel
theorem dX8_advance_65 : decode cX8_advance 65 = .ok (.putfield 35, 3) := by decide +kernel
theorem dX8_advance_68 : decode cX8_advance 68 = .ok (.aload_n 0, 1) := by decide +kernel
theorem dX8_advance_69 : decode cX8_advance 69 = .ok (.iconst (-1), 1) := by decide +kernel
theorem dX8_advance_70 : decode cX8_advance 70 = .ok (.putfield 41, 3) := by decide +kernel
theorem dX8_advance_73 : decode cX8_advance 73 = .ok (.aload_n 0, 1) := by decide +kernel
theorem dX8_advance_74 : decode cX8_advance 74 = .ok (.getfield 32, 3) := by decide +kernel
theorem dX8_advance_77 : decode cX8_advance 77 = .ok (.aload_n 0, 1) := by decide +kernel
theorem dX8_advance_78 : decode cX8_advance 78 = .ok (.getfield 29, 3) := by decide +kernel
theorem dX8_advance_81 : decode cX8_advance 81 = .ok (.if_icmp .lt 11, 3) := by decide +kernel
theorem dX8_advance_84 : decode cX8_advance 84 = .ok (.aload_n 0, 1) := by decide +kernel
theorem dX8_advance_85 : decode cX8_advance 85 = .ok (.iconst 0, 1) := by decide +kernel
theorem dX8_advance_86 : decode cX8_advance 86 = .ok (.putfield 38, 3) := by decide +kernel
theorem dX8_advance_89 : decode cX8_advance 89 = .ok (.goto 77, 3) := by decide +kernel
theorem dX8_advance_92 : decode cX8_advance 92 = .ok (.aload_n 0, 1) := by decide +kernel
theorem dX8_advance_93 : decode cX8_advance 93 = .ok (.getfield 9, 3) := by decide +kernel
theorem dX8_advance_96 : decode cX8_advance 96 = .ok (.aload_n 0, 1) := by decide +kernel
theorem dX8_advance_97 : decode cX8_advance 97 = .ok (.getfield 32, 3) := by decide +kernel
theorem dX8_advance_100 : decode cX8_advance 100 = .ok (.baload, 1) := by decide +kernel
theorem dX8_advance_101 : decode cX8_advance 101 = .ok (.bipush 97, 2) := by decide +kernel
theorem dX8_advance_103 : decode cX8_advance 103 = .ok (.if_icmp .lt 24, 3) := by decide +kernel
theorem dX8_advance_106 : decode cX8_advance 106 = .ok (.aload_n 0, 1) := by decide +kernel
theorem dX8_advance_107 : decode cX8_advance 107 = .ok (.getfield 9, 3) := by decide +kernel
theorem dX8_advance_110 : decode cX8_advance 110 = .ok (.aload_n 0, 1) := by decide +kernel
theorem dX8_advance_111 : decode cX8_advance 111 = .ok (.getfield 32, 3) := by decide +kernel
theorem dX8_advance_114 : decode cX8_advance 114 = .ok (.baload, 1) := by decide +kernel
theorem dX8_advance_115 : decode cX8_advance 115 = .ok (.bipush 122, 2) := by decide +kernel
theorem dX8_advance_117 : decode cX8_advance 117 = .ok (.if_icmp .gt 10, 3) := by decide +kernel
theorem dX8_advance_120 : decode cX8_advance 120 = .ok (.aload_n 0, 1) := by decide +kernel
theorem dX8_advance_121 : decode cX8_advance 121 = .ok (.invokevirtual 80, 3) := by decide +kernel
theorem dX8_advance_124 : decode cX8_advance 124 = .ok (.goto 42, 3) := by decide +kernel
theorem dX8_advance_127 : decode cX8_advance 127 = .ok (.aload_n 0, 1) := by decide +kernel
theorem dX8_advance_128 : decode cX8_advance 128 = .ok (.getfield 9, 3) := by decide +kernel
theorem dX8_advance_131 : decode cX8_advance 131 = .ok (.aload_n 0, 1) := by decide +kernel
theorem dX8_advance_132 : decode cX8_advance 132 = .ok (.getfield 32, 3) := by decide +kernel
theorem dX8_advance_135 : decode cX8_advance 135 = .ok (.baload, 1) := by decide +kernel
theorem dX8_advance_136 : decode cX8_advance 136 = .ok (.bipush 48, 2) := by decide +kernel
theorem dX8_advance_138 : decode cX8_advance 138 = .ok (.if_icmp .lt 24, 3) := by decide +kernel
theorem dX8_advance_141 : decode cX8_advance 141 = .ok (.aload_n 0, 1) := by decide +kernel
theorem dX8_advance_142 : decode cX8_advance 142 = .ok (.getfield 9, 3) := by decide +kernel
theorem dX8_advance_145 : decode cX8_advance 145 = .ok (.aload_n 0, 1) := by decide +kernel
theorem dX8_advance_146 : decode cX8_advance 146 = .ok (.getfield 32, 3) := by decide +kernel
theorem dX8_advance_149 : decode cX8_advance 149 = .ok (.baload, 1) := by decide +kernel
theorem dX8_advance_150 : decode cX8_advance 150 = .ok (.bipush 57, 2) := by decide +kernel
theorem dX8_advance_152 : decode cX8_advance 152 = .ok (.if_icmp .gt 10, 3) := by decide +kernel
theorem dX8_advance_155 : decode cX8_advance 155 = .ok (.aload_n 0, 1) := by decide +kernel
theorem dX8_advance_156 : decode cX8_advance 156 = .ok (.invokevirtual 83, 3) := by decide +kernel
theorem dX8_advance_159 : decode cX8_advance 159 = .ok (.goto 7, 3) := by decide +kernel
theorem dX8_advance_162 : decode cX8_advance 162 = .ok (.aload_n 0, 1) := by decide +kernel
theorem dX8_advance_163 : decode cX8_advance 163 = .ok (.invokevirtual 86, 3) := by decide +kernel
theorem dX8_advance_166 : decode cX8_advance 166 = .ok (.return_, 1) := by decide +kernel
theorem dX8_takeWord_0 : decode cX8_takeWord 0 = .ok (.aload_n 0, 1) := by decide +kernel
theorem dX8_takeWord_1 : decode cX8_takeWord 1 = .ok (.iconst 1, 1) := by decide +kernel
theorem dX8_takeWord_2 : decode cX8_takeWord 2 = .ok (.putfield 38, 3) := by decide +kernel
theorem dX8_takeWord_5 : decode cX8_takeWord 5 = .ok (.aload_n 0, 1) := by decide +kernel
theorem dX8_takeWord_6 : decode cX8_takeWord 6 = .ok (.lconst 0, 1) := by decide +kernel
theorem dX8_takeWord_7 : decode cX8_takeWord 7 = .ok (.putfield 47, 3) := by decide +kernel
theorem dX8_takeWord_10 : decode cX8_takeWord 10 = .ok (.aload_n 0, 1) := by decide +kernel
theorem dX8_takeWord_11 : decode cX8_takeWord 11 = .ok (.getfield 32, 3) := by decide +kernel
theorem dX8_takeWord_14 : decode cX8_takeWord 14 = .ok (.aload_n 0, 1) := by decide +kernel
theorem dX8_takeWord_15 : decode cX8_takeWord 15 = .ok (.getfield 29, 3) := by decide +kernel
theorem dX8_takeWord_18 : decode cX8_takeWord 18 = .ok (.if_icmp .ge 86, 3) := by decide +kernel
theorem dX8_takeWord_21 : decode cX8_takeWord 21 = .ok (.aload_n 0, 1) := by decide +kernel
theorem dX8_takeWord_22 : decode cX8_takeWord 22 = .ok (.getfield 9, 3) := by decide +kernel
theorem dX8_takeWord_25 : decode cX8_takeWord 25 = .ok (.aload_n 0, 1) := by decide +kernel
theorem dX8_takeWord_26 : decode cX8_takeWord 26 = .ok (.getfield 32, 3) := by decide +kernel
theorem dX8_takeWord_29 : decode cX8_takeWord 29 = .ok (.baload, 1) := by decide +kernel
theorem dX8_takeWord_30 : decode cX8_takeWord 30 = .ok (.bipush 97, 2) := by decide +kernel
theorem dX8_takeWord_32 : decode cX8_takeWord 32 = .ok (.if_icmp .lt 72, 3) := by decide +kernel
theorem dX8_takeWord_35 : decode cX8_takeWord 35 = .ok (.aload_n 0, 1) := by decide +kernel
theorem dX8_takeWord_36 : decode cX8_takeWord 36 = .ok (.getfield 9, 3) := by decide +kernel
theorem dX8_takeWord_39 : decode cX8_takeWord 39 = .ok (.aload_n 0, 1) := by decide +kernel
theorem dX8_takeWord_40 : decode cX8_takeWord 40 = .ok (.getfield 32, 3) := by decide +kernel
theorem dX8_takeWord_43 : decode cX8_takeWord 43 = .ok (.baload, 1) := by decide +kernel
theorem dX8_takeWord_44 : decode cX8_takeWord 44 = .ok (.bipush 122, 2) := by decide +kernel
theorem dX8_takeWord_46 : decode cX8_takeWord 46 = .ok (.if_icmp .gt 58, 3) := by decide +kernel
theorem dX8_takeWord_49 : decode cX8_takeWord 49 = .ok (.aload_n 0, 1) := by decide +kernel
theorem dX8_takeWord_50 : decode cX8_takeWord 50 = .ok (.getfield 32, 3) := by decide +kernel
theorem dX8_takeWord_53 : decode cX8_takeWord 53 = .ok (.aload_n 0, 1) := by decide +kernel
theorem dX8_takeWord_54 : decode cX8_takeWord 54 = .ok (.getfield 35, 3) := by decide +kernel
theorem dX8_takeWord_57 : decode cX8_takeWord 57 = .ok (.isub, 1) := by decide +kernel
theorem dX8_takeWord_58 : decode cX8_takeWord 58 = .ok (.bipush 9, 2) := by decide +kernel
theorem dX8_takeWord_60 : decode cX8_takeWord 60 = .ok (.if_icmp .ge 31, 3) := by decide +kernel
theorem dX8_takeWord_63 : decode cX8_takeWord 63 = .ok (.aload_n 0, 1) := by decide +kernel
theorem dX8_takeWord_64 : decode cX8_takeWord 64 = .ok (.aload_n 0, 1) := by decide +kernel
theorem dX8_takeWord_65 : decode cX8_takeWord 65 = .ok (.getfield 47, 3) := by decide +kernel
theorem dX8_takeWord_68 : decode cX8_takeWord 68 = .ok (.ldc2_w 62, 3) := by decide +kernel
theorem dX8_takeWord_71 : decode cX8_takeWord 71 = .ok (.lmul, 1) := by decide +kernel
theorem dX8_takeWord_72 : decode cX8_takeWord 72 = .ok (.aload_n 0, 1) := by decide +kernel
theorem dX8_takeWord_73 : decode cX8_takeWord 73 = .ok (.getfield 9, 3) := by decide +kernel
theorem dX8_takeWord_76 : decode cX8_takeWord 76 = .ok (.aload_n 0, 1) := by decide +kernel
theorem dX8_takeWord_77 : decode cX8_takeWord 77 = .ok (.getfield 32, 3) := by decide +kernel
theorem dX8_takeWord_80 : decode cX8_takeWord 80 = .ok (.baload, 1) := by decide +kernel
theorem dX8_takeWord_81 : decode cX8_takeWord 81 = .ok (.bipush 97, 2) := by decide +kernel
theorem dX8_takeWord_83 : decode cX8_takeWord 83 = .ok (.isub, 1) := by decide +kernel
theorem dX8_takeWord_84 : decode cX8_takeWord 84 = .ok (.iconst 1, 1) := by decide +kernel
theorem dX8_takeWord_85 : decode cX8_takeWord 85 = .ok (.iadd, 1) := by decide +kernel
theorem dX8_takeWord_86 : decode cX8_takeWord 86 = .ok (.i2l, 1) := by decide +kernel
theorem dX8_takeWord_87 : decode cX8_takeWord 87 = .ok (.ladd, 1) := by decide +kernel
theorem dX8_takeWord_88 : decode cX8_takeWord 88 = .ok (.putfield 47, 3) := by decide +kernel
theorem dX8_takeWord_91 : decode cX8_takeWord 91 = .ok (.aload_n 0, 1) := by decide +kernel
theorem dX8_takeWord_92 : decode cX8_takeWord 92 = .ok (.dup, 1) := by decide +kernel
theorem dX8_takeWord_93 : decode cX8_takeWord 93 = .ok (.getfield 32, 3) := by decide +kernel
theorem dX8_takeWord_96 : decode cX8_takeWord 96 = .ok (.iconst 1, 1) := by decide +kernel
theorem dX8_takeWord_97 : decode cX8_takeWord 97 = .ok (.iadd, 1) := by decide +kernel
theorem dX8_takeWord_98 : decode cX8_takeWord 98 = .ok (.putfield 32, 3) := by decide +kernel
theorem dX8_takeWord_101 : decode cX8_takeWord 101 = .ok (.goto (-91), 3) := by decide +kernel
theorem dX8_takeWord_104 : decode cX8_takeWord 104 = .ok (.iconst 0, 1) := by decide +kernel
theorem dX8_takeWord_105 : decode cX8_takeWord 105 = .ok (.istore_n 1, 1) := by decide +kernel
theorem dX8_takeWord_106 : decode cX8_takeWord 106 = .ok (.iload_n 1, 1) := by decide +kernel
theorem dX8_takeWord_107 : decode cX8_takeWord 107 = .ok (.bipush 30, 2) := by decide +kernel
theorem dX8_takeWord_109 : decode cX8_takeWord 109 = .ok (.if_icmp .ge 28, 3) := by decide +kernel
theorem dX8_takeWord_112 : decode cX8_takeWord 112 = .ok (.aload_n 0, 1) := by decide +kernel
theorem dX8_takeWord_113 : decode cX8_takeWord 113 = .ok (.getfield 25, 3) := by decide +kernel
theorem dX8_takeWord_116 : decode cX8_takeWord 116 = .ok (.iload_n 1, 1) := by decide +kernel
theorem dX8_takeWord_117 : decode cX8_takeWord 117 = .ok (.laload, 1) := by decide +kernel
theorem dX8_takeWord_118 : decode cX8_takeWord 118 = .ok (.aload_n 0, 1) := by decide +kernel
theorem dX8_takeWord_119 : decode cX8_takeWord 119 = .ok (.getfield 47, 3) := by decide +kernel
theorem dX8_takeWord_122 : decode cX8_takeWord 122 = .ok (.lcmp, 1) := by decide +kernel
theorem dX8_takeWord_123 : decode cX8_takeWord 123 = .ok (.ifCond .ne 8, 3) := by decide +kernel
theorem dX8_takeWord_126 : decode cX8_takeWord 126 = .ok (.aload_n 0, 1) := by decide +kernel
theorem dX8_takeWord_127 : decode cX8_takeWord 127 = .ok (.iload_n 1, 1) := by decide +kernel
theorem dX8_takeWord_128 : decode cX8_takeWord 128 = .ok (.putfield 41, 3) := by decide +kernel
theorem dX8_takeWord_131 : decode cX8_takeWord 131 = .ok (.iinc 1 1, 3) := by decide +kernel
theorem dX8_takeWord_134 : decode cX8_takeWord 134 = .ok (.goto (-28), 3) := by decide +kernel
theorem dX8_takeWord_137 : decode cX8_takeWord 137 = .ok (.return_, 1) := by decide +kernel
theorem dX8_takeNumber_0 : decode cX8_takeNumber 0 = .ok (.aload_n 0, 1) := by decide +kernel
theorem dX8_takeNumber_1 : decode cX8_takeNumber 1 = .ok (.iconst 0, 1) := by decide +kernel
theorem dX8_takeNumber_2 : decode cX8_takeNumber 2 = .ok (.putfield 44, 3) := by decide +kernel
theorem dX8_takeNumber_5 : decode cX8_takeNumber 5 = .ok (.aload_n 0, 1) := by decide +kernel
theorem dX8_takeNumber_6 : decode cX8_takeNumber 6 = .ok (.getfield 32, 3) := by decide +kernel
theorem dX8_takeNumber_9 : decode cX8_takeNumber 9 = .ok (.aload_n 0, 1) := by decide +kernel
theorem dX8_takeNumber_10 : decode cX8_takeNumber 10 = .ok (.getfield 29, 3) := by decide +kernel
theorem dX8_takeNumber_13 : decode cX8_takeNumber 13 = .ok (.if_icmp .ge 81, 3) := by decide +kernel
theorem dX8_takeNumber_16 : decode cX8_takeNumber 16 = .ok (.aload_n 0, 1) := by decide +kernel
theorem dX8_takeNumber_17 : decode cX8_takeNumber 17 = .ok (.getfield 9, 3) := by decide +kernel
theorem dX8_takeNumber_20 : decode cX8_takeNumber 20 = .ok (.aload_n 0, 1) := by decide +kernel
theorem dX8_takeNumber_21 : decode cX8_takeNumber 21 = .ok (.getfield 32, 3) := by decide +kernel
theorem dX8_takeNumber_24 : decode cX8_takeNumber 24 = .ok (.baload, 1) := by decide +kernel
theorem dX8_takeNumber_25 : decode cX8_takeNumber 25 = .ok (.bipush 48, 2) := by decide +kernel
theorem dX8_takeNumber_27 : decode cX8_takeNumber 27 = .ok (.if_icmp .lt 67, 3) := by decide +kernel
theorem dX8_takeNumber_30 : decode cX8_takeNumber 30 = .ok (.aload_n 0, 1) := by decide +kernel
theorem dX8_takeNumber_31 : decode cX8_takeNumber 31 = .ok (.getfield 9, 3) := by decide +kernel
theorem dX8_takeNumber_34 : decode cX8_takeNumber 34 = .ok (.aload_n 0, 1) := by decide +kernel
theorem dX8_takeNumber_35 : decode cX8_takeNumber 35 = .ok (.getfield 32, 3) := by decide +kernel
theorem dX8_takeNumber_38 : decode cX8_takeNumber 38 = .ok (.baload, 1) := by decide +kernel
theorem dX8_takeNumber_39 : decode cX8_takeNumber 39 = .ok (.bipush 57, 2) := by decide +kernel
theorem dX8_takeNumber_41 : decode cX8_takeNumber 41 = .ok (.if_icmp .gt 53, 3) := by decide +kernel
theorem dX8_takeNumber_44 : decode cX8_takeNumber 44 = .ok (.aload_n 0, 1) := by decide +kernel
theorem dX8_takeNumber_45 : decode cX8_takeNumber 45 = .ok (.getfield 32, 3) := by decide +kernel
theorem dX8_takeNumber_48 : decode cX8_takeNumber 48 = .ok (.aload_n 0, 1) := by decide +kernel
theorem dX8_takeNumber_49 : decode cX8_takeNumber 49 = .ok (.getfield 35, 3) := by decide +kernel
theorem dX8_takeNumber_52 : decode cX8_takeNumber 52 = .ok (.isub, 1) := by decide +kernel
theorem dX8_takeNumber_53 : decode cX8_takeNumber 53 = .ok (.iconst 4, 1) := by decide +kernel
theorem dX8_takeNumber_54 : decode cX8_takeNumber 54 = .ok (.if_icmp .ge 27, 3) := by decide +kernel
theorem dX8_takeNumber_57 : decode cX8_takeNumber 57 = .ok (.aload_n 0, 1) := by decide +kernel
theorem dX8_takeNumber_58 : decode cX8_takeNumber 58 = .ok (.aload_n 0, 1) := by decide +kernel
theorem dX8_takeNumber_59 : decode cX8_takeNumber 59 = .ok (.getfield 44, 3) := by decide +kernel
theorem dX8_takeNumber_62 : decode cX8_takeNumber 62 = .ok (.bipush 10, 2) := by decide +kernel
theorem dX8_takeNumber_64 : decode cX8_takeNumber 64 = .ok (.imul, 1) := by decide +kernel
theorem dX8_takeNumber_65 : decode cX8_takeNumber 65 = .ok (.aload_n 0, 1) := by decide +kernel
theorem dX8_takeNumber_66 : decode cX8_takeNumber 66 = .ok (.getfield 9, 3) := by decide +kernel
theorem dX8_takeNumber_69 : decode cX8_takeNumber 69 = .ok (.aload_n 0, 1) := by decide +kernel
theorem dX8_takeNumber_70 : decode cX8_takeNumber 70 = .ok (.getfield 32, 3) := by decide +kernel
theorem dX8_takeNumber_73 : decode cX8_takeNumber 73 = .ok (.baload, 1) := by decide +kernel
theorem dX8_takeNumber_74 : decode cX8_takeNumber 74 = .ok (.bipush 48, 2) := by decide +kernel
theorem dX8_takeNumber_76 : decode cX8_takeNumber 76 = .ok (.isub, 1) := by decide +kernel
theorem dX8_takeNumber_77 : decode cX8_takeNumber 77 = .ok (.iadd, 1) := by decide +kernel
theorem dX8_takeNumber_78 : decode cX8_takeNumber 78 = .ok (.putfield 44, 3) := by decide +kernel
theorem dX8_takeNumber_81 : decode cX8_takeNumber 81 = .ok (.aload_n 0, 1) := by decide +kernel
theorem dX8_takeNumber_82 : decode cX8_takeNumber 82 = .ok (.dup, 1) := by decide +kernel
theorem dX8_takeNumber_83 : decode cX8_takeNumber 83 = .ok (.getfield 32, 3) := by decide +kernel
theorem dX8_takeNumber_86 : decode cX8_takeNumber 86 = .ok (.iconst 1, 1) := by decide +kernel
theorem dX8_takeNumber_87 : decode cX8_takeNumber 87 = .ok (.iadd, 1) := by decide +kernel
theorem dX8_takeNumber_88 : decode cX8_takeNumber 88 = .ok (.putfield 32, 3) := by decide +kernel
theorem dX8_takeNumber_91 : decode cX8_takeNumber 91 = .ok (.goto (-86), 3) := by decide +kernel
theorem dX8_takeNumber_94 : decode cX8_takeNumber 94 = .ok (.aload_n 0, 1) := by decide +kernel
theorem dX8_takeNumber_95 : decode cX8_takeNumber 95 = .ok (.aload_n 0, 1) := by decide +kernel
theorem dX8_takeNumber_96 : decode cX8_takeNumber 96 = .ok (.getfield 32, 3) := by decide +kernel
theorem dX8_takeNumber_99 : decode cX8_takeNumber 99 = .ok (.aload_n 0, 1) := by decide +kernel
theorem dX8_takeNumber_100 : decode cX8_takeNumber 100 = .ok (.getfield 35, 3) := by decide +kernel
theorem dX8_takeNumber_103 : decode cX8_takeNumber 103 = .ok (.isub, 1) := by decide +kernel
theorem dX8_takeNumber_104 : decode cX8_takeNumber 104 = .ok (.iconst 4, 1) := by decide +kernel
theorem dX8_takeNumber_105 : decode cX8_takeNumber 105 = .ok (.if_icmp .le 7, 3) := by decide +kernel
theorem dX8_takeNumber_108 : decode cX8_takeNumber 108 = .ok (.iconst 4, 1) := by decide +kernel
theorem dX8_takeNumber_109 : decode cX8_takeNumber 109 = .ok (.goto 4, 3) := by decide +kernel
theorem dX8_takeNumber_112 : decode cX8_takeNumber 112 = .ok (.iconst 2, 1) := by decide +kernel
theorem dX8_takeNumber_113 : decode cX8_takeNumber 113 = .ok (.putfield 38, 3) := by decide +kernel
theorem dX8_takeNumber_116 : decode cX8_takeNumber 116 = .ok (.return_, 1) := by decide +kernel
theorem dX8_takeSign_0 : decode cX8_takeSign 0 = .ok (.aload_n 0, 1) := by decide +kernel
theorem dX8_takeSign_1 : decode cX8_takeSign 1 = .ok (.getfield 9, 3) := by decide +kernel
theorem dX8_takeSign_4 : decode cX8_takeSign 4 = .ok (.aload_n 0, 1) := by decide +kernel
theorem dX8_takeSign_5 : decode cX8_takeSign 5 = .ok (.getfield 32, 3) := by decide +kernel
theorem dX8_takeSign_8 : decode cX8_takeSign 8 = .ok (.baload, 1) := by decide +kernel
theorem dX8_takeSign_9 : decode cX8_takeSign 9 = .ok (.istore_n 1, 1) := by decide +kernel
theorem dX8_takeSign_10 : decode cX8_takeSign 10 = .ok (.aload_n 0, 1) := by decide +kernel
theorem dX8_takeSign_11 : decode cX8_takeSign 11 = .ok (.iload_n 1, 1) := by decide +kernel
theorem dX8_takeSign_12 : decode cX8_takeSign 12 = .ok (.bipush 59, 2) := by decide +kernel
theorem dX8_takeSign_14 : decode cX8_takeSign 14 = .ok (.if_icmp .eq 21, 3) := by decide +kernel
theorem dX8_takeSign_17 : decode cX8_takeSign 17 = .ok (.iload_n 1, 1) := by decide +kernel
theorem dX8_takeSign_18 : decode cX8_takeSign 18 = .ok (.bipush 60, 2) := by decide +kernel
theorem dX8_takeSign_20 : decode cX8_takeSign 20 = .ok (.if_icmp .eq 15, 3) := by decide +kernel
theorem dX8_takeSign_23 : decode cX8_takeSign 23 = .ok (.iload_n 1, 1) := by decide +kernel
theorem dX8_takeSign_24 : decode cX8_takeSign 24 = .ok (.bipush 62, 2) := by decide +kernel
theorem dX8_takeSign_26 : decode cX8_takeSign 26 = .ok (.if_icmp .eq 9, 3) := by decide +kernel
theorem dX8_takeSign_29 : decode cX8_takeSign 29 = .ok (.iload_n 1, 1) := by decide +kernel
theorem dX8_takeSign_30 : decode cX8_takeSign 30 = .ok (.bipush 61, 2) := by decide +kernel
theorem dX8_takeSign_32 : decode cX8_takeSign 32 = .ok (.if_icmp .ne 7, 3) := by decide +kernel
theorem dX8_takeSign_35 : decode cX8_takeSign 35 = .ok (.iconst 3, 1) := by decide +kernel
theorem dX8_takeSign_36 : decode cX8_takeSign 36 = .ok (.goto 4, 3) := by decide +kernel
theorem dX8_takeSign_39 : decode cX8_takeSign 39 = .ok (.iconst 4, 1) := by decide +kernel
theorem dX8_takeSign_40 : decode cX8_takeSign 40 = .ok (.putfield 38, 3) := by decide +kernel
theorem dX8_takeSign_43 : decode cX8_takeSign 43 = .ok (.aload_n 0, 1) := by decide +kernel
theorem dX8_takeSign_44 : decode cX8_takeSign 44 = .ok (.dup, 1) := by decide +kernel
theorem dX8_takeSign_45 : decode cX8_takeSign 45 = .ok (.getfield 32, 3) := by decide +kernel
theorem dX8_takeSign_48 : decode cX8_takeSign 48 = .ok (.iconst 1, 1) := by decide +kernel
theorem dX8_takeSign_49 : decode cX8_takeSign 49 = .ok (.iadd, 1) := by decide +kernel
theorem dX8_takeSign_50 : decode cX8_takeSign 50 = .ok (.putfield 32, 3) := by decide +kernel
theorem dX8_takeSign_53 : decode cX8_takeSign 53 = .ok (.return_, 1) := by decide +kernel
theorem dX8_goesOn_0 : decode cX8_goesOn 0 = .ok (.aload_n 0, 1) := by decide +kernel
theorem dX8_goesOn_1 : decode cX8_goesOn 1 = .ok (.getfield 19, 3) := by decide +kernel
theorem dX8_goesOn_4 : decode cX8_goesOn 4 = .ok (.ifCond .ne 14, 3) := by decide +kernel
theorem dX8_goesOn_7 : decode cX8_goesOn 7 = .ok (.aload_n 0, 1) := by decide +kernel
theorem dX8_goesOn_8 : decode cX8_goesOn 8 = .ok (.getfield 38, 3) := by decide +kernel
theorem dX8_goesOn_11 : decode cX8_goesOn 11 = .ok (.ifCond .eq 7, 3) := by decide +kernel
theorem dX8_goesOn_14 : decode cX8_goesOn 14 = .ok (.iconst 1, 1) := by decide +kernel
theorem dX8_goesOn_15 : decode cX8_goesOn 15 = .ok (.goto 4, 3) := by decide +kernel
theorem dX8_goesOn_18 : decode cX8_goesOn 18 = .ok (.iconst 0, 1) := by decide +kernel
theorem dX8_goesOn_19 : decode cX8_goesOn 19 = .ok (.ireturn, 1) := by decide +kernel
theorem dX8_blame_0 : decode cX8_blame 0 = .ok (.aload_n 0, 1) := by decide +kernel
theorem dX8_blame_1 : decode cX8_blame 1 = .ok (.getfield 19, 3) := by decide +kernel
theorem dX8_blame_4 : decode cX8_blame 4 = .ok (.ifCond .ne 28, 3) := by decide +kernel
theorem dX8_blame_7 : decode cX8_blame 7 = .ok (.aload_n 0, 1) := by decide +kernel
theorem dX8_blame_8 : decode cX8_blame 8 = .ok (.aload_n 0, 1) := by decide +kernel
theorem dX8_blame_9 : decode cX8_blame 9 = .ok (.getfield 38, 3) := by decide +kernel
theorem dX8_blame_12 : decode cX8_blame 12 = .ok (.iconst 4, 1) := by decide +kernel
theorem dX8_blame_13 : decode cX8_blame 13 = .ok (.if_icmp .ne 7, 3) := by decide +kernel
theorem dX8_blame_16 : decode cX8_blame 16 = .ok (.iconst 1, 1) := by decide +kernel
theorem dX8_blame_17 : decode cX8_blame 17 = .ok (.goto 4, 3) := by decide +kernel
theorem dX8_blame_20 : decode cX8_blame 20 = .ok (.iload_n 1, 1) := by decide +kernel
theorem dX8_blame_21 : decode cX8_blame 21 = .ok (.putfield 19, 3) := by decide +kernel
theorem dX8_blame_24 : decode cX8_blame 24 = .ok (.aload_n 0, 1) := by decide +kernel
theorem dX8_blame_25 : decode cX8_blame 25 = .ok (.aload_n 0, 1) := by decide +kernel
theorem dX8_blame_26 : decode cX8_blame 26 = .ok (.getfield 35, 3) := by decide +kernel
theorem dX8_blame_29 : decode cX8_blame 29 = .ok (.putfield 22, 3) := by decide +kernel
theorem dX8_blame_32 : decode cX8_blame 32 = .ok (.return_, 1) := by decide +kernel
theorem dX8_keywordHere_0 : decode cX8_keywordHere 0 = .ok (.aload_n 0, 1) := by decide +kernel
theorem dX8_keywordHere_1 : decode cX8_keywordHere 1 = .ok (.getfield 19, 3) := by decide +kernel
theorem dX8_keywordHere_4 : decode cX8_keywordHere 4 = .ok (.ifCond .ne 18, 3) := by decide +kernel
theorem dX8_keywordHere_7 : decode cX8_keywordHere 7 = .ok (.aload_n 0, 1) := by decide +kernel
theorem dX8_keywordHere_8 : decode cX8_keywordHere 8 = .ok (.getfield 38, 3) := by decide +kernel
theorem dX8_keywordHere_11 : decode cX8_keywordHere 11 = .ok (.iconst 1, 1) := by decide +kernel
theorem dX8_keywordHere_12 : decode cX8_keywordHere 12 = .ok (.if_icmp .ne 10, 3) := by decide +kernel
theorem dX8_keywordHere_15 : decode cX8_keywordHere 15 = .ok (.aload_n 0, 1) := by decide +kernel
theorem dX8_keywordHere_16 : decode cX8_keywordHere 16 = .ok (.getfield 41, 3) := by decide +kernel
theorem dX8_keywordHere_19 : decode cX8_keywordHere 19 = .ok (.goto 4, 3) := by decide +kernel
theorem dX8_keywordHere_22 : decode cX8_keywordHere 22 = .ok (.iconst (-1), 1) := by decide +kernel
theorem dX8_keywordHere_23 : decode cX8_keywordHere 23 = .ok (.ireturn, 1) := by decide +kernel
theorem dX8_isSignHere_0 : decode cX8_isSignHere 0 = .ok (.aload_n 0, 1) := by decide +kernel
theorem dX8_isSignHere_1 : decode cX8_isSignHere 1 = .ok (.getfield 19, 3) := by decide +kernel
theorem dX8_isSignHere_4 : decode cX8_isSignHere 4 = .ok (.ifCond .ne 28, 3) := by decide +kernel
theorem dX8_isSignHere_7 : decode cX8_isSignHere 7 = .ok (.aload_n 0, 1) := by decide +kernel
theorem dX8_isSignHere_8 : decode cX8_isSignHere 8 = .ok (.getfield 38, 3) := by decide +kernel
theorem dX8_isSignHere_11 : decode cX8_isSignHere 11 = .ok (.iconst 3, 1) := by decide +kernel
theorem dX8_isSignHere_12 : decode cX8_isSignHere 12 = .ok (.if_icmp .ne 20, 3) := by decide +kernel
theorem dX8_isSignHere_15 : decode cX8_isSignHere 15 = .ok (.aload_n 0, 1) := by decide +kernel
theorem dX8_isSignHere_16 : decode cX8_isSignHere 16 = .ok (.getfield 9, 3) := by decide +kernel
theorem dX8_isSignHere_19 : decode cX8_isSignHere 19 = .ok (.aload_n 0, 1) := by decide +kernel
theorem dX8_isSignHere_20 : decode cX8_isSignHere 20 = .ok (.getfield 35, 3) := by decide +kernel
theorem dX8_isSignHere_23 : decode cX8_isSignHere 23 = .ok (.baload, 1) := by decide +kernel
theorem dX8_isSignHere_24 : decode cX8_isSignHere 24 = .ok (.iload_n 1, 1) := by decide +kernel
theorem dX8_isSignHere_25 : decode cX8_isSignHere 25 = .ok (.if_icmp .ne 7, 3) := by decide +kernel
theorem dX8_isSignHere_28 : decode cX8_isSignHere 28 = .ok (.iconst 1, 1) := by decide +kernel
theorem dX8_isSignHere_29 : decode cX8_isSignHere 29 = .ok (.goto 4, 3) := by decide +kernel
theorem dX8_isSignHere_32 : decode cX8_isSignHere 32 = .ok (.iconst 0, 1) := by decide +kernel
theorem dX8_isSignHere_33 : decode cX8_isSignHere 33 = .ok (.ireturn, 1) := by decide +kernel
theorem dX8_needWord_0 : decode cX8_needWord 0 = .ok (.aload_n 0, 1) := by decide +kernel
theorem dX8_needWord_1 : decode cX8_needWord 1 = .ok (.invokevirtual 89, 3) := by decide +kernel
theorem dX8_needWord_4 : decode cX8_needWord 4 = .ok (.iload_n 1, 1) := by decide +kernel
theorem dX8_needWord_5 : decode cX8_needWord 5 = .ok (.if_icmp .ne 10, 3) := by decide +kernel
theorem dX8_needWord_8 : decode cX8_needWord 8 = .ok (.aload_n 0, 1) := by decide +kernel
theorem dX8_needWord_9 : decode cX8_needWord 9 = .ok (.invokevirtual 77, 3) := by decide +kernel
theorem dX8_needWord_12 : decode cX8_needWord 12 = .ok (.goto 8, 3) := by decide +kernel
theorem dX8_needWord_15 : decode cX8_needWord 15 = .ok (.aload_n 0, 1) := by decide +kernel
theorem dX8_needWord_16 : decode cX8_needWord 16 = .ok (.iconst 2, 1) := by decide +kernel
theorem dX8_needWord_17 : decode cX8_needWord 17 = .ok (.invokevirtual 92, 3) := by decide +kernel
theorem dX8_needWord_20 : decode cX8_needWord 20 = .ok (.return_, 1) := by decide +kernel
theorem dX8_needEnd_0 : decode cX8_needEnd 0 = .ok (.aload_n 0, 1) := by decide +kernel
theorem dX8_needEnd_1 : decode cX8_needEnd 1 = .ok (.bipush 59, 2) := by decide +kernel
theorem dX8_needEnd_3 : decode cX8_needEnd 3 = .ok (.invokevirtual 96, 3) := by decide +kernel
theorem dX8_needEnd_6 : decode cX8_needEnd 6 = .ok (.ifCond .eq 10, 3) := by decide +kernel
theorem dX8_needEnd_9 : decode cX8_needEnd 9 = .ok (.aload_n 0, 1) := by decide +kernel
theorem dX8_needEnd_10 : decode cX8_needEnd 10 = .ok (.invokevirtual 77, 3) := by decide +kernel
theorem dX8_needEnd_13 : decode cX8_needEnd 13 = .ok (.goto 8, 3) := by decide +kernel
theorem dX8_needEnd_16 : decode cX8_needEnd 16 = .ok (.aload_n 0, 1) := by decide +kernel
theorem dX8_needEnd_17 : decode cX8_needEnd 17 = .ok (.iconst 2, 1) := by decide +kernel
theorem dX8_needEnd_18 : decode cX8_needEnd 18 = .ok (.invokevirtual 92, 3) := by decide +kernel
theorem dX8_needEnd_21 : decode cX8_needEnd 21 = .ok (.return_, 1) := by decide +kernel
theorem dX8_needNumber_0 : decode cX8_needNumber 0 = .ok (.aload_n 0, 1) := by decide +kernel
theorem dX8_needNumber_1 : decode cX8_needNumber 1 = .ok (.iload_n 1, 1) := by decide +kernel
theorem dX8_needNumber_2 : decode cX8_needNumber 2 = .ok (.iload_n 2, 1) := by decide +kernel
theorem dX8_needNumber_3 : decode cX8_needNumber 3 = .ok (.invokevirtual 100, 3) := by decide +kernel
theorem dX8_needNumber_6 : decode cX8_needNumber 6 = .ok (.istore_n 3, 1) := by decide +kernel
theorem dX8_needNumber_7 : decode cX8_needNumber 7 = .ok (.aload_n 0, 1) := by decide +kernel
theorem dX8_needNumber_8 : decode cX8_needNumber 8 = .ok (.invokevirtual 77, 3) := by decide +kernel
theorem dX8_needNumber_11 : decode cX8_needNumber 11 = .ok (.iload_n 3, 1) := by decide +kernel
theorem dX8_needNumber_12 : decode cX8_needNumber 12 = .ok (.ireturn, 1) := by decide +kernel
theorem dX8_numberHere_0 : decode cX8_numberHere 0 = .ok (.aload_n 0, 1) := by decide +kernel
theorem dX8_numberHere_1 : decode cX8_numberHere 1 = .ok (.getfield 38, 3) := by decide +kernel
theorem dX8_numberHere_4 : decode cX8_numberHere 4 = .ok (.iconst 2, 1) := by decide +kernel
theorem dX8_numberHere_5 : decode cX8_numberHere 5 = .ok (.if_icmp .eq 11, 3) := by decide +kernel
theorem dX8_numberHere_8 : decode cX8_numberHere 8 = .ok (.aload_n 0, 1) := by decide +kernel
theorem dX8_numberHere_9 : decode cX8_numberHere 9 = .ok (.iconst 2, 1) := by decide +kernel
theorem dX8_numberHere_10 : decode cX8_numberHere 10 = .ok (.invokevirtual 92, 3) := by decide +kernel
theorem dX8_numberHere_13 : decode cX8_numberHere 13 = .ok (.goto 24, 3) := by decide +kernel
theorem dX8_numberHere_16 : decode cX8_numberHere 16 = .ok (.aload_n 0, 1) := by decide +kernel
theorem dX8_numberHere_17 : decode cX8_numberHere 17 = .ok (.getfield 44, 3) := by decide +kernel
theorem dX8_numberHere_20 : decode cX8_numberHere 20 = .ok (.iload_n 1, 1) := by decide +kernel
theorem dX8_numberHere_21 : decode cX8_numberHere 21 = .ok (.if_icmp .lt 11, 3) := by decide +kernel
theorem dX8_numberHere_24 : decode cX8_numberHere 24 = .ok (.aload_n 0, 1) := by decide +kernel
theorem dX8_numberHere_25 : decode cX8_numberHere 25 = .ok (.getfield 44, 3) := by decide +kernel
theorem dX8_numberHere_28 : decode cX8_numberHere 28 = .ok (.iload_n 2, 1) := by decide +kernel
theorem dX8_numberHere_29 : decode cX8_numberHere 29 = .ok (.if_icmp .le 8, 3) := by decide +kernel
theorem dX8_numberHere_32 : decode cX8_numberHere 32 = .ok (.aload_n 0, 1) := by decide +kernel
theorem dX8_numberHere_33 : decode cX8_numberHere 33 = .ok (.iconst 4, 1) := by decide +kernel
theorem dX8_numberHere_34 : decode cX8_numberHere 34 = .ok (.invokevirtual 92, 3) := by decide +kernel
theorem dX8_numberHere_37 : decode cX8_numberHere 37 = .ok (.aload_n 0, 1) := by decide +kernel
theorem dX8_numberHere_38 : decode cX8_numberHere 38 = .ok (.getfield 19, 3) := by decide +kernel
theorem dX8_numberHere_41 : decode cX8_numberHere 41 = .ok (.ifCond .ne 10, 3) := by decide +kernel
theorem dX8_numberHere_44 : decode cX8_numberHere 44 = .ok (.aload_n 0, 1) := by decide +kernel
theorem dX8_numberHere_45 : decode cX8_numberHere 45 = .ok (.getfield 44, 3) := by decide +kernel
theorem dX8_numberHere_48 : decode cX8_numberHere 48 = .ok (.goto 4, 3) := by decide +kernel
theorem dX8_numberHere_51 : decode cX8_numberHere 51 = .ok (.iconst (-1), 1) := by decide +kernel
theorem dX8_numberHere_52 : decode cX8_numberHere 52 = .ok (.ireturn, 1) := by decide +kernel
theorem dX8_nameHere_0 : decode cX8_nameHere 0 = .ok (.aload_n 0, 1) := by decide +kernel
theorem dX8_nameHere_1 : decode cX8_nameHere 1 = .ok (.getfield 38, 3) := by decide +kernel
theorem dX8_nameHere_4 : decode cX8_nameHere 4 = .ok (.iconst 1, 1) := by decide +kernel
theorem dX8_nameHere_5 : decode cX8_nameHere 5 = .ok (.if_icmp .ne 29, 3) := by decide +kernel
theorem dX8_nameHere_8 : decode cX8_nameHere 8 = .ok (.aload_n 0, 1) := by decide +kernel
theorem dX8_nameHere_9 : decode cX8_nameHere 9 = .ok (.getfield 41, 3) := by decide +kernel
theorem dX8_nameHere_12 : decode cX8_nameHere 12 = .ok (.iconst (-1), 1) := by decide +kernel
theorem dX8_nameHere_13 : decode cX8_nameHere 13 = .ok (.if_icmp .ne 21, 3) := by decide +kernel
theorem dX8_nameHere_16 : decode cX8_nameHere 16 = .ok (.aload_n 0, 1) := by decide +kernel
theorem dX8_nameHere_17 : decode cX8_nameHere 17 = .ok (.getfield 32, 3) := by decide +kernel
theorem dX8_nameHere_20 : decode cX8_nameHere 20 = .ok (.aload_n 0, 1) := by decide +kernel
theorem dX8_nameHere_21 : decode cX8_nameHere 21 = .ok (.getfield 35, 3) := by decide +kernel
theorem dX8_nameHere_24 : decode cX8_nameHere 24 = .ok (.isub, 1) := by decide +kernel
theorem dX8_nameHere_25 : decode cX8_nameHere 25 = .ok (.bipush 8, 2) := by decide +kernel
theorem dX8_nameHere_27 : decode cX8_nameHere 27 = .ok (.if_icmp .gt 7, 3) := by decide +kernel
theorem dX8_nameHere_30 : decode cX8_nameHere 30 = .ok (.iconst 1, 1) := by decide +kernel
theorem dX8_nameHere_31 : decode cX8_nameHere 31 = .ok (.goto 4, 3) := by decide +kernel
theorem dX8_nameHere_34 : decode cX8_nameHere 34 = .ok (.iconst 0, 1) := by decide +kernel
theorem dX8_nameHere_35 : decode cX8_nameHere 35 = .ok (.istore_n 1, 1) := by decide +kernel
theorem dX8_nameHere_36 : decode cX8_nameHere 36 = .ok (.iload_n 1, 1) := by decide +kernel
theorem dX8_nameHere_37 : decode cX8_nameHere 37 = .ok (.ifCond .ne 8, 3) := by decide +kernel
theorem dX8_nameHere_40 : decode cX8_nameHere 40 = .ok (.aload_n 0, 1) := by decide +kernel
theorem dX8_nameHere_41 : decode cX8_nameHere 41 = .ok (.iconst 2, 1) := by decide +kernel
theorem dX8_nameHere_42 : decode cX8_nameHere 42 = .ok (.invokevirtual 92, 3) := by decide +kernel
theorem dX8_nameHere_45 : decode cX8_nameHere 45 = .ok (.aload_n 0, 1) := by decide +kernel
theorem dX8_nameHere_46 : decode cX8_nameHere 46 = .ok (.getfield 19, 3) := by decide +kernel
theorem dX8_nameHere_49 : decode cX8_nameHere 49 = .ok (.ifCond .ne 10, 3) := by decide +kernel
theorem dX8_nameHere_52 : decode cX8_nameHere 52 = .ok (.aload_n 0, 1) := by decide +kernel
theorem dX8_nameHere_53 : decode cX8_nameHere 53 = .ok (.getfield 47, 3) := by decide +kernel
theorem dX8_nameHere_56 : decode cX8_nameHere 56 = .ok (.goto 6, 3) := by decide +kernel
theorem dX8_nameHere_59 : decode cX8_nameHere 59 = .ok (.ldc2_w 103, 3) := by decide +kernel
theorem dX8_nameHere_62 : decode cX8_nameHere 62 = .ok (.lreturn, 1) := by decide +kernel
theorem dX8_needCompares_0 : decode cX8_needCompares 0 = .ok (.iconst 0, 1) := by decide +kernel
theorem dX8_needCompares_1 : decode cX8_needCompares 1 = .ok (.istore_n 1, 1) := by decide +kernel
theorem dX8_needCompares_2 : decode cX8_needCompares 2 = .ok (.aload_n 0, 1) := by decide +kernel
theorem dX8_needCompares_3 : decode cX8_needCompares 3 = .ok (.bipush 60, 2) := by decide +kernel
theorem dX8_needCompares_5 : decode cX8_needCompares 5 = .ok (.invokevirtual 96, 3) := by decide +kernel
theorem dX8_needCompares_8 : decode cX8_needCompares 8 = .ok (.ifCond .ne 21, 3) := by decide +kernel
theorem dX8_needCompares_11 : decode cX8_needCompares 11 = .ok (.aload_n 0, 1) := by decide +kernel
theorem dX8_needCompares_12 : decode cX8_needCompares 12 = .ok (.bipush 62, 2) := by decide +kernel
theorem dX8_needCompares_14 : decode cX8_needCompares 14 = .ok (.invokevirtual 96, 3) := by decide +kernel
theorem dX8_needCompares_17 : decode cX8_needCompares 17 = .ok (.ifCond .ne 12, 3) := by decide +kernel
theorem dX8_needCompares_20 : decode cX8_needCompares 20 = .ok (.aload_n 0, 1) := by decide +kernel
theorem dX8_needCompares_21 : decode cX8_needCompares 21 = .ok (.bipush 61, 2) := by decide +kernel
theorem dX8_needCompares_23 : decode cX8_needCompares 23 = .ok (.invokevirtual 96, 3) := by decide +kernel
theorem dX8_needCompares_26 : decode cX8_needCompares 26 = .ok (.ifCond .eq 16, 3) := by decide +kernel
theorem dX8_needCompares_29 : decode cX8_needCompares 29 = .ok (.aload_n 0, 1) := by decide +kernel
theorem dX8_needCompares_30 : decode cX8_needCompares 30 = .ok (.getfield 9, 3) := by decide +kernel
theorem dX8_needCompares_33 : decode cX8_needCompares 33 = .ok (.aload_n 0, 1) := by decide +kernel
theorem dX8_needCompares_34 : decode cX8_needCompares 34 = .ok (.getfield 35, 3) := by decide +kernel
theorem dX8_needCompares_37 : decode cX8_needCompares 37 = .ok (.baload, 1) := by decide +kernel
theorem dX8_needCompares_38 : decode cX8_needCompares 38 = .ok (.istore_n 1, 1) := by decide +kernel
theorem dX8_needCompares_39 : decode cX8_needCompares 39 = .ok (.goto 8, 3) := by decide +kernel
theorem dX8_needCompares_42 : decode cX8_needCompares 42 = .ok (.aload_n 0, 1) := by decide +kernel
theorem dX8_needCompares_43 : decode cX8_needCompares 43 = .ok (.iconst 2, 1) := by decide +kernel
theorem dX8_needCompares_44 : decode cX8_needCompares 44 = .ok (.invokevirtual 92, 3) := by decide +kernel
theorem dX8_needCompares_47 : decode cX8_needCompares 47 = .ok (.aload_n 0, 1) := by decide +kernel
theorem dX8_needCompares_48 : decode cX8_needCompares 48 = .ok (.invokevirtual 77, 3) := by decide +kernel
theorem dX8_needCompares_51 : decode cX8_needCompares 51 = .ok (.iload_n 1, 1) := by decide +kernel
theorem dX8_needCompares_52 : decode cX8_needCompares 52 = .ok (.ireturn, 1) := by decide +kernel
theorem dX8_needEntry_0 : decode cX8_needEntry 0 = .ok (.aload_n 0, 1) := by decide +kernel
theorem dX8_needEntry_1 : decode cX8_needEntry 1 = .ok (.aload_n 1, 1) := by decide +kernel
theorem dX8_needEntry_2 : decode cX8_needEntry 2 = .ok (.invokevirtual 105, 3) := by decide +kernel
theorem dX8_needEntry_5 : decode cX8_needEntry 5 = .ok (.istore_n 2, 1) := by decide +kernel
theorem dX8_needEntry_6 : decode cX8_needEntry 6 = .ok (.aload_n 0, 1) := by decide +kernel
theorem dX8_needEntry_7 : decode cX8_needEntry 7 = .ok (.invokevirtual 77, 3) := by decide +kernel
theorem dX8_needEntry_10 : decode cX8_needEntry 10 = .ok (.iload_n 2, 1) := by decide +kernel
theorem dX8_needEntry_11 : decode cX8_needEntry 11 = .ok (.ireturn, 1) := by decide +kernel
theorem dX8_entryHere_0 : decode cX8_entryHere 0 = .ok (.aload_n 0, 1) := by decide +kernel
theorem dX8_entryHere_1 : decode cX8_entryHere 1 = .ok (.invokevirtual 89, 3) := by decide +kernel
theorem dX8_entryHere_4 : decode cX8_entryHere 4 = .ok (.bipush 15, 2) := by decide +kernel
theorem dX8_entryHere_6 : decode cX8_entryHere 6 = .ok (.if_icmp .ne 6, 3) := by decide +kernel
theorem dX8_entryHere_9 : decode cX8_entryHere 9 = .ok (.bipush 6, 2) := by decide +kernel
theorem dX8_entryHere_11 : decode cX8_entryHere 11 = .ok (.ireturn, 1) := by decide +kernel
theorem dX8_entryHere_12 : decode cX8_entryHere 12 = .ok (.aload_n 1, 1) := by decide +kernel
theorem dX8_entryHere_13 : decode cX8_entryHere 13 = .ok (.aload_n 0, 1) := by decide +kernel
theorem dX8_entryHere_14 : decode cX8_entryHere 14 = .ok (.invokevirtual 109, 3) := by decide +kernel
theorem dX8_entryHere_17 : decode cX8_entryHere 17 = .ok (.invokevirtual 113, 3) := by decide +kernel
theorem dX8_entryHere_20 : decode cX8_entryHere 20 = .ok (.istore_n 2, 1) := by decide +kernel
theorem dX8_entryHere_21 : decode cX8_entryHere 21 = .ok (.iload_n 2, 1) := by decide +kernel
theorem dX8_entryHere_22 : decode cX8_entryHere 22 = .ok (.iconst (-1), 1) := by decide +kernel
theorem dX8_entryHere_23 : decode cX8_entryHere 23 = .ok (.if_icmp .ne 8, 3) := by decide +kernel
theorem dX8_entryHere_26 : decode cX8_entryHere 26 = .ok (.aload_n 0, 1) := by decide +kernel
theorem dX8_entryHere_27 : decode cX8_entryHere 27 = .ok (.iconst 3, 1) := by decide +kernel
theorem dX8_entryHere_28 : decode cX8_entryHere 28 = .ok (.invokevirtual 92, 3) := by decide +kernel
theorem dX8_entryHere_31 : decode cX8_entryHere 31 = .ok (.aload_n 0, 1) := by decide +kernel
theorem dX8_entryHere_32 : decode cX8_entryHere 32 = .ok (.getfield 19, 3) := by decide +kernel
theorem dX8_entryHere_35 : decode cX8_entryHere 35 = .ok (.ifCond .ne 7, 3) := by decide +kernel
theorem dX8_entryHere_38 : decode cX8_entryHere 38 = .ok (.iload_n 2, 1) := by decide +kernel
theorem dX8_entryHere_39 : decode cX8_entryHere 39 = .ok (.goto 5, 3) := by decide +kernel
theorem dX8_entryHere_42 : decode cX8_entryHere 42 = .ok (.bipush 6, 2) := by decide +kernel
theorem dX8_entryHere_44 : decode cX8_entryHere 44 = .ok (.ireturn, 1) := by decide +kernel
theorem dX8_needBand_0 : decode cX8_needBand 0 = .ok (.aload_n 1, 1) := by decide +kernel
theorem dX8_needBand_1 : decode cX8_needBand 1 = .ok (.aload_n 0, 1) := by decide +kernel
theorem dX8_needBand_2 : decode cX8_needBand 2 = .ok (.invokevirtual 109, 3) := by decide +kernel
theorem dX8_needBand_5 : decode cX8_needBand 5 = .ok (.invokevirtual 119, 3) := by decide +kernel
theorem dX8_needBand_8 : decode cX8_needBand 8 = .ok (.istore_n 2, 1) := by decide +kernel
theorem dX8_needBand_9 : decode cX8_needBand 9 = .ok (.iload_n 2, 1) := by decide +kernel
theorem dX8_needBand_10 : decode cX8_needBand 10 = .ok (.iconst (-1), 1) := by decide +kernel
theorem dX8_needBand_11 : decode cX8_needBand 11 = .ok (.if_icmp .ne 8, 3) := by decide +kernel
theorem dX8_needBand_14 : decode cX8_needBand 14 = .ok (.aload_n 0, 1) := by decide +kernel
theorem dX8_needBand_15 : decode cX8_needBand 15 = .ok (.iconst 3, 1) := by decide +kernel
theorem dX8_needBand_16 : decode cX8_needBand 16 = .ok (.invokevirtual 92, 3) := by decide +kernel
theorem dX8_needBand_19 : decode cX8_needBand 19 = .ok (.aload_n 0, 1) := by decide +kernel
theorem dX8_needBand_20 : decode cX8_needBand 20 = .ok (.invokevirtual 77, 3) := by decide +kernel
theorem dX8_needBand_23 : decode cX8_needBand 23 = .ok (.iload_n 2, 1) := by decide +kernel
theorem dX8_needBand_24 : decode cX8_needBand 24 = .ok (.ireturn, 1) := by decide +kernel
