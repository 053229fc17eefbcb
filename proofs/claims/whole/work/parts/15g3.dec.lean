theorem dX12_readStep_201 : decode cX12_readStep 201 = .ok (.aload_n 0, 1) := by decide +kernel
theorem dX12_readStep_202 : decode cX12_readStep 202 = .ok (.getfield 328, 3) := by decide +kernel
theorem dX12_readStep_205 : decode cX12_readStep 205 = .ok (.iastore, 1) := by decide +kernel
theorem dX12_readStep_206 : decode cX12_readStep 206 = .ok (.return_, 1) := by decide +kernel
theorem dX12_evenings_0 : decode cX12_evenings 0 = .ok (.aload_n 0, 1) := by decide +kernel
theorem dX12_evenings_1 : decode cX12_evenings 1 = .ok (.iconst 0, 1) := by decide +kernel
theorem dX12_evenings_2 : decode cX12_evenings 2 = .ok (.putfield 69, 3) := by decide +kernel
theorem dX12_evenings_5 : decode cX12_evenings 5 = .ok (.aload_n 0, 1) := by decide +kernel
theorem dX12_evenings_6 : decode cX12_evenings 6 = .ok (.iconst 0, 1) := by decide +kernel
theorem dX12_evenings_7 : decode cX12_evenings 7 = .ok (.putfield 72, 3) := by decide +kernel
theorem dX12_evenings_10 : decode cX12_evenings 10 = .ok (.aload_n 0, 1) := by decide +kernel
theorem dX12_evenings_11 : decode cX12_evenings 11 = .ok (.iload_n 1, 1) := by decide +kernel
theorem dX12_evenings_12 : decode cX12_evenings 12 = .ok (.sipush 300, 3) := by decide +kernel
theorem dX12_evenings_15 : decode cX12_evenings 15 = .ok (.invokevirtual 304, 3) := by decide +kernel
theorem dX12_evenings_18 : decode cX12_evenings 18 = .ok (.ifCond .ne 5, 3) := by decide +kernel
theorem dX12_evenings_21 : decode cX12_evenings 21 = .ok (.iconst (-1), 1) := by decide +kernel
theorem dX12_evenings_22 : decode cX12_evenings 22 = .ok (.ireturn, 1) := by decide +kernel
theorem dX12_evenings_23 : decode cX12_evenings 23 = .ok (.aload_n 0, 1) := by decide +kernel
theorem dX12_evenings_24 : decode cX12_evenings 24 = .ok (.iconst 0, 1) := by decide +kernel
theorem dX12_evenings_25 : decode cX12_evenings 25 = .ok (.putfield 328, 3) := by decide +kernel
theorem dX12_evenings_28 : decode cX12_evenings 28 = .ok (.aload_n 0, 1) := by decide +kernel
theorem dX12_evenings_29 : decode cX12_evenings 29 = .ok (.getfield 225, 3) := by decide +kernel
theorem dX12_evenings_32 : decode cX12_evenings 32 = .ok (.ifCond .ne 18, 3) := by decide +kernel
theorem dX12_evenings_35 : decode cX12_evenings 35 = .ok (.aload_n 0, 1) := by decide +kernel
theorem dX12_evenings_36 : decode cX12_evenings 36 = .ok (.getfield 124, 3) := by decide +kernel
theorem dX12_evenings_39 : decode cX12_evenings 39 = .ok (.ifCond .eq 11, 3) := by decide +kernel
theorem dX12_evenings_42 : decode cX12_evenings 42 = .ok (.aload_n 0, 1) := by decide +kernel
theorem dX12_evenings_43 : decode cX12_evenings 43 = .ok (.iconst 0, 1) := by decide +kernel
theorem dX12_evenings_44 : decode cX12_evenings 44 = .ok (.invokevirtual 334, 3) := by decide +kernel
theorem dX12_evenings_47 : decode cX12_evenings 47 = .ok (.goto (-19), 3) := by decide +kernel
theorem dX12_evenings_50 : decode cX12_evenings 50 = .ok (.aload_n 0, 1) := by decide +kernel
theorem dX12_evenings_51 : decode cX12_evenings 51 = .ok (.invokevirtual 313, 3) := by decide +kernel
theorem dX12_evenings_54 : decode cX12_evenings 54 = .ok (.ifCond .ne 5, 3) := by decide +kernel
theorem dX12_evenings_57 : decode cX12_evenings 57 = .ok (.iconst (-1), 1) := by decide +kernel
theorem dX12_evenings_58 : decode cX12_evenings 58 = .ok (.ireturn, 1) := by decide +kernel
theorem dX12_evenings_59 : decode cX12_evenings 59 = .ok (.aload_n 0, 1) := by decide +kernel
theorem dX12_evenings_60 : decode cX12_evenings 60 = .ok (.getfield 35, 3) := by decide +kernel
theorem dX12_evenings_63 : decode cX12_evenings 63 = .ok (.sipush 136, 3) := by decide +kernel
theorem dX12_evenings_66 : decode cX12_evenings 66 = .ok (.iconst 1, 1) := by decide +kernel
theorem dX12_evenings_67 : decode cX12_evenings 67 = .ok (.iastore, 1) := by decide +kernel
theorem dX12_evenings_68 : decode cX12_evenings 68 = .ok (.aload_n 0, 1) := by decide +kernel
theorem dX12_evenings_69 : decode cX12_evenings 69 = .ok (.getfield 35, 3) := by decide +kernel
theorem dX12_evenings_72 : decode cX12_evenings 72 = .ok (.sipush 137, 3) := by decide +kernel
theorem dX12_evenings_75 : decode cX12_evenings 75 = .ok (.aload_n 0, 1) := by decide +kernel
theorem dX12_evenings_76 : decode cX12_evenings 76 = .ok (.getfield 328, 3) := by decide +kernel
theorem dX12_evenings_79 : decode cX12_evenings 79 = .ok (.iastore, 1) := by decide +kernel
theorem dX12_evenings_80 : decode cX12_evenings 80 = .ok (.iconst 0, 1) := by decide +kernel
theorem dX12_evenings_81 : decode cX12_evenings 81 = .ok (.istore_n 2, 1) := by decide +kernel
theorem dX12_evenings_82 : decode cX12_evenings 82 = .ok (.iload_n 2, 1) := by decide +kernel
theorem dX12_evenings_83 : decode cX12_evenings 83 = .ok (.bipush 9, 2) := by decide +kernel
theorem dX12_evenings_85 : decode cX12_evenings 85 = .ok (.aload_n 0, 1) := by decide +kernel
theorem dX12_evenings_86 : decode cX12_evenings 86 = .ok (.getfield 328, 3) := by decide +kernel
theorem dX12_evenings_89 : decode cX12_evenings 89 = .ok (.imul, 1) := by decide +kernel
theorem dX12_evenings_90 : decode cX12_evenings 90 = .ok (.if_icmp .ge 29, 3) := by decide +kernel
theorem dX12_evenings_93 : decode cX12_evenings 93 = .ok (.aload_n 0, 1) := by decide +kernel
theorem dX12_evenings_94 : decode cX12_evenings 94 = .ok (.getfield 35, 3) := by decide +kernel
theorem dX12_evenings_97 : decode cX12_evenings 97 = .ok (.sipush 138, 3) := by decide +kernel
theorem dX12_evenings_100 : decode cX12_evenings 100 = .ok (.iload_n 2, 1) := by decide +kernel
theorem dX12_evenings_101 : decode cX12_evenings 101 = .ok (.iadd, 1) := by decide +kernel
theorem dX12_evenings_102 : decode cX12_evenings 102 = .ok (.aload_n 0, 1) := by decide +kernel
theorem dX12_evenings_103 : decode cX12_evenings 103 = .ok (.getfield 35, 3) := by decide +kernel
theorem dX12_evenings_106 : decode cX12_evenings 106 = .ok (.sipush 1770, 3) := by decide +kernel
theorem dX12_evenings_109 : decode cX12_evenings 109 = .ok (.iload_n 2, 1) := by decide +kernel
theorem dX12_evenings_110 : decode cX12_evenings 110 = .ok (.iadd, 1) := by decide +kernel
theorem dX12_evenings_111 : decode cX12_evenings 111 = .ok (.iaload, 1) := by decide +kernel
theorem dX12_evenings_112 : decode cX12_evenings 112 = .ok (.iastore, 1) := by decide +kernel
theorem dX12_evenings_113 : decode cX12_evenings 113 = .ok (.iinc 2 1, 3) := by decide +kernel
theorem dX12_evenings_116 : decode cX12_evenings 116 = .ok (.goto (-34), 3) := by decide +kernel
theorem dX12_evenings_119 : decode cX12_evenings 119 = .ok (.aload_n 0, 1) := by decide +kernel
theorem dX12_evenings_120 : decode cX12_evenings 120 = .ok (.getfield 328, 3) := by decide +kernel
theorem dX12_evenings_123 : decode cX12_evenings 123 = .ok (.ireturn, 1) := by decide +kernel
theorem dX12_isField_0 : decode cX12_isField 0 = .ok (.iload_n 1, 1) := by decide +kernel
theorem dX12_isField_1 : decode cX12_isField 1 = .ok (.i2l, 1) := by decide +kernel
theorem dX12_isField_2 : decode cX12_isField 2 = .ok (.lconst 0, 1) := by decide +kernel
theorem dX12_isField_3 : decode cX12_isField 3 = .ok (.aload_n 0, 1) := by decide +kernel
theorem dX12_isField_4 : decode cX12_isField 4 = .ok (.getfield 35, 3) := by decide +kernel
theorem dX12_isField_7 : decode cX12_isField 7 = .ok (.iconst 0, 1) := by decide +kernel
theorem dX12_isField_8 : decode cX12_isField 8 = .ok (.iaload, 1) := by decide +kernel
theorem dX12_isField_9 : decode cX12_isField 9 = .ok (.iconst 1, 1) := by decide +kernel
theorem dX12_isField_10 : decode cX12_isField 10 = .ok (.isub, 1) := by decide +kernel
theorem dX12_isField_11 : decode cX12_isField 11 = .ok (.i2l, 1) := by decide +kernel
theorem dX12_isField_12 : decode cX12_isField 12 = .ok (.invokestatic 104, 3) := by decide +kernel
theorem dX12_isField_15 : decode cX12_isField 15 = .ok (.ifCond .eq 25, 3) := by decide +kernel
theorem dX12_isField_18 : decode cX12_isField 18 = .ok (.iload_n 2, 1) := by decide +kernel
theorem dX12_isField_19 : decode cX12_isField 19 = .ok (.i2l, 1) := by decide +kernel
theorem dX12_isField_20 : decode cX12_isField 20 = .ok (.lconst 0, 1) := by decide +kernel
theorem dX12_isField_21 : decode cX12_isField 21 = .ok (.aload_n 0, 1) := by decide +kernel
theorem dX12_isField_22 : decode cX12_isField 22 = .ok (.getfield 35, 3) := by decide +kernel
theorem dX12_isField_25 : decode cX12_isField 25 = .ok (.iconst 1, 1) := by decide +kernel
theorem dX12_isField_26 : decode cX12_isField 26 = .ok (.iaload, 1) := by decide +kernel
theorem dX12_isField_27 : decode cX12_isField 27 = .ok (.iconst 1, 1) := by decide +kernel
theorem dX12_isField_28 : decode cX12_isField 28 = .ok (.isub, 1) := by decide +kernel
theorem dX12_isField_29 : decode cX12_isField 29 = .ok (.i2l, 1) := by decide +kernel
theorem dX12_isField_30 : decode cX12_isField 30 = .ok (.invokestatic 104, 3) := by decide +kernel
theorem dX12_isField_33 : decode cX12_isField 33 = .ok (.ifCond .eq 7, 3) := by decide +kernel
theorem dX12_isField_36 : decode cX12_isField 36 = .ok (.iconst 1, 1) := by decide +kernel
theorem dX12_isField_37 : decode cX12_isField 37 = .ok (.goto 4, 3) := by decide +kernel
theorem dX12_isField_40 : decode cX12_isField 40 = .ok (.iconst 0, 1) := by decide +kernel
theorem dX12_isField_41 : decode cX12_isField 41 = .ok (.ireturn, 1) := by decide +kernel
theorem dX12_isTuneAt_0 : decode cX12_isTuneAt 0 = .ok (.iload_n 1, 1) := by decide +kernel
theorem dX12_isTuneAt_1 : decode cX12_isTuneAt 1 = .ok (.i2l, 1) := by decide +kernel
theorem dX12_isTuneAt_2 : decode cX12_isTuneAt 2 = .ok (.lconst 0, 1) := by decide +kernel
theorem dX12_isTuneAt_3 : decode cX12_isTuneAt 3 = .ok (.aload_n 0, 1) := by decide +kernel
theorem dX12_isTuneAt_4 : decode cX12_isTuneAt 4 = .ok (.getfield 35, 3) := by decide +kernel
theorem dX12_isTuneAt_7 : decode cX12_isTuneAt 7 = .ok (.iconst 2, 1) := by decide +kernel
theorem dX12_isTuneAt_8 : decode cX12_isTuneAt 8 = .ok (.iaload, 1) := by decide +kernel
theorem dX12_isTuneAt_9 : decode cX12_isTuneAt 9 = .ok (.iconst 1, 1) := by decide +kernel
theorem dX12_isTuneAt_10 : decode cX12_isTuneAt 10 = .ok (.isub, 1) := by decide +kernel
theorem dX12_isTuneAt_11 : decode cX12_isTuneAt 11 = .ok (.i2l, 1) := by decide +kernel
theorem dX12_isTuneAt_12 : decode cX12_isTuneAt 12 = .ok (.invokestatic 104, 3) := by decide +kernel
theorem dX12_isTuneAt_15 : decode cX12_isTuneAt 15 = .ok (.ireturn, 1) := by decide +kernel
theorem dX12_isBandAt_0 : decode cX12_isBandAt 0 = .ok (.iload_n 1, 1) := by decide +kernel
theorem dX12_isBandAt_1 : decode cX12_isBandAt 1 = .ok (.i2l, 1) := by decide +kernel
theorem dX12_isBandAt_2 : decode cX12_isBandAt 2 = .ok (.lconst 0, 1) := by decide +kernel
theorem dX12_isBandAt_3 : decode cX12_isBandAt 3 = .ok (.aload_n 0, 1) := by decide +kernel
theorem dX12_isBandAt_4 : decode cX12_isBandAt 4 = .ok (.getfield 35, 3) := by decide +kernel
theorem dX12_isBandAt_7 : decode cX12_isBandAt 7 = .ok (.iconst 3, 1) := by decide +kernel
theorem dX12_isBandAt_8 : decode cX12_isBandAt 8 = .ok (.iaload, 1) := by decide +kernel
theorem dX12_isBandAt_9 : decode cX12_isBandAt 9 = .ok (.iconst 1, 1) := by decide +kernel
theorem dX12_isBandAt_10 : decode cX12_isBandAt 10 = .ok (.isub, 1) := by decide +kernel
theorem dX12_isBandAt_11 : decode cX12_isBandAt 11 = .ok (.i2l, 1) := by decide +kernel
theorem dX12_isBandAt_12 : decode cX12_isBandAt 12 = .ok (.invokestatic 104, 3) := by decide +kernel
theorem dX12_isBandAt_15 : decode cX12_isBandAt 15 = .ok (.ireturn, 1) := by decide +kernel
theorem dX12_isPondAt_0 : decode cX12_isPondAt 0 = .ok (.aload_n 0, 1) := by decide +kernel
theorem dX12_isPondAt_1 : decode cX12_isPondAt 1 = .ok (.getfield 35, 3) := by decide +kernel
theorem dX12_isPondAt_4 : decode cX12_isPondAt 4 = .ok (.bipush 106, 2) := by decide +kernel
theorem dX12_isPondAt_6 : decode cX12_isPondAt 6 = .ok (.bipush 6, 2) := by decide +kernel
theorem dX12_isPondAt_8 : decode cX12_isPondAt 8 = .ok (.iload_n 2, 1) := by decide +kernel
theorem dX12_isPondAt_9 : decode cX12_isPondAt 9 = .ok (.imul, 1) := by decide +kernel
theorem dX12_isPondAt_10 : decode cX12_isPondAt 10 = .ok (.iadd, 1) := by decide +kernel
theorem dX12_isPondAt_11 : decode cX12_isPondAt 11 = .ok (.iload_n 1, 1) := by decide +kernel
theorem dX12_isPondAt_12 : decode cX12_isPondAt 12 = .ok (.iadd, 1) := by decide +kernel
theorem dX12_isPondAt_13 : decode cX12_isPondAt 13 = .ok (.iaload, 1) := by decide +kernel
theorem dX12_isPondAt_14 : decode cX12_isPondAt 14 = .ok (.iconst 1, 1) := by decide +kernel
theorem dX12_isPondAt_15 : decode cX12_isPondAt 15 = .ok (.if_icmp .ne 7, 3) := by decide +kernel
theorem dX12_isPondAt_18 : decode cX12_isPondAt 18 = .ok (.iconst 1, 1) := by decide +kernel
theorem dX12_isPondAt_19 : decode cX12_isPondAt 19 = .ok (.goto 4, 3) := by decide +kernel
theorem dX12_isPondAt_22 : decode cX12_isPondAt 22 = .ok (.iconst 0, 1) := by decide +kernel
theorem dX12_isPondAt_23 : decode cX12_isPondAt 23 = .ok (.ireturn, 1) := by decide +kernel
theorem dX12_wanted_0 : decode cX12_wanted 0 = .ok (.aload_n 0, 1) := by decide +kernel
theorem dX12_wanted_1 : decode cX12_wanted 1 = .ok (.getfield 35, 3) := by decide +kernel
theorem dX12_wanted_4 : decode cX12_wanted 4 = .ok (.bipush 64, 2) := by decide +kernel
theorem dX12_wanted_6 : decode cX12_wanted 6 = .ok (.iload_n 1, 1) := by decide +kernel
theorem dX12_wanted_7 : decode cX12_wanted 7 = .ok (.iadd, 1) := by decide +kernel
theorem dX12_wanted_8 : decode cX12_wanted 8 = .ok (.iaload, 1) := by decide +kernel
theorem dX12_wanted_9 : decode cX12_wanted 9 = .ok (.ifCond .ne 8, 3) := by decide +kernel
theorem dX12_wanted_12 : decode cX12_wanted 12 = .ok (.bipush 6, 2) := by decide +kernel
theorem dX12_wanted_14 : decode cX12_wanted 14 = .ok (.goto 27, 3) := by decide +kernel
theorem dX12_wanted_17 : decode cX12_wanted 17 = .ok (.aload_n 0, 1) := by decide +kernel
theorem dX12_wanted_18 : decode cX12_wanted 18 = .ok (.getfield 35, 3) := by decide +kernel
theorem dX12_wanted_21 : decode cX12_wanted 21 = .ok (.bipush 70, 2) := by decide +kernel
theorem dX12_wanted_23 : decode cX12_wanted 23 = .ok (.bipush 6, 2) := by decide +kernel
theorem dX12_wanted_25 : decode cX12_wanted 25 = .ok (.iload_n 1, 1) := by decide +kernel
theorem dX12_wanted_26 : decode cX12_wanted 26 = .ok (.imul, 1) := by decide +kernel
theorem dX12_wanted_27 : decode cX12_wanted 27 = .ok (.iadd, 1) := by decide +kernel
theorem dX12_wanted_28 : decode cX12_wanted 28 = .ok (.iload_n 2, 1) := by decide +kernel
theorem dX12_wanted_29 : decode cX12_wanted 29 = .ok (.aload_n 0, 1) := by decide +kernel
theorem dX12_wanted_30 : decode cX12_wanted 30 = .ok (.getfield 35, 3) := by decide +kernel
theorem dX12_wanted_33 : decode cX12_wanted 33 = .ok (.bipush 64, 2) := by decide +kernel
theorem dX12_wanted_35 : decode cX12_wanted 35 = .ok (.iload_n 1, 1) := by decide +kernel
theorem dX12_wanted_36 : decode cX12_wanted 36 = .ok (.iadd, 1) := by decide +kernel
theorem dX12_wanted_37 : decode cX12_wanted 37 = .ok (.iaload, 1) := by decide +kernel
theorem dX12_wanted_38 : decode cX12_wanted 38 = .ok (.irem, 1) := by decide +kernel
theorem dX12_wanted_39 : decode cX12_wanted 39 = .ok (.iadd, 1) := by decide +kernel
theorem dX12_wanted_40 : decode cX12_wanted 40 = .ok (.iaload, 1) := by decide +kernel
theorem dX12_wanted_41 : decode cX12_wanted 41 = .ok (.ireturn, 1) := by decide +kernel
theorem dX12_played_0 : decode cX12_played 0 = .ok (.iload_n 2, 1) := by decide +kernel
theorem dX12_played_1 : decode cX12_played 1 = .ok (.bipush 6, 2) := by decide +kernel
theorem dX12_played_3 : decode cX12_played 3 = .ok (.if_icmp .ge 28, 3) := by decide +kernel
theorem dX12_played_6 : decode cX12_played 6 = .ok (.aload_n 0, 1) := by decide +kernel
theorem dX12_played_7 : decode cX12_played 7 = .ok (.getfield 35, 3) := by decide +kernel
theorem dX12_played_10 : decode cX12_played 10 = .ok (.bipush 46, 2) := by decide +kernel
theorem dX12_played_12 : decode cX12_played 12 = .ok (.iload_n 1, 1) := by decide +kernel
theorem dX12_played_13 : decode cX12_played 13 = .ok (.iadd, 1) := by decide +kernel
theorem dX12_played_14 : decode cX12_played 14 = .ok (.iaload, 1) := by decide +kernel
theorem dX12_played_15 : decode cX12_played 15 = .ok (.aload_n 0, 1) := by decide +kernel
theorem dX12_played_16 : decode cX12_played 16 = .ok (.getfield 35, 3) := by decide +kernel
theorem dX12_played_19 : decode cX12_played 19 = .ok (.bipush 16, 2) := by decide +kernel
theorem dX12_played_21 : decode cX12_played 21 = .ok (.iload_n 2, 1) := by decide +kernel
theorem dX12_played_22 : decode cX12_played 22 = .ok (.iadd, 1) := by decide +kernel
theorem dX12_played_23 : decode cX12_played 23 = .ok (.iaload, 1) := by decide +kernel
theorem dX12_played_24 : decode cX12_played 24 = .ok (.if_icmp .lt 7, 3) := by decide +kernel
theorem dX12_played_27 : decode cX12_played 27 = .ok (.iload_n 2, 1) := by decide +kernel
theorem dX12_played_28 : decode cX12_played 28 = .ok (.goto 5, 3) := by decide +kernel
theorem dX12_played_31 : decode cX12_played 31 = .ok (.bipush 6, 2) := by decide +kernel
theorem dX12_played_33 : decode cX12_played 33 = .ok (.ireturn, 1) := by decide +kernel
theorem dX12_laysNow_0 : decode cX12_laysNow 0 = .ok (.aload_n 0, 1) := by decide +kernel
theorem dX12_laysNow_1 : decode cX12_laysNow 1 = .ok (.iconst 0, 1) := by decide +kernel
theorem dX12_laysNow_2 : decode cX12_laysNow 2 = .ok (.putfield 337, 3) := by decide +kernel
theorem dX12_laysNow_5 : decode cX12_laysNow 5 = .ok (.iconst 0, 1) := by decide +kernel
theorem dX12_laysNow_6 : decode cX12_laysNow 6 = .ok (.istore_n 1, 1) := by decide +kernel
theorem dX12_laysNow_7 : decode cX12_laysNow 7 = .ok (.iload_n 1, 1) := by decide +kernel
theorem dX12_laysNow_8 : decode cX12_laysNow 8 = .ok (.aload_n 0, 1) := by decide +kernel
theorem dX12_laysNow_9 : decode cX12_laysNow 9 = .ok (.getfield 35, 3) := by decide +kernel
theorem dX12_laysNow_12 : decode cX12_laysNow 12 = .ok (.iconst 3, 1) := by decide +kernel
theorem dX12_laysNow_13 : decode cX12_laysNow 13 = .ok (.iaload, 1) := by decide +kernel
theorem dX12_laysNow_14 : decode cX12_laysNow 14 = .ok (.if_icmp .ge 67, 3) := by decide +kernel
theorem dX12_laysNow_17 : decode cX12_laysNow 17 = .ok (.aload_n 0, 1) := by decide +kernel
theorem dX12_laysNow_18 : decode cX12_laysNow 18 = .ok (.iload_n 1, 1) := by decide +kernel
theorem dX12_laysNow_19 : decode cX12_laysNow 19 = .ok (.aload_n 0, 1) := by decide +kernel
theorem dX12_laysNow_20 : decode cX12_laysNow 20 = .ok (.getfield 35, 3) := by decide +kernel
theorem dX12_laysNow_23 : decode cX12_laysNow 23 = .ok (.bipush 7, 2) := by decide +kernel
theorem dX12_laysNow_25 : decode cX12_laysNow 25 = .ok (.iaload, 1) := by decide +kernel
theorem dX12_laysNow_26 : decode cX12_laysNow 26 = .ok (.invokevirtual 340, 3) := by decide +kernel
theorem dX12_laysNow_29 : decode cX12_laysNow 29 = .ok (.istore_n 2, 1) := by decide +kernel
theorem dX12_laysNow_30 : decode cX12_laysNow 30 = .ok (.aload_n 0, 1) := by decide +kernel
theorem dX12_laysNow_31 : decode cX12_laysNow 31 = .ok (.getfield 47, 3) := by decide +kernel
theorem dX12_laysNow_34 : decode cX12_laysNow 34 = .ok (.iload_n 1, 1) := by decide +kernel
theorem dX12_laysNow_35 : decode cX12_laysNow 35 = .ok (.aload_n 0, 1) := by decide +kernel
theorem dX12_laysNow_36 : decode cX12_laysNow 36 = .ok (.iload_n 1, 1) := by decide +kernel
theorem dX12_laysNow_37 : decode cX12_laysNow 37 = .ok (.iload_n 2, 1) := by decide +kernel
theorem dX12_laysNow_38 : decode cX12_laysNow 38 = .ok (.invokevirtual 343, 3) := by decide +kernel
theorem dX12_laysNow_41 : decode cX12_laysNow 41 = .ok (.iastore, 1) := by decide +kernel
theorem dX12_laysNow_42 : decode cX12_laysNow 42 = .ok (.aload_n 0, 1) := by decide +kernel
theorem dX12_laysNow_43 : decode cX12_laysNow 43 = .ok (.dup, 1) := by decide +kernel
theorem dX12_laysNow_44 : decode cX12_laysNow 44 = .ok (.getfield 337, 3) := by decide +kernel
theorem dX12_laysNow_47 : decode cX12_laysNow 47 = .ok (.iload_n 2, 1) := by decide +kernel
theorem dX12_laysNow_48 : decode cX12_laysNow 48 = .ok (.bipush 6, 2) := by decide +kernel
theorem dX12_laysNow_50 : decode cX12_laysNow 50 = .ok (.if_icmp .ge 20, 3) := by decide +kernel
theorem dX12_laysNow_53 : decode cX12_laysNow 53 = .ok (.aload_n 0, 1) := by decide +kernel
theorem dX12_laysNow_54 : decode cX12_laysNow 54 = .ok (.getfield 47, 3) := by decide +kernel
theorem dX12_laysNow_57 : decode cX12_laysNow 57 = .ok (.iload_n 1, 1) := by decide +kernel
theorem dX12_laysNow_58 : decode cX12_laysNow 58 = .ok (.iaload, 1) := by decide +kernel
theorem dX12_laysNow_59 : decode cX12_laysNow 59 = .ok (.bipush 6, 2) := by decide +kernel
theorem dX12_laysNow_61 : decode cX12_laysNow 61 = .ok (.if_icmp .ne 9, 3) := by decide +kernel
theorem dX12_laysNow_64 : decode cX12_laysNow 64 = .ok (.iconst 1, 1) := by decide +kernel
theorem dX12_laysNow_65 : decode cX12_laysNow 65 = .ok (.iload_n 1, 1) := by decide +kernel
theorem dX12_laysNow_66 : decode cX12_laysNow 66 = .ok (.ishl, 1) := by decide +kernel
theorem dX12_laysNow_67 : decode cX12_laysNow 67 = .ok (.goto 4, 3) := by decide +kernel
theorem dX12_laysNow_70 : decode cX12_laysNow 70 = .ok (.iconst 0, 1) := by decide +kernel
theorem dX12_laysNow_71 : decode cX12_laysNow 71 = .ok (.ior, 1) := by decide +kernel
theorem dX12_laysNow_72 : decode cX12_laysNow 72 = .ok (.putfield 337, 3) := by decide +kernel
theorem dX12_laysNow_75 : decode cX12_laysNow 75 = .ok (.iinc 1 1, 3) := by decide +kernel
theorem dX12_laysNow_78 : decode cX12_laysNow 78 = .ok (.goto (-71), 3) := by decide +kernel
theorem dX12_laysNow_81 : decode cX12_laysNow 81 = .ok (.return_, 1) := by decide +kernel
theorem dX12_faded_0 : decode cX12_faded 0 = .ok (.aload_n 0, 1) := by decide +kernel
theorem dX12_faded_1 : decode cX12_faded 1 = .ok (.getfield 35, 3) := by decide +kernel
theorem dX12_faded_4 : decode cX12_faded 4 = .ok (.bipush 8, 2) := by decide +kernel
theorem dX12_faded_6 : decode cX12_faded 6 = .ok (.iaload, 1) := by decide +kernel
theorem dX12_faded_7 : decode cX12_faded 7 = .ok (.iconst 4, 1) := by decide +kernel
theorem dX12_faded_8 : decode cX12_faded 8 = .ok (.if_icmp .ne 12, 3) := by decide +kernel
theorem dX12_faded_11 : decode cX12_faded 11 = .ok (.iload_n 1, 1) := by decide +kernel
theorem dX12_faded_12 : decode cX12_faded 12 = .ok (.aload_n 0, 1) := by decide +kernel
theorem dX12_faded_13 : decode cX12_faded 13 = .ok (.getfield 35, 3) := by decide +kernel
theorem dX12_faded_16 : decode cX12_faded 16 = .ok (.iconst 4, 1) := by decide +kernel
theorem dX12_faded_17 : decode cX12_faded 17 = .ok (.iaload, 1) := by decide +kernel
theorem dX12_faded_18 : decode cX12_faded 18 = .ok (.imul, 1) := by decide +kernel
theorem dX12_faded_19 : decode cX12_faded 19 = .ok (.ireturn, 1) := by decide +kernel
theorem dX12_faded_20 : decode cX12_faded 20 = .ok (.aload_n 0, 1) := by decide +kernel
theorem dX12_faded_21 : decode cX12_faded 21 = .ok (.getfield 35, 3) := by decide +kernel
theorem dX12_faded_24 : decode cX12_faded 24 = .ok (.bipush 8, 2) := by decide +kernel
theorem dX12_faded_26 : decode cX12_faded 26 = .ok (.iaload, 1) := by decide +kernel
theorem dX12_faded_27 : decode cX12_faded 27 = .ok (.iload_n 2, 1) := by decide +kernel
theorem dX12_faded_28 : decode cX12_faded 28 = .ok (.if_icmp .ne 18, 3) := by decide +kernel
theorem dX12_faded_31 : decode cX12_faded 31 = .ok (.iload_n 1, 1) := by decide +kernel
theorem dX12_faded_32 : decode cX12_faded 32 = .ok (.iconst 0, 1) := by decide +kernel
theorem dX12_faded_33 : decode cX12_faded 33 = .ok (.aload_n 0, 1) := by decide +kernel
theorem dX12_faded_34 : decode cX12_faded 34 = .ok (.getfield 35, 3) := by decide +kernel
theorem dX12_faded_37 : decode cX12_faded 37 = .ok (.iconst 4, 1) := by decide +kernel
theorem dX12_faded_38 : decode cX12_faded 38 = .ok (.iaload, 1) := by decide +kernel
theorem dX12_faded_39 : decode cX12_faded 39 = .ok (.iconst 1, 1) := by decide +kernel
theorem dX12_faded_40 : decode cX12_faded 40 = .ok (.isub, 1) := by decide +kernel
theorem dX12_faded_41 : decode cX12_faded 41 = .ok (.invokestatic 260, 3) := by decide +kernel
theorem dX12_faded_44 : decode cX12_faded 44 = .ok (.imul, 1) := by decide +kernel
theorem dX12_faded_45 : decode cX12_faded 45 = .ok (.ireturn, 1) := by decide +kernel
theorem dX12_faded_46 : decode cX12_faded 46 = .ok (.iload_n 1, 1) := by decide +kernel
theorem dX12_faded_47 : decode cX12_faded 47 = .ok (.aload_n 0, 1) := by decide +kernel
theorem dX12_faded_48 : decode cX12_faded 48 = .ok (.getfield 35, 3) := by decide +kernel
theorem dX12_faded_51 : decode cX12_faded 51 = .ok (.bipush 8, 2) := by decide +kernel
theorem dX12_faded_53 : decode cX12_faded 53 = .ok (.iaload, 1) := by decide +kernel
theorem dX12_faded_54 : decode cX12_faded 54 = .ok (.iload_n 2, 1) := by decide +kernel
theorem dX12_faded_55 : decode cX12_faded 55 = .ok (.iconst 2, 1) := by decide +kernel
theorem dX12_faded_56 : decode cX12_faded 56 = .ok (.iadd, 1) := by decide +kernel
theorem dX12_faded_57 : decode cX12_faded 57 = .ok (.iconst 4, 1) := by decide +kernel
theorem dX12_faded_58 : decode cX12_faded 58 = .ok (.irem, 1) := by decide +kernel
theorem dX12_faded_59 : decode cX12_faded 59 = .ok (.if_icmp .ne 14, 3) := by decide +kernel
theorem dX12_faded_62 : decode cX12_faded 62 = .ok (.aload_n 0, 1) := by decide +kernel
theorem dX12_faded_63 : decode cX12_faded 63 = .ok (.getfield 35, 3) := by decide +kernel
theorem dX12_faded_66 : decode cX12_faded 66 = .ok (.iconst 4, 1) := by decide +kernel
theorem dX12_faded_67 : decode cX12_faded 67 = .ok (.iaload, 1) := by decide +kernel
theorem dX12_faded_68 : decode cX12_faded 68 = .ok (.iconst 1, 1) := by decide +kernel
theorem dX12_faded_69 : decode cX12_faded 69 = .ok (.iadd, 1) := by decide +kernel
theorem dX12_faded_70 : decode cX12_faded 70 = .ok (.goto 9, 3) := by decide +kernel
theorem dX12_faded_73 : decode cX12_faded 73 = .ok (.aload_n 0, 1) := by decide +kernel
theorem dX12_faded_74 : decode cX12_faded 74 = .ok (.getfield 35, 3) := by decide +kernel
theorem dX12_faded_77 : decode cX12_faded 77 = .ok (.iconst 4, 1) := by decide +kernel
theorem dX12_faded_78 : decode cX12_faded 78 = .ok (.iaload, 1) := by decide +kernel
theorem dX12_faded_79 : decode cX12_faded 79 = .ok (.imul, 1) := by decide +kernel
theorem dX12_faded_80 : decode cX12_faded 80 = .ok (.ireturn, 1) := by decide +kernel
theorem dX12_heardOf_0 : decode cX12_heardOf 0 = .ok (.iload_n 2, 1) := by decide +kernel
theorem dX12_heardOf_1 : decode cX12_heardOf 1 = .ok (.bipush 6, 2) := by decide +kernel
theorem dX12_heardOf_3 : decode cX12_heardOf 3 = .ok (.if_icmp .ne 5, 3) := by decide +kernel
theorem dX12_heardOf_6 : decode cX12_heardOf 6 = .ok (.iconst 0, 1) := by decide +kernel
theorem dX12_heardOf_7 : decode cX12_heardOf 7 = .ok (.ireturn, 1) := by decide +kernel
theorem dX12_heardOf_8 : decode cX12_heardOf 8 = .ok (.iload_n 3, 1) := by decide +kernel
theorem dX12_heardOf_9 : decode cX12_heardOf 9 = .ok (.aload_n 0, 1) := by decide +kernel
theorem dX12_heardOf_10 : decode cX12_heardOf 10 = .ok (.getfield 35, 3) := by decide +kernel
theorem dX12_heardOf_13 : decode cX12_heardOf 13 = .ok (.bipush 28, 2) := by decide +kernel
theorem dX12_heardOf_15 : decode cX12_heardOf 15 = .ok (.iload_n 1, 1) := by decide +kernel
theorem dX12_heardOf_16 : decode cX12_heardOf 16 = .ok (.iadd, 1) := by decide +kernel
theorem dX12_heardOf_17 : decode cX12_heardOf 17 = .ok (.iaload, 1) := by decide +kernel
theorem dX12_heardOf_18 : decode cX12_heardOf 18 = .ok (.isub, 1) := by decide +kernel
theorem dX12_heardOf_19 : decode cX12_heardOf 19 = .ok (.istore 5, 2) := by decide +kernel
theorem dX12_heardOf_21 : decode cX12_heardOf 21 = .ok (.iload 4, 2) := by decide +kernel
theorem dX12_heardOf_23 : decode cX12_heardOf 23 = .ok (.aload_n 0, 1) := by decide +kernel
theorem dX12_heardOf_24 : decode cX12_heardOf 24 = .ok (.getfield 35, 3) := by decide +kernel
theorem dX12_heardOf_27 : decode cX12_heardOf 27 = .ok (.bipush 34, 2) := by decide +kernel
theorem dX12_heardOf_29 : decode cX12_heardOf 29 = .ok (.iload_n 1, 1) := by decide +kernel
theorem dX12_heardOf_30 : decode cX12_heardOf 30 = .ok (.iadd, 1) := by decide +kernel
theorem dX12_heardOf_31 : decode cX12_heardOf 31 = .ok (.iaload, 1) := by decide +kernel
theorem dX12_heardOf_32 : decode cX12_heardOf 32 = .ok (.isub, 1) := by decide +kernel
theorem dX12_heardOf_33 : decode cX12_heardOf 33 = .ok (.istore 6, 2) := by decide +kernel
theorem dX12_heardOf_35 : decode cX12_heardOf 35 = .ok (.aload_n 0, 1) := by decide +kernel
theorem dX12_heardOf_36 : decode cX12_heardOf 36 = .ok (.getfield 35, 3) := by decide +kernel
theorem dX12_heardOf_39 : decode cX12_heardOf 39 = .ok (.bipush 40, 2) := by decide +kernel
theorem dX12_heardOf_41 : decode cX12_heardOf 41 = .ok (.iload_n 1, 1) := by decide +kernel
theorem dX12_heardOf_42 : decode cX12_heardOf 42 = .ok (.iadd, 1) := by decide +kernel
theorem dX12_heardOf_43 : decode cX12_heardOf 43 = .ok (.iaload, 1) := by decide +kernel
theorem dX12_heardOf_44 : decode cX12_heardOf 44 = .ok (.aload_n 0, 1) := by decide +kernel
theorem dX12_heardOf_45 : decode cX12_heardOf 45 = .ok (.getfield 35, 3) := by decide +kernel
theorem dX12_heardOf_48 : decode cX12_heardOf 48 = .ok (.bipush 10, 2) := by decide +kernel
theorem dX12_heardOf_50 : decode cX12_heardOf 50 = .ok (.iload_n 2, 1) := by decide +kernel
theorem dX12_heardOf_51 : decode cX12_heardOf 51 = .ok (.iadd, 1) := by decide +kernel
theorem dX12_heardOf_52 : decode cX12_heardOf 52 = .ok (.iaload, 1) := by decide +kernel
theorem dX12_heardOf_53 : decode cX12_heardOf 53 = .ok (.iadd, 1) := by decide +kernel
theorem dX12_heardOf_54 : decode cX12_heardOf 54 = .ok (.aload_n 0, 1) := by decide +kernel
theorem dX12_heardOf_55 : decode cX12_heardOf 55 = .ok (.iload 5, 2) := by decide +kernel
theorem dX12_heardOf_57 : decode cX12_heardOf 57 = .ok (.invokestatic 346, 3) := by decide +kernel
theorem dX12_heardOf_60 : decode cX12_heardOf 60 = .ok (.iload 5, 2) := by decide +kernel
theorem dX12_heardOf_62 : decode cX12_heardOf 62 = .ok (.ifCond .le 7, 3) := by decide +kernel
theorem dX12_heardOf_65 : decode cX12_heardOf 65 = .ok (.iconst 0, 1) := by decide +kernel
theorem dX12_heardOf_66 : decode cX12_heardOf 66 = .ok (.goto 4, 3) := by decide +kernel
theorem dX12_heardOf_69 : decode cX12_heardOf 69 = .ok (.iconst 2, 1) := by decide +kernel
theorem dX12_heardOf_70 : decode cX12_heardOf 70 = .ok (.invokevirtual 348, 3) := by decide +kernel
theorem dX12_heardOf_73 : decode cX12_heardOf 73 = .ok (.isub, 1) := by decide +kernel
theorem dX12_heardOf_74 : decode cX12_heardOf 74 = .ok (.aload_n 0, 1) := by decide +kernel
theorem dX12_heardOf_75 : decode cX12_heardOf 75 = .ok (.iload 6, 2) := by decide +kernel
theorem dX12_heardOf_77 : decode cX12_heardOf 77 = .ok (.invokestatic 346, 3) := by decide +kernel
theorem dX12_heardOf_80 : decode cX12_heardOf 80 = .ok (.iload 6, 2) := by decide +kernel
theorem dX12_heardOf_82 : decode cX12_heardOf 82 = .ok (.ifCond .le 7, 3) := by decide +kernel
theorem dX12_heardOf_85 : decode cX12_heardOf 85 = .ok (.iconst 1, 1) := by decide +kernel
theorem dX12_heardOf_86 : decode cX12_heardOf 86 = .ok (.goto 4, 3) := by decide +kernel
theorem dX12_heardOf_89 : decode cX12_heardOf 89 = .ok (.iconst 3, 1) := by decide +kernel
theorem dX12_heardOf_90 : decode cX12_heardOf 90 = .ok (.invokevirtual 348, 3) := by decide +kernel
theorem dX12_heardOf_93 : decode cX12_heardOf 93 = .ok (.isub, 1) := by decide +kernel
theorem dX12_heardOf_94 : decode cX12_heardOf 94 = .ok (.istore 7, 2) := by decide +kernel
theorem dX12_heardOf_96 : decode cX12_heardOf 96 = .ok (.iconst 0, 1) := by decide +kernel
theorem dX12_heardOf_97 : decode cX12_heardOf 97 = .ok (.iload 7, 2) := by decide +kernel
theorem dX12_heardOf_99 : decode cX12_heardOf 99 = .ok (.iconst 2, 1) := by decide +kernel
theorem dX12_heardOf_100 : decode cX12_heardOf 100 = .ok (.aload_n 0, 1) := by decide +kernel
theorem dX12_heardOf_101 : decode cX12_heardOf 101 = .ok (.getfield 35, 3) := by decide +kernel
theorem dX12_heardOf_104 : decode cX12_heardOf 104 = .ok (.bipush 9, 2) := by decide +kernel
theorem dX12_heardOf_106 : decode cX12_heardOf 106 = .ok (.iaload, 1) := by decide +kernel
theorem dX12_heardOf_107 : decode cX12_heardOf 107 = .ok (.imul, 1) := by decide +kernel
theorem dX12_heardOf_108 : decode cX12_heardOf 108 = .ok (.isub, 1) := by decide +kernel
theorem dX12_heardOf_109 : decode cX12_heardOf 109 = .ok (.invokestatic 260, 3) := by decide +kernel
theorem dX12_heardOf_112 : decode cX12_heardOf 112 = .ok (.ireturn, 1) := by decide +kernel
theorem dX12_laysNoise_0 : decode cX12_laysNoise 0 = .ok (.iconst 0, 1) := by decide +kernel
theorem dX12_laysNoise_1 : decode cX12_laysNoise 1 = .ok (.istore_n 3, 1) := by decide +kernel
theorem dX12_laysNoise_2 : decode cX12_laysNoise 2 = .ok (.iload_n 3, 1) := by decide +kernel
theorem dX12_laysNoise_3 : decode cX12_laysNoise 3 = .ok (.aload_n 0, 1) := by decide +kernel
theorem dX12_laysNoise_4 : decode cX12_laysNoise 4 = .ok (.getfield 35, 3) := by decide +kernel
theorem dX12_laysNoise_7 : decode cX12_laysNoise 7 = .ok (.iconst 3, 1) := by decide +kernel
theorem dX12_laysNoise_8 : decode cX12_laysNoise 8 = .ok (.iaload, 1) := by decide +kernel
theorem dX12_laysNoise_9 : decode cX12_laysNoise 9 = .ok (.if_icmp .ge 28, 3) := by decide +kernel
theorem dX12_laysNoise_12 : decode cX12_laysNoise 12 = .ok (.aload_n 0, 1) := by decide +kernel
theorem dX12_laysNoise_13 : decode cX12_laysNoise 13 = .ok (.getfield 50, 3) := by decide +kernel
theorem dX12_laysNoise_16 : decode cX12_laysNoise 16 = .ok (.iload_n 3, 1) := by decide +kernel
theorem dX12_laysNoise_17 : decode cX12_laysNoise 17 = .ok (.aload_n 0, 1) := by decide +kernel
theorem dX12_laysNoise_18 : decode cX12_laysNoise 18 = .ok (.iload_n 3, 1) := by decide +kernel
theorem dX12_laysNoise_19 : decode cX12_laysNoise 19 = .ok (.aload_n 0, 1) := by decide +kernel
theorem dX12_laysNoise_20 : decode cX12_laysNoise 20 = .ok (.getfield 47, 3) := by decide +kernel
theorem dX12_laysNoise_23 : decode cX12_laysNoise 23 = .ok (.iload_n 3, 1) := by decide +kernel
theorem dX12_laysNoise_24 : decode cX12_laysNoise 24 = .ok (.iaload, 1) := by decide +kernel
theorem dX12_laysNoise_25 : decode cX12_laysNoise 25 = .ok (.iload_n 1, 1) := by decide +kernel
theorem dX12_laysNoise_26 : decode cX12_laysNoise 26 = .ok (.iload_n 2, 1) := by decide +kernel
theorem dX12_laysNoise_27 : decode cX12_laysNoise 27 = .ok (.invokevirtual 351, 3) := by decide +kernel
theorem dX12_laysNoise_30 : decode cX12_laysNoise 30 = .ok (.iastore, 1) := by decide +kernel
theorem dX12_laysNoise_31 : decode cX12_laysNoise 31 = .ok (.iinc 3 1, 3) := by decide +kernel
theorem dX12_laysNoise_34 : decode cX12_laysNoise 34 = .ok (.goto (-32), 3) := by decide +kernel
theorem dX12_laysNoise_37 : decode cX12_laysNoise 37 = .ok (.return_, 1) := by decide +kernel
theorem dX12_holds_0 : decode cX12_holds 0 = .ok (.aload_n 0, 1) := by decide +kernel
theorem dX12_holds_1 : decode cX12_holds 1 = .ok (.iload_n 1, 1) := by decide +kernel
theorem dX12_holds_2 : decode cX12_holds 2 = .ok (.iload_n 2, 1) := by decide +kernel
theorem dX12_holds_3 : decode cX12_holds 3 = .ok (.invokevirtual 355, 3) := by decide +kernel
theorem dX12_holds_6 : decode cX12_holds 6 = .ok (.iconst (-1), 1) := by decide +kernel
theorem dX12_holds_7 : decode cX12_holds 7 = .ok (.istore_n 3, 1) := by decide +kernel
theorem dX12_holds_8 : decode cX12_holds 8 = .ok (.iconst 0, 1) := by decide +kernel
theorem dX12_holds_9 : decode cX12_holds 9 = .ok (.istore 4, 2) := by decide +kernel
theorem dX12_holds_11 : decode cX12_holds 11 = .ok (.iconst 0, 1) := by decide +kernel
theorem dX12_holds_12 : decode cX12_holds 12 = .ok (.istore 5, 2) := by decide +kernel
theorem dX12_holds_14 : decode cX12_holds 14 = .ok (.iload 5, 2) := by decide +kernel
theorem dX12_holds_16 : decode cX12_holds 16 = .ok (.aload_n 0, 1) := by decide +kernel
theorem dX12_holds_17 : decode cX12_holds 17 = .ok (.getfield 35, 3) := by decide +kernel
theorem dX12_holds_20 : decode cX12_holds 20 = .ok (.iconst 3, 1) := by decide +kernel
theorem dX12_holds_21 : decode cX12_holds 21 = .ok (.iaload, 1) := by decide +kernel
theorem dX12_holds_22 : decode cX12_holds 22 = .ok (.if_icmp .ge 81, 3) := by decide +kernel
theorem dX12_holds_25 : decode cX12_holds 25 = .ok (.aload_n 0, 1) := by decide +kernel
theorem dX12_holds_26 : decode cX12_holds 26 = .ok (.getfield 50, 3) := by decide +kernel
theorem dX12_holds_29 : decode cX12_holds 29 = .ok (.iload 5, 2) := by decide +kernel
theorem dX12_holds_31 : decode cX12_holds 31 = .ok (.iaload, 1) := by decide +kernel
theorem dX12_holds_32 : decode cX12_holds 32 = .ok (.ifCond .eq 65, 3) := by decide +kernel
theorem dX12_holds_35 : decode cX12_holds 35 = .ok (.iload_n 3, 1) := by decide +kernel
theorem dX12_holds_36 : decode cX12_holds 36 = .ok (.ifCond .lt 22, 3) := by decide +kernel
theorem dX12_holds_39 : decode cX12_holds 39 = .ok (.aload_n 0, 1) := by decide +kernel
theorem dX12_holds_40 : decode cX12_holds 40 = .ok (.getfield 50, 3) := by decide +kernel
theorem dX12_holds_43 : decode cX12_holds 43 = .ok (.iload 5, 2) := by decide +kernel
theorem dX12_holds_45 : decode cX12_holds 45 = .ok (.iaload, 1) := by decide +kernel
theorem dX12_holds_46 : decode cX12_holds 46 = .ok (.aload_n 0, 1) := by decide +kernel
theorem dX12_holds_47 : decode cX12_holds 47 = .ok (.getfield 50, 3) := by decide +kernel
theorem dX12_holds_50 : decode cX12_holds 50 = .ok (.iload_n 3, 1) := by decide +kernel
theorem dX12_holds_51 : decode cX12_holds 51 = .ok (.iaload, 1) := by decide +kernel
theorem dX12_holds_52 : decode cX12_holds 52 = .ok (.if_icmp .ge 6, 3) := by decide +kernel
theorem dX12_holds_55 : decode cX12_holds 55 = .ok (.goto 42, 3) := by decide +kernel
theorem dX12_holds_58 : decode cX12_holds 58 = .ok (.iload_n 3, 1) := by decide +kernel
theorem dX12_holds_59 : decode cX12_holds 59 = .ok (.ifCond .lt 23, 3) := by decide +kernel
theorem dX12_holds_62 : decode cX12_holds 62 = .ok (.aload_n 0, 1) := by decide +kernel
theorem dX12_holds_63 : decode cX12_holds 63 = .ok (.getfield 50, 3) := by decide +kernel
theorem dX12_holds_66 : decode cX12_holds 66 = .ok (.iload 5, 2) := by decide +kernel
theorem dX12_holds_68 : decode cX12_holds 68 = .ok (.iaload, 1) := by decide +kernel
theorem dX12_holds_69 : decode cX12_holds 69 = .ok (.aload_n 0, 1) := by decide +kernel
theorem dX12_holds_70 : decode cX12_holds 70 = .ok (.getfield 50, 3) := by decide +kernel
theorem dX12_holds_73 : decode cX12_holds 73 = .ok (.iload_n 3, 1) := by decide +kernel
theorem dX12_holds_74 : decode cX12_holds 74 = .ok (.iaload, 1) := by decide +kernel
theorem dX12_holds_75 : decode cX12_holds 75 = .ok (.if_icmp .ne 7, 3) := by decide +kernel
theorem dX12_holds_78 : decode cX12_holds 78 = .ok (.iconst 1, 1) := by decide +kernel
theorem dX12_holds_79 : decode cX12_holds 79 = .ok (.goto 4, 3) := by decide +kernel
theorem dX12_holds_82 : decode cX12_holds 82 = .ok (.iconst 0, 1) := by decide +kernel
theorem dX12_holds_83 : decode cX12_holds 83 = .ok (.istore 4, 2) := by decide +kernel
theorem dX12_holds_85 : decode cX12_holds 85 = .ok (.iload 4, 2) := by decide +kernel
theorem dX12_holds_87 : decode cX12_holds 87 = .ok (.ifCond .eq 7, 3) := by decide +kernel
theorem dX12_holds_90 : decode cX12_holds 90 = .ok (.iload_n 3, 1) := by decide +kernel
theorem dX12_holds_91 : decode cX12_holds 91 = .ok (.goto 5, 3) := by decide +kernel
theorem dX12_holds_94 : decode cX12_holds 94 = .ok (.iload 5, 2) := by decide +kernel
theorem dX12_holds_96 : decode cX12_holds 96 = .ok (.istore_n 3, 1) := by decide +kernel
theorem dX12_holds_97 : decode cX12_holds 97 = .ok (.iinc 5 1, 3) := by decide +kernel
theorem dX12_holds_100 : decode cX12_holds 100 = .ok (.goto (-86), 3) := by decide +kernel
theorem dX12_holds_103 : decode cX12_holds 103 = .ok (.iload 4, 2) := by decide +kernel
theorem dX12_holds_105 : decode cX12_holds 105 = .ok (.ifCond .eq 8, 3) := by decide +kernel
theorem dX12_holds_108 : decode cX12_holds 108 = .ok (.bipush (-2), 2) := by decide +kernel
theorem dX12_holds_110 : decode cX12_holds 110 = .ok (.goto 4, 3) := by decide +kernel
theorem dX12_holds_113 : decode cX12_holds 113 = .ok (.iload_n 3, 1) := by decide +kernel
theorem dX12_holds_114 : decode cX12_holds 114 = .ok (.ireturn, 1) := by decide +kernel
theorem dX12_cellsOf_0 : decode cX12_cellsOf 0 = .ok (.iconst 0, 1) := by decide +kernel
theorem dX12_cellsOf_1 : decode cX12_cellsOf 1 = .ok (.istore_n 2, 1) := by decide +kernel
theorem dX12_cellsOf_2 : decode cX12_cellsOf 2 = .ok (.iconst 0, 1) := by decide +kernel
theorem dX12_cellsOf_3 : decode cX12_cellsOf 3 = .ok (.istore_n 3, 1) := by decide +kernel
theorem dX12_cellsOf_4 : decode cX12_cellsOf 4 = .ok (.iload_n 3, 1) := by decide +kernel
theorem dX12_cellsOf_5 : decode cX12_cellsOf 5 = .ok (.aload_n 0, 1) := by decide +kernel
theorem dX12_cellsOf_6 : decode cX12_cellsOf 6 = .ok (.getfield 35, 3) := by decide +kernel
theorem dX12_cellsOf_9 : decode cX12_cellsOf 9 = .ok (.iconst 1, 1) := by decide +kernel
theorem dX12_cellsOf_10 : decode cX12_cellsOf 10 = .ok (.iaload, 1) := by decide +kernel
theorem dX12_cellsOf_11 : decode cX12_cellsOf 11 = .ok (.if_icmp .ge 48, 3) := by decide +kernel
theorem dX12_cellsOf_14 : decode cX12_cellsOf 14 = .ok (.iconst 0, 1) := by decide +kernel
theorem dX12_cellsOf_15 : decode cX12_cellsOf 15 = .ok (.istore 4, 2) := by decide +kernel
theorem dX12_cellsOf_17 : decode cX12_cellsOf 17 = .ok (.iload 4, 2) := by decide +kernel
theorem dX12_cellsOf_19 : decode cX12_cellsOf 19 = .ok (.aload_n 0, 1) := by decide +kernel
theorem dX12_cellsOf_20 : decode cX12_cellsOf 20 = .ok (.getfield 35, 3) := by decide +kernel
theorem dX12_cellsOf_23 : decode cX12_cellsOf 23 = .ok (.iconst 0, 1) := by decide +kernel
theorem dX12_cellsOf_24 : decode cX12_cellsOf 24 = .ok (.iaload, 1) := by decide +kernel
theorem dX12_cellsOf_25 : decode cX12_cellsOf 25 = .ok (.if_icmp .ge 28, 3) := by decide +kernel
theorem dX12_cellsOf_28 : decode cX12_cellsOf 28 = .ok (.iload_n 2, 1) := by decide +kernel
theorem dX12_cellsOf_29 : decode cX12_cellsOf 29 = .ok (.aload_n 0, 1) := by decide +kernel
theorem dX12_cellsOf_30 : decode cX12_cellsOf 30 = .ok (.iload 4, 2) := by decide +kernel
theorem dX12_cellsOf_32 : decode cX12_cellsOf 32 = .ok (.iload_n 3, 1) := by decide +kernel
theorem dX12_cellsOf_33 : decode cX12_cellsOf 33 = .ok (.invokevirtual 358, 3) := by decide +kernel
theorem dX12_cellsOf_36 : decode cX12_cellsOf 36 = .ok (.iload_n 1, 1) := by decide +kernel
theorem dX12_cellsOf_37 : decode cX12_cellsOf 37 = .ok (.if_icmp .ne 7, 3) := by decide +kernel
theorem dX12_cellsOf_40 : decode cX12_cellsOf 40 = .ok (.iconst 1, 1) := by decide +kernel
theorem dX12_cellsOf_41 : decode cX12_cellsOf 41 = .ok (.goto 4, 3) := by decide +kernel
theorem dX12_cellsOf_44 : decode cX12_cellsOf 44 = .ok (.iconst 0, 1) := by decide +kernel
theorem dX12_cellsOf_45 : decode cX12_cellsOf 45 = .ok (.iadd, 1) := by decide +kernel
theorem dX12_cellsOf_46 : decode cX12_cellsOf 46 = .ok (.istore_n 2, 1) := by decide +kernel
theorem dX12_cellsOf_47 : decode cX12_cellsOf 47 = .ok (.iinc 4 1, 3) := by decide +kernel
theorem dX12_cellsOf_50 : decode cX12_cellsOf 50 = .ok (.goto (-33), 3) := by decide +kernel
theorem dX12_cellsOf_53 : decode cX12_cellsOf 53 = .ok (.iinc 3 1, 3) := by decide +kernel
theorem dX12_cellsOf_56 : decode cX12_cellsOf 56 = .ok (.goto (-52), 3) := by decide +kernel
theorem dX12_cellsOf_59 : decode cX12_cellsOf 59 = .ok (.iload_n 2, 1) := by decide +kernel
theorem dX12_cellsOf_60 : decode cX12_cellsOf 60 = .ok (.ireturn, 1) := by decide +kernel
theorem dX12_playing_0 : decode cX12_playing 0 = .ok (.iconst 0, 1) := by decide +kernel
theorem dX12_playing_1 : decode cX12_playing 1 = .ok (.istore_n 1, 1) := by decide +kernel
theorem dX12_playing_2 : decode cX12_playing 2 = .ok (.iconst 0, 1) := by decide +kernel
theorem dX12_playing_3 : decode cX12_playing 3 = .ok (.istore_n 2, 1) := by decide +kernel
theorem dX12_playing_4 : decode cX12_playing 4 = .ok (.iload_n 2, 1) := by decide +kernel
theorem dX12_playing_5 : decode cX12_playing 5 = .ok (.aload_n 0, 1) := by decide +kernel
theorem dX12_playing_6 : decode cX12_playing 6 = .ok (.getfield 35, 3) := by decide +kernel
theorem dX12_playing_9 : decode cX12_playing 9 = .ok (.iconst 3, 1) := by decide +kernel
theorem dX12_playing_10 : decode cX12_playing 10 = .ok (.iaload, 1) := by decide +kernel
theorem dX12_playing_11 : decode cX12_playing 11 = .ok (.if_icmp .ge 30, 3) := by decide +kernel
theorem dX12_playing_14 : decode cX12_playing 14 = .ok (.iload_n 1, 1) := by decide +kernel
theorem dX12_playing_15 : decode cX12_playing 15 = .ok (.aload_n 0, 1) := by decide +kernel
theorem dX12_playing_16 : decode cX12_playing 16 = .ok (.getfield 47, 3) := by decide +kernel
theorem dX12_playing_19 : decode cX12_playing 19 = .ok (.iload_n 2, 1) := by decide +kernel
theorem dX12_playing_20 : decode cX12_playing 20 = .ok (.iaload, 1) := by decide +kernel
theorem dX12_playing_21 : decode cX12_playing 21 = .ok (.bipush 6, 2) := by decide +kernel
theorem dX12_playing_23 : decode cX12_playing 23 = .ok (.if_icmp .ge 9, 3) := by decide +kernel
theorem dX12_playing_26 : decode cX12_playing 26 = .ok (.iconst 1, 1) := by decide +kernel
theorem dX12_playing_27 : decode cX12_playing 27 = .ok (.iload_n 2, 1) := by decide +kernel
theorem dX12_playing_28 : decode cX12_playing 28 = .ok (.ishl, 1) := by decide +kernel
theorem dX12_playing_29 : decode cX12_playing 29 = .ok (.goto 4, 3) := by decide +kernel
theorem dX12_playing_32 : decode cX12_playing 32 = .ok (.iconst 0, 1) := by decide +kernel
theorem dX12_playing_33 : decode cX12_playing 33 = .ok (.ior, 1) := by decide +kernel
theorem dX12_playing_34 : decode cX12_playing 34 = .ok (.istore_n 1, 1) := by decide +kernel
theorem dX12_playing_35 : decode cX12_playing 35 = .ok (.iinc 2 1, 3) := by decide +kernel
theorem dX12_playing_38 : decode cX12_playing 38 = .ok (.goto (-34), 3) := by decide +kernel
theorem dX12_playing_41 : decode cX12_playing 41 = .ok (.iload_n 1, 1) := by decide +kernel
theorem dX12_playing_42 : decode cX12_playing 42 = .ok (.ireturn, 1) := by decide +kernel
theorem dX12_pondMany_0 : decode cX12_pondMany 0 = .ok (.iconst 0, 1) := by decide +kernel
theorem dX12_pondMany_1 : decode cX12_pondMany 1 = .ok (.istore_n 1, 1) := by decide +kernel
theorem dX12_pondMany_2 : decode cX12_pondMany 2 = .ok (.iconst 0, 1) := by decide +kernel
theorem dX12_pondMany_3 : decode cX12_pondMany 3 = .ok (.istore_n 2, 1) := by decide +kernel
theorem dX12_pondMany_4 : decode cX12_pondMany 4 = .ok (.iload_n 2, 1) := by decide +kernel
theorem dX12_pondMany_5 : decode cX12_pondMany 5 = .ok (.bipush 30, 2) := by decide +kernel
theorem dX12_pondMany_7 : decode cX12_pondMany 7 = .ok (.if_icmp .ge 21, 3) := by decide +kernel
theorem dX12_pondMany_10 : decode cX12_pondMany 10 = .ok (.iload_n 1, 1) := by decide +kernel
theorem dX12_pondMany_11 : decode cX12_pondMany 11 = .ok (.aload_n 0, 1) := by decide +kernel
theorem dX12_pondMany_12 : decode cX12_pondMany 12 = .ok (.getfield 35, 3) := by decide +kernel
theorem dX12_pondMany_15 : decode cX12_pondMany 15 = .ok (.bipush 106, 2) := by decide +kernel
theorem dX12_pondMany_17 : decode cX12_pondMany 17 = .ok (.iload_n 2, 1) := by decide +kernel
theorem dX12_pondMany_18 : decode cX12_pondMany 18 = .ok (.iadd, 1) := by decide +kernel
theorem dX12_pondMany_19 : decode cX12_pondMany 19 = .ok (.iaload, 1) := by decide +kernel
theorem dX12_pondMany_20 : decode cX12_pondMany 20 = .ok (.iadd, 1) := by decide +kernel
theorem dX12_pondMany_21 : decode cX12_pondMany 21 = .ok (.istore_n 1, 1) := by decide +kernel
theorem dX12_pondMany_22 : decode cX12_pondMany 22 = .ok (.iinc 2 1, 3) := by decide +kernel
theorem dX12_pondMany_25 : decode cX12_pondMany 25 = .ok (.goto (-21), 3) := by decide +kernel
theorem dX12_pondMany_28 : decode cX12_pondMany 28 = .ok (.iload_n 1, 1) := by decide +kernel
theorem dX12_pondMany_29 : decode cX12_pondMany 29 = .ok (.ireturn, 1) := by decide +kernel
theorem dX12_many_0 : decode cX12_many 0 = .ok (.aload_n 0, 1) := by decide +kernel
theorem dX12_many_1 : decode cX12_many 1 = .ok (.iconst 0, 1) := by decide +kernel
theorem dX12_many_2 : decode cX12_many 2 = .ok (.putfield 69, 3) := by decide +kernel
theorem dX12_many_5 : decode cX12_many 5 = .ok (.aload_n 0, 1) := by decide +kernel
theorem dX12_many_6 : decode cX12_many 6 = .ok (.iconst 0, 1) := by decide +kernel
theorem dX12_many_7 : decode cX12_many 7 = .ok (.putfield 72, 3) := by decide +kernel
theorem dX12_many_10 : decode cX12_many 10 = .ok (.iload_n 1, 1) := by decide +kernel
theorem dX12_many_11 : decode cX12_many 11 = .ok (.i2l, 1) := by decide +kernel
theorem dX12_many_12 : decode cX12_many 12 = .ok (.lconst 0, 1) := by decide +kernel
theorem dX12_many_13 : decode cX12_many 13 = .ok (.ldc2_w 361, 3) := by decide +kernel
theorem dX12_many_16 : decode cX12_many 16 = .ok (.invokestatic 104, 3) := by decide +kernel
theorem dX12_many_19 : decode cX12_many 19 = .ok (.ifCond .ne 9, 3) := by decide +kernel
theorem dX12_many_22 : decode cX12_many 22 = .ok (.aload_n 0, 1) := by decide +kernel
theorem dX12_many_23 : decode cX12_many 23 = .ok (.iconst 5, 1) := by decide +kernel
theorem dX12_many_24 : decode cX12_many 24 = .ok (.invokevirtual 363, 3) := by decide +kernel
theorem dX12_many_27 : decode cX12_many 27 = .ok (.ireturn, 1) := by decide +kernel
theorem dX12_many_28 : decode cX12_many 28 = .ok (.iload_n 1, 1) := by decide +kernel
theorem dX12_many_29 : decode cX12_many 29 = .ok (.bipush 10, 2) := by decide +kernel
theorem dX12_many_31 : decode cX12_many 31 = .ok (.if_icmp .ge 10, 3) := by decide +kernel
theorem dX12_many_34 : decode cX12_many 34 = .ok (.aload_n 0, 1) := by decide +kernel
theorem dX12_many_35 : decode cX12_many 35 = .ok (.getfield 35, 3) := by decide +kernel
theorem dX12_many_38 : decode cX12_many 38 = .ok (.iload_n 1, 1) := by decide +kernel
theorem dX12_many_39 : decode cX12_many 39 = .ok (.iaload, 1) := by decide +kernel
theorem dX12_many_40 : decode cX12_many 40 = .ok (.ireturn, 1) := by decide +kernel
theorem dX12_many_41 : decode cX12_many 41 = .ok (.aload_n 0, 1) := by decide +kernel
theorem dX12_many_42 : decode cX12_many 42 = .ok (.invokevirtual 366, 3) := by decide +kernel
theorem dX12_many_45 : decode cX12_many 45 = .ok (.iload_n 1, 1) := by decide +kernel
theorem dX12_many_46 : decode cX12_many 46 = .ok (.bipush 10, 2) := by decide +kernel
theorem dX12_many_48 : decode cX12_many 48 = .ok (.if_icmp .ne 8, 3) := by decide +kernel
theorem dX12_many_51 : decode cX12_many 51 = .ok (.aload_n 0, 1) := by decide +kernel
theorem dX12_many_52 : decode cX12_many 52 = .ok (.invokevirtual 369, 3) := by decide +kernel
theorem dX12_many_55 : decode cX12_many 55 = .ok (.ireturn, 1) := by decide +kernel
theorem dX12_many_56 : decode cX12_many 56 = .ok (.iload_n 1, 1) := by decide +kernel
theorem dX12_many_57 : decode cX12_many 57 = .ok (.bipush 11, 2) := by decide +kernel
theorem dX12_many_59 : decode cX12_many 59 = .ok (.if_icmp .ne 12, 3) := by decide +kernel
theorem dX12_many_62 : decode cX12_many 62 = .ok (.aload_n 0, 1) := by decide +kernel
theorem dX12_many_63 : decode cX12_many 63 = .ok (.bipush (-2), 2) := by decide +kernel
theorem dX12_many_65 : decode cX12_many 65 = .ok (.invokevirtual 372, 3) := by decide +kernel
theorem dX12_many_68 : decode cX12_many 68 = .ok (.goto 34, 3) := by decide +kernel
theorem dX12_many_71 : decode cX12_many 71 = .ok (.iload_n 1, 1) := by decide +kernel
theorem dX12_many_72 : decode cX12_many 72 = .ok (.bipush 12, 2) := by decide +kernel
theorem dX12_many_74 : decode cX12_many 74 = .ok (.if_icmp .ne 11, 3) := by decide +kernel
theorem dX12_many_77 : decode cX12_many 77 = .ok (.aload_n 0, 1) := by decide +kernel
theorem dX12_many_78 : decode cX12_many 78 = .ok (.iconst (-1), 1) := by decide +kernel
theorem dX12_many_79 : decode cX12_many 79 = .ok (.invokevirtual 372, 3) := by decide +kernel
theorem dX12_many_82 : decode cX12_many 82 = .ok (.goto 20, 3) := by decide +kernel
theorem dX12_many_85 : decode cX12_many 85 = .ok (.iload_n 1, 1) := by decide +kernel
theorem dX12_many_86 : decode cX12_many 86 = .ok (.bipush 13, 2) := by decide +kernel
theorem dX12_many_88 : decode cX12_many 88 = .ok (.if_icmp .ne 10, 3) := by decide +kernel
theorem dX12_many_91 : decode cX12_many 91 = .ok (.aload_n 0, 1) := by decide +kernel
theorem dX12_many_92 : decode cX12_many 92 = .ok (.invokevirtual 375, 3) := by decide +kernel
theorem dX12_many_95 : decode cX12_many 95 = .ok (.goto 7, 3) := by decide +kernel
theorem dX12_many_98 : decode cX12_many 98 = .ok (.aload_n 0, 1) := by decide +kernel
theorem dX12_many_99 : decode cX12_many 99 = .ok (.getfield 337, 3) := by decide +kernel
theorem dX12_many_102 : decode cX12_many 102 = .ok (.ireturn, 1) := by decide +kernel
theorem dX12_tune_0 : decode cX12_tune 0 = .ok (.aload_n 0, 1) := by decide +kernel
theorem dX12_tune_1 : decode cX12_tune 1 = .ok (.iconst 0, 1) := by decide +kernel
theorem dX12_tune_2 : decode cX12_tune 2 = .ok (.putfield 69, 3) := by decide +kernel
theorem dX12_tune_5 : decode cX12_tune 5 = .ok (.aload_n 0, 1) := by decide +kernel
theorem dX12_tune_6 : decode cX12_tune 6 = .ok (.iconst 0, 1) := by decide +kernel
theorem dX12_tune_7 : decode cX12_tune 7 = .ok (.putfield 72, 3) := by decide +kernel
theorem dX12_tune_10 : decode cX12_tune 10 = .ok (.aload_n 0, 1) := by decide +kernel
theorem dX12_tune_11 : decode cX12_tune 11 = .ok (.iload_n 1, 1) := by decide +kernel
theorem dX12_tune_12 : decode cX12_tune 12 = .ok (.invokevirtual 378, 3) := by decide +kernel
theorem dX12_tune_15 : decode cX12_tune 15 = .ok (.ifCond .ne 9, 3) := by decide +kernel
theorem dX12_tune_18 : decode cX12_tune 18 = .ok (.aload_n 0, 1) := by decide +kernel
theorem dX12_tune_19 : decode cX12_tune 19 = .ok (.iconst 2, 1) := by decide +kernel
theorem dX12_tune_20 : decode cX12_tune 20 = .ok (.invokevirtual 363, 3) := by decide +kernel
theorem dX12_tune_23 : decode cX12_tune 23 = .ok (.ireturn, 1) := by decide +kernel
theorem dX12_tune_24 : decode cX12_tune 24 = .ok (.iload_n 2, 1) := by decide +kernel
theorem dX12_tune_25 : decode cX12_tune 25 = .ok (.i2l, 1) := by decide +kernel
theorem dX12_tune_26 : decode cX12_tune 26 = .ok (.lconst 0, 1) := by decide +kernel
theorem dX12_tune_27 : decode cX12_tune 27 = .ok (.ldc2_w 381, 3) := by decide +kernel
theorem dX12_tune_30 : decode cX12_tune 30 = .ok (.invokestatic 104, 3) := by decide +kernel
theorem dX12_tune_33 : decode cX12_tune 33 = .ok (.ifCond .eq 20, 3) := by decide +kernel
theorem dX12_tune_36 : decode cX12_tune 36 = .ok (.aload_n 0, 1) := by decide +kernel
theorem dX12_tune_37 : decode cX12_tune 37 = .ok (.getfield 35, 3) := by decide +kernel
theorem dX12_tune_40 : decode cX12_tune 40 = .ok (.bipush 10, 2) := by decide +kernel
theorem dX12_tune_42 : decode cX12_tune 42 = .ok (.bipush 6, 2) := by decide +kernel
theorem dX12_tune_44 : decode cX12_tune 44 = .ok (.iload_n 2, 1) := by decide +kernel
theorem dX12_tune_45 : decode cX12_tune 45 = .ok (.imul, 1) := by decide +kernel
theorem dX12_tune_46 : decode cX12_tune 46 = .ok (.iadd, 1) := by decide +kernel
theorem dX12_tune_47 : decode cX12_tune 47 = .ok (.iload_n 1, 1) := by decide +kernel
theorem dX12_tune_48 : decode cX12_tune 48 = .ok (.iadd, 1) := by decide +kernel
theorem dX12_tune_49 : decode cX12_tune 49 = .ok (.iaload, 1) := by decide +kernel
theorem dX12_tune_50 : decode cX12_tune 50 = .ok (.goto 8, 3) := by decide +kernel
theorem dX12_tune_53 : decode cX12_tune 53 = .ok (.aload_n 0, 1) := by decide +kernel
theorem dX12_tune_54 : decode cX12_tune 54 = .ok (.iconst 5, 1) := by decide +kernel
theorem dX12_tune_55 : decode cX12_tune 55 = .ok (.invokevirtual 363, 3) := by decide +kernel
theorem dX12_tune_58 : decode cX12_tune 58 = .ok (.ireturn, 1) := by decide +kernel
theorem dX12_band_0 : decode cX12_band 0 = .ok (.aload_n 0, 1) := by decide +kernel
theorem dX12_band_1 : decode cX12_band 1 = .ok (.iconst 0, 1) := by decide +kernel
theorem dX12_band_2 : decode cX12_band 2 = .ok (.putfield 69, 3) := by decide +kernel
theorem dX12_band_5 : decode cX12_band 5 = .ok (.aload_n 0, 1) := by decide +kernel
theorem dX12_band_6 : decode cX12_band 6 = .ok (.iconst 0, 1) := by decide +kernel
theorem dX12_band_7 : decode cX12_band 7 = .ok (.putfield 72, 3) := by decide +kernel
theorem dX12_band_10 : decode cX12_band 10 = .ok (.aload_n 0, 1) := by decide +kernel
theorem dX12_band_11 : decode cX12_band 11 = .ok (.iload_n 1, 1) := by decide +kernel
theorem dX12_band_12 : decode cX12_band 12 = .ok (.invokevirtual 383, 3) := by decide +kernel
theorem dX12_band_15 : decode cX12_band 15 = .ok (.ifCond .ne 9, 3) := by decide +kernel
theorem dX12_band_18 : decode cX12_band 18 = .ok (.aload_n 0, 1) := by decide +kernel
theorem dX12_band_19 : decode cX12_band 19 = .ok (.iconst 2, 1) := by decide +kernel
theorem dX12_band_20 : decode cX12_band 20 = .ok (.invokevirtual 363, 3) := by decide +kernel
theorem dX12_band_23 : decode cX12_band 23 = .ok (.ireturn, 1) := by decide +kernel
theorem dX12_band_24 : decode cX12_band 24 = .ok (.iload_n 2, 1) := by decide +kernel
theorem dX12_band_25 : decode cX12_band 25 = .ok (.i2l, 1) := by decide +kernel
theorem dX12_band_26 : decode cX12_band 26 = .ok (.lconst 0, 1) := by decide +kernel
theorem dX12_band_27 : decode cX12_band 27 = .ok (.ldc2_w 386, 3) := by decide +kernel
theorem dX12_band_30 : decode cX12_band 30 = .ok (.invokestatic 104, 3) := by decide +kernel
theorem dX12_band_33 : decode cX12_band 33 = .ok (.ifCond .eq 20, 3) := by decide +kernel
theorem dX12_band_36 : decode cX12_band 36 = .ok (.aload_n 0, 1) := by decide +kernel
theorem dX12_band_37 : decode cX12_band 37 = .ok (.getfield 35, 3) := by decide +kernel
theorem dX12_band_40 : decode cX12_band 40 = .ok (.bipush 28, 2) := by decide +kernel
theorem dX12_band_42 : decode cX12_band 42 = .ok (.bipush 6, 2) := by decide +kernel
theorem dX12_band_44 : decode cX12_band 44 = .ok (.iload_n 2, 1) := by decide +kernel
theorem dX12_band_45 : decode cX12_band 45 = .ok (.imul, 1) := by decide +kernel
theorem dX12_band_46 : decode cX12_band 46 = .ok (.iadd, 1) := by decide +kernel
theorem dX12_band_47 : decode cX12_band 47 = .ok (.iload_n 1, 1) := by decide +kernel
theorem dX12_band_48 : decode cX12_band 48 = .ok (.iadd, 1) := by decide +kernel
theorem dX12_band_49 : decode cX12_band 49 = .ok (.iaload, 1) := by decide +kernel
theorem dX12_band_50 : decode cX12_band 50 = .ok (.goto 8, 3) := by decide +kernel
theorem dX12_band_53 : decode cX12_band 53 = .ok (.aload_n 0, 1) := by decide +kernel
theorem dX12_band_54 : decode cX12_band 54 = .ok (.iconst 5, 1) := by decide +kernel
theorem dX12_band_55 : decode cX12_band 55 = .ok (.invokevirtual 363, 3) := by decide +kernel
theorem dX12_band_58 : decode cX12_band 58 = .ok (.ireturn, 1) := by decide +kernel
theorem dX12_entry_0 : decode cX12_entry 0 = .ok (.aload_n 0, 1) := by decide +kernel
theorem dX12_entry_1 : decode cX12_entry 1 = .ok (.iconst 0, 1) := by decide +kernel
theorem dX12_entry_2 : decode cX12_entry 2 = .ok (.putfield 69, 3) := by decide +kernel
theorem dX12_entry_5 : decode cX12_entry 5 = .ok (.aload_n 0, 1) := by decide +kernel
theorem dX12_entry_6 : decode cX12_entry 6 = .ok (.iconst 0, 1) := by decide +kernel
theorem dX12_entry_7 : decode cX12_entry 7 = .ok (.putfield 72, 3) := by decide +kernel
theorem dX12_entry_10 : decode cX12_entry 10 = .ok (.aload_n 0, 1) := by decide +kernel
theorem dX12_entry_11 : decode cX12_entry 11 = .ok (.iload_n 1, 1) := by decide +kernel
theorem dX12_entry_12 : decode cX12_entry 12 = .ok (.invokevirtual 383, 3) := by decide +kernel
theorem dX12_entry_15 : decode cX12_entry 15 = .ok (.ifCond .ne 9, 3) := by decide +kernel
theorem dX12_entry_18 : decode cX12_entry 18 = .ok (.aload_n 0, 1) := by decide +kernel
theorem dX12_entry_19 : decode cX12_entry 19 = .ok (.iconst 2, 1) := by decide +kernel
theorem dX12_entry_20 : decode cX12_entry 20 = .ok (.invokevirtual 363, 3) := by decide +kernel
theorem dX12_entry_23 : decode cX12_entry 23 = .ok (.ireturn, 1) := by decide +kernel
theorem dX12_entry_24 : decode cX12_entry 24 = .ok (.iload_n 2, 1) := by decide +kernel
theorem dX12_entry_25 : decode cX12_entry 25 = .ok (.i2l, 1) := by decide +kernel
theorem dX12_entry_26 : decode cX12_entry 26 = .ok (.lconst 0, 1) := by decide +kernel
theorem dX12_entry_27 : decode cX12_entry 27 = .ok (.aload_n 0, 1) := by decide +kernel
theorem dX12_entry_28 : decode cX12_entry 28 = .ok (.getfield 35, 3) := by decide +kernel
theorem dX12_entry_31 : decode cX12_entry 31 = .ok (.bipush 64, 2) := by decide +kernel
theorem dX12_entry_33 : decode cX12_entry 33 = .ok (.iload_n 1, 1) := by decide +kernel
theorem dX12_entry_34 : decode cX12_entry 34 = .ok (.iadd, 1) := by decide +kernel
theorem dX12_entry_35 : decode cX12_entry 35 = .ok (.iaload, 1) := by decide +kernel
theorem dX12_entry_36 : decode cX12_entry 36 = .ok (.iconst 1, 1) := by decide +kernel
theorem dX12_entry_37 : decode cX12_entry 37 = .ok (.isub, 1) := by decide +kernel
theorem dX12_entry_38 : decode cX12_entry 38 = .ok (.i2l, 1) := by decide +kernel
theorem dX12_entry_39 : decode cX12_entry 39 = .ok (.invokestatic 104, 3) := by decide +kernel
theorem dX12_entry_42 : decode cX12_entry 42 = .ok (.ifCond .eq 20, 3) := by decide +kernel
theorem dX12_entry_45 : decode cX12_entry 45 = .ok (.aload_n 0, 1) := by decide +kernel
theorem dX12_entry_46 : decode cX12_entry 46 = .ok (.getfield 35, 3) := by decide +kernel
theorem dX12_entry_49 : decode cX12_entry 49 = .ok (.bipush 70, 2) := by decide +kernel
theorem dX12_entry_51 : decode cX12_entry 51 = .ok (.bipush 6, 2) := by decide +kernel
theorem dX12_entry_53 : decode cX12_entry 53 = .ok (.iload_n 1, 1) := by decide +kernel
theorem dX12_entry_54 : decode cX12_entry 54 = .ok (.imul, 1) := by decide +kernel
theorem dX12_entry_55 : decode cX12_entry 55 = .ok (.iadd, 1) := by decide +kernel
theorem dX12_entry_56 : decode cX12_entry 56 = .ok (.iload_n 2, 1) := by decide +kernel
theorem dX12_entry_57 : decode cX12_entry 57 = .ok (.iadd, 1) := by decide +kernel
theorem dX12_entry_58 : decode cX12_entry 58 = .ok (.iaload, 1) := by decide +kernel
theorem dX12_entry_59 : decode cX12_entry 59 = .ok (.goto 9, 3) := by decide +kernel
theorem dX12_entry_62 : decode cX12_entry 62 = .ok (.aload_n 0, 1) := by decide +kernel
theorem dX12_entry_63 : decode cX12_entry 63 = .ok (.bipush 8, 2) := by decide +kernel
theorem dX12_entry_65 : decode cX12_entry 65 = .ok (.invokevirtual 363, 3) := by decide +kernel
theorem dX12_entry_68 : decode cX12_entry 68 = .ok (.ireturn, 1) := by decide +kernel
theorem dX12_pond_0 : decode cX12_pond 0 = .ok (.aload_n 0, 1) := by decide +kernel
theorem dX12_pond_1 : decode cX12_pond 1 = .ok (.iconst 0, 1) := by decide +kernel
theorem dX12_pond_2 : decode cX12_pond 2 = .ok (.putfield 69, 3) := by decide +kernel
theorem dX12_pond_5 : decode cX12_pond 5 = .ok (.aload_n 0, 1) := by decide +kernel
theorem dX12_pond_6 : decode cX12_pond 6 = .ok (.iconst 0, 1) := by decide +kernel
theorem dX12_pond_7 : decode cX12_pond 7 = .ok (.putfield 72, 3) := by decide +kernel
theorem dX12_pond_10 : decode cX12_pond 10 = .ok (.aload_n 0, 1) := by decide +kernel
theorem dX12_pond_11 : decode cX12_pond 11 = .ok (.iload_n 1, 1) := by decide +kernel
theorem dX12_pond_12 : decode cX12_pond 12 = .ok (.iload_n 2, 1) := by decide +kernel
theorem dX12_pond_13 : decode cX12_pond 13 = .ok (.invokevirtual 388, 3) := by decide +kernel
theorem dX12_pond_16 : decode cX12_pond 16 = .ok (.ifCond .ne 9, 3) := by decide +kernel
theorem dX12_pond_19 : decode cX12_pond 19 = .ok (.aload_n 0, 1) := by decide +kernel
theorem dX12_pond_20 : decode cX12_pond 20 = .ok (.iconst 2, 1) := by decide +kernel
theorem dX12_pond_21 : decode cX12_pond 21 = .ok (.invokevirtual 363, 3) := by decide +kernel
theorem dX12_pond_24 : decode cX12_pond 24 = .ok (.ireturn, 1) := by decide +kernel
theorem dX12_pond_25 : decode cX12_pond 25 = .ok (.aload_n 0, 1) := by decide +kernel
theorem dX12_pond_26 : decode cX12_pond 26 = .ok (.iload_n 1, 1) := by decide +kernel
theorem dX12_pond_27 : decode cX12_pond 27 = .ok (.iload_n 2, 1) := by decide +kernel
theorem dX12_pond_28 : decode cX12_pond 28 = .ok (.invokevirtual 391, 3) := by decide +kernel
theorem dX12_pond_31 : decode cX12_pond 31 = .ok (.ifCond .eq 7, 3) := by decide +kernel
theorem dX12_pond_34 : decode cX12_pond 34 = .ok (.iconst 1, 1) := by decide +kernel
theorem dX12_pond_35 : decode cX12_pond 35 = .ok (.goto 4, 3) := by decide +kernel
theorem dX12_pond_38 : decode cX12_pond 38 = .ok (.iconst 0, 1) := by decide +kernel
theorem dX12_pond_39 : decode cX12_pond 39 = .ok (.ireturn, 1) := by decide +kernel
theorem dX12_goesHour_0 : decode cX12_goesHour 0 = .ok (.aload_n 0, 1) := by decide +kernel
theorem dX12_goesHour_1 : decode cX12_goesHour 1 = .ok (.invokevirtual 366, 3) := by decide +kernel
theorem dX12_goesHour_4 : decode cX12_goesHour 4 = .ok (.iconst 0, 1) := by decide +kernel
theorem dX12_goesHour_5 : decode cX12_goesHour 5 = .ok (.istore_n 1, 1) := by decide +kernel
theorem dX12_goesHour_6 : decode cX12_goesHour 6 = .ok (.iconst 0, 1) := by decide +kernel
theorem dX12_goesHour_7 : decode cX12_goesHour 7 = .ok (.istore_n 2, 1) := by decide +kernel
theorem dX12_goesHour_8 : decode cX12_goesHour 8 = .ok (.iload_n 2, 1) := by decide +kernel
theorem dX12_goesHour_9 : decode cX12_goesHour 9 = .ok (.aload_n 0, 1) := by decide +kernel
theorem dX12_goesHour_10 : decode cX12_goesHour 10 = .ok (.getfield 35, 3) := by decide +kernel
theorem dX12_goesHour_13 : decode cX12_goesHour 13 = .ok (.iconst 1, 1) := by decide +kernel
theorem dX12_goesHour_14 : decode cX12_goesHour 14 = .ok (.iaload, 1) := by decide +kernel
theorem dX12_goesHour_15 : decode cX12_goesHour 15 = .ok (.if_icmp .ge 79, 3) := by decide +kernel
theorem dX12_goesHour_18 : decode cX12_goesHour 18 = .ok (.iconst 0, 1) := by decide +kernel
theorem dX12_goesHour_19 : decode cX12_goesHour 19 = .ok (.istore_n 3, 1) := by decide +kernel
theorem dX12_goesHour_20 : decode cX12_goesHour 20 = .ok (.iload_n 3, 1) := by decide +kernel
theorem dX12_goesHour_21 : decode cX12_goesHour 21 = .ok (.aload_n 0, 1) := by decide +kernel
theorem dX12_goesHour_22 : decode cX12_goesHour 22 = .ok (.getfield 35, 3) := by decide +kernel
theorem dX12_goesHour_25 : decode cX12_goesHour 25 = .ok (.iconst 0, 1) := by decide +kernel
theorem dX12_goesHour_26 : decode cX12_goesHour 26 = .ok (.iaload, 1) := by decide +kernel
theorem dX12_goesHour_27 : decode cX12_goesHour 27 = .ok (.if_icmp .ge 61, 3) := by decide +kernel
theorem dX12_goesHour_30 : decode cX12_goesHour 30 = .ok (.aload_n 0, 1) := by decide +kernel
theorem dX12_goesHour_31 : decode cX12_goesHour 31 = .ok (.iload_n 3, 1) := by decide +kernel
theorem dX12_goesHour_32 : decode cX12_goesHour 32 = .ok (.iload_n 2, 1) := by decide +kernel
theorem dX12_goesHour_33 : decode cX12_goesHour 33 = .ok (.invokevirtual 358, 3) := by decide +kernel
theorem dX12_goesHour_36 : decode cX12_goesHour 36 = .ok (.istore 4, 2) := by decide +kernel
theorem dX12_goesHour_38 : decode cX12_goesHour 38 = .ok (.iload 4, 2) := by decide +kernel
theorem dX12_goesHour_40 : decode cX12_goesHour 40 = .ok (.ifCond .ge 6, 3) := by decide +kernel
theorem dX12_goesHour_43 : decode cX12_goesHour 43 = .ok (.goto 39, 3) := by decide +kernel
theorem dX12_goesHour_46 : decode cX12_goesHour 46 = .ok (.aload_n 0, 1) := by decide +kernel
theorem dX12_goesHour_47 : decode cX12_goesHour 47 = .ok (.iload_n 3, 1) := by decide +kernel
theorem dX12_goesHour_48 : decode cX12_goesHour 48 = .ok (.iload_n 2, 1) := by decide +kernel
theorem dX12_goesHour_49 : decode cX12_goesHour 49 = .ok (.invokevirtual 391, 3) := by decide +kernel
theorem dX12_goesHour_52 : decode cX12_goesHour 52 = .ok (.ifCond .eq 7, 3) := by decide +kernel
theorem dX12_goesHour_55 : decode cX12_goesHour 55 = .ok (.iconst 3, 1) := by decide +kernel
theorem dX12_goesHour_56 : decode cX12_goesHour 56 = .ok (.goto 4, 3) := by decide +kernel
theorem dX12_goesHour_59 : decode cX12_goesHour 59 = .ok (.iconst 1, 1) := by decide +kernel
theorem dX12_goesHour_60 : decode cX12_goesHour 60 = .ok (.istore 5, 2) := by decide +kernel
theorem dX12_goesHour_62 : decode cX12_goesHour 62 = .ok (.aload_n 0, 1) := by decide +kernel
theorem dX12_goesHour_63 : decode cX12_goesHour 63 = .ok (.getfield 35, 3) := by decide +kernel
theorem dX12_goesHour_66 : decode cX12_goesHour 66 = .ok (.bipush 58, 2) := by decide +kernel
theorem dX12_goesHour_68 : decode cX12_goesHour 68 = .ok (.iload 4, 2) := by decide +kernel
theorem dX12_goesHour_70 : decode cX12_goesHour 70 = .ok (.iadd, 1) := by decide +kernel
theorem dX12_goesHour_71 : decode cX12_goesHour 71 = .ok (.dup2, 1) := by decide +kernel
theorem dX12_goesHour_72 : decode cX12_goesHour 72 = .ok (.iaload, 1) := by decide +kernel
theorem dX12_goesHour_73 : decode cX12_goesHour 73 = .ok (.iload 5, 2) := by decide +kernel
theorem dX12_goesHour_75 : decode cX12_goesHour 75 = .ok (.iadd, 1) := by decide +kernel
theorem dX12_goesHour_76 : decode cX12_goesHour 76 = .ok (.iastore, 1) := by decide +kernel
theorem dX12_goesHour_77 : decode cX12_goesHour 77 = .ok (.iload_n 1, 1) := by decide +kernel
theorem dX12_goesHour_78 : decode cX12_goesHour 78 = .ok (.iload 5, 2) := by decide +kernel
theorem dX12_goesHour_80 : decode cX12_goesHour 80 = .ok (.iadd, 1) := by decide +kernel
theorem dX12_goesHour_81 : decode cX12_goesHour 81 = .ok (.istore_n 1, 1) := by decide +kernel
theorem dX12_goesHour_82 : decode cX12_goesHour 82 = .ok (.iinc 3 1, 3) := by decide +kernel
theorem dX12_goesHour_85 : decode cX12_goesHour 85 = .ok (.goto (-65), 3) := by decide +kernel
theorem dX12_goesHour_88 : decode cX12_goesHour 88 = .ok (.iinc 2 1, 3) := by decide +kernel
theorem dX12_goesHour_91 : decode cX12_goesHour 91 = .ok (.goto (-83), 3) := by decide +kernel
theorem dX12_goesHour_94 : decode cX12_goesHour 94 = .ok (.iconst 0, 1) := by decide +kernel
theorem dX12_goesHour_95 : decode cX12_goesHour 95 = .ok (.istore_n 2, 1) := by decide +kernel
theorem dX12_goesHour_96 : decode cX12_goesHour 96 = .ok (.iload_n 2, 1) := by decide +kernel
theorem dX12_goesHour_97 : decode cX12_goesHour 97 = .ok (.aload_n 0, 1) := by decide +kernel
theorem dX12_goesHour_98 : decode cX12_goesHour 98 = .ok (.getfield 35, 3) := by decide +kernel
theorem dX12_goesHour_101 : decode cX12_goesHour 101 = .ok (.iconst 3, 1) := by decide +kernel
theorem dX12_goesHour_102 : decode cX12_goesHour 102 = .ok (.iaload, 1) := by decide +kernel
theorem dX12_goesHour_103 : decode cX12_goesHour 103 = .ok (.if_icmp .ge 84, 3) := by decide +kernel
theorem dX12_goesHour_106 : decode cX12_goesHour 106 = .ok (.aload_n 0, 1) := by decide +kernel
theorem dX12_goesHour_107 : decode cX12_goesHour 107 = .ok (.getfield 35, 3) := by decide +kernel
theorem dX12_goesHour_110 : decode cX12_goesHour 110 = .ok (.bipush 46, 2) := by decide +kernel
theorem dX12_goesHour_112 : decode cX12_goesHour 112 = .ok (.iload_n 2, 1) := by decide +kernel
theorem dX12_goesHour_113 : decode cX12_goesHour 113 = .ok (.iadd, 1) := by decide +kernel
theorem dX12_goesHour_114 : decode cX12_goesHour 114 = .ok (.aload_n 0, 1) := by decide +kernel
theorem dX12_goesHour_115 : decode cX12_goesHour 115 = .ok (.getfield 47, 3) := by decide +kernel
theorem dX12_goesHour_118 : decode cX12_goesHour 118 = .ok (.iload_n 2, 1) := by decide +kernel
theorem dX12_goesHour_119 : decode cX12_goesHour 119 = .ok (.iaload, 1) := by decide +kernel
theorem dX12_goesHour_120 : decode cX12_goesHour 120 = .ok (.bipush 6, 2) := by decide +kernel
theorem dX12_goesHour_122 : decode cX12_goesHour 122 = .ok (.if_icmp .ge 30, 3) := by decide +kernel
theorem dX12_goesHour_125 : decode cX12_goesHour 125 = .ok (.aload_n 0, 1) := by decide +kernel
theorem dX12_goesHour_126 : decode cX12_goesHour 126 = .ok (.getfield 35, 3) := by decide +kernel
theorem dX12_goesHour_129 : decode cX12_goesHour 129 = .ok (.bipush 46, 2) := by decide +kernel
theorem dX12_goesHour_131 : decode cX12_goesHour 131 = .ok (.iload_n 2, 1) := by decide +kernel
theorem dX12_goesHour_132 : decode cX12_goesHour 132 = .ok (.iadd, 1) := by decide +kernel
theorem dX12_goesHour_133 : decode cX12_goesHour 133 = .ok (.iaload, 1) := by decide +kernel
theorem dX12_goesHour_134 : decode cX12_goesHour 134 = .ok (.aload_n 0, 1) := by decide +kernel
theorem dX12_goesHour_135 : decode cX12_goesHour 135 = .ok (.getfield 35, 3) := by decide +kernel
theorem dX12_goesHour_138 : decode cX12_goesHour 138 = .ok (.bipush 16, 2) := by decide +kernel
theorem dX12_goesHour_140 : decode cX12_goesHour 140 = .ok (.aload_n 0, 1) := by decide +kernel
theorem dX12_goesHour_141 : decode cX12_goesHour 141 = .ok (.getfield 47, 3) := by decide +kernel
theorem dX12_goesHour_144 : decode cX12_goesHour 144 = .ok (.iload_n 2, 1) := by decide +kernel
theorem dX12_goesHour_145 : decode cX12_goesHour 145 = .ok (.iaload, 1) := by decide +kernel
