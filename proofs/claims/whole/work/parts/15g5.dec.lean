theorem dX12_goesAhead_16 : decode cX12_goesAhead 16 = .ok (.iinc 2 1, 3) := by decide +kernel
theorem dX12_goesAhead_19 : decode cX12_goesAhead 19 = .ok (.goto (-13), 3) := by decide +kernel
theorem dX12_goesAhead_22 : decode cX12_goesAhead 22 = .ok (.return_, 1) := by decide +kernel
theorem dX12_holderIn_0 : decode cX12_holderIn 0 = .ok (.aload_n 0, 1) := by decide +kernel
theorem dX12_holderIn_1 : decode cX12_holderIn 1 = .ok (.iconst 0, 1) := by decide +kernel
theorem dX12_holderIn_2 : decode cX12_holderIn 2 = .ok (.putfield 69, 3) := by decide +kernel
theorem dX12_holderIn_5 : decode cX12_holderIn 5 = .ok (.aload_n 0, 1) := by decide +kernel
theorem dX12_holderIn_6 : decode cX12_holderIn 6 = .ok (.iconst 0, 1) := by decide +kernel
theorem dX12_holderIn_7 : decode cX12_holderIn 7 = .ok (.putfield 72, 3) := by decide +kernel
theorem dX12_holderIn_10 : decode cX12_holderIn 10 = .ok (.aload_n 0, 1) := by decide +kernel
theorem dX12_holderIn_11 : decode cX12_holderIn 11 = .ok (.iload_n 1, 1) := by decide +kernel
theorem dX12_holderIn_12 : decode cX12_holderIn 12 = .ok (.iload_n 2, 1) := by decide +kernel
theorem dX12_holderIn_13 : decode cX12_holderIn 13 = .ok (.invokevirtual 388, 3) := by decide +kernel
theorem dX12_holderIn_16 : decode cX12_holderIn 16 = .ok (.ifCond .ne 9, 3) := by decide +kernel
theorem dX12_holderIn_19 : decode cX12_holderIn 19 = .ok (.aload_n 0, 1) := by decide +kernel
theorem dX12_holderIn_20 : decode cX12_holderIn 20 = .ok (.iconst 2, 1) := by decide +kernel
theorem dX12_holderIn_21 : decode cX12_holderIn 21 = .ok (.invokevirtual 363, 3) := by decide +kernel
theorem dX12_holderIn_24 : decode cX12_holderIn 24 = .ok (.ireturn, 1) := by decide +kernel
theorem dX12_holderIn_25 : decode cX12_holderIn 25 = .ok (.iload_n 3, 1) := by decide +kernel
theorem dX12_holderIn_26 : decode cX12_holderIn 26 = .ok (.invokestatic 429, 3) := by decide +kernel
theorem dX12_holderIn_29 : decode cX12_holderIn 29 = .ok (.ifCond .ne 9, 3) := by decide +kernel
theorem dX12_holderIn_32 : decode cX12_holderIn 32 = .ok (.aload_n 0, 1) := by decide +kernel
theorem dX12_holderIn_33 : decode cX12_holderIn 33 = .ok (.iconst 5, 1) := by decide +kernel
theorem dX12_holderIn_34 : decode cX12_holderIn 34 = .ok (.invokevirtual 363, 3) := by decide +kernel
theorem dX12_holderIn_37 : decode cX12_holderIn 37 = .ok (.ireturn, 1) := by decide +kernel
theorem dX12_holderIn_38 : decode cX12_holderIn 38 = .ok (.aload_n 0, 1) := by decide +kernel
theorem dX12_holderIn_39 : decode cX12_holderIn 39 = .ok (.iload_n 3, 1) := by decide +kernel
theorem dX12_holderIn_40 : decode cX12_holderIn 40 = .ok (.invokevirtual 432, 3) := by decide +kernel
theorem dX12_holderIn_43 : decode cX12_holderIn 43 = .ok (.aload_n 0, 1) := by decide +kernel
theorem dX12_holderIn_44 : decode cX12_holderIn 44 = .ok (.invokevirtual 366, 3) := by decide +kernel
theorem dX12_holderIn_47 : decode cX12_holderIn 47 = .ok (.aload_n 0, 1) := by decide +kernel
theorem dX12_holderIn_48 : decode cX12_holderIn 48 = .ok (.iload_n 1, 1) := by decide +kernel
theorem dX12_holderIn_49 : decode cX12_holderIn 49 = .ok (.iload_n 2, 1) := by decide +kernel
theorem dX12_holderIn_50 : decode cX12_holderIn 50 = .ok (.invokevirtual 358, 3) := by decide +kernel
theorem dX12_holderIn_53 : decode cX12_holderIn 53 = .ok (.istore 4, 2) := by decide +kernel
theorem dX12_holderIn_55 : decode cX12_holderIn 55 = .ok (.aload_n 0, 1) := by decide +kernel
theorem dX12_holderIn_56 : decode cX12_holderIn 56 = .ok (.invokevirtual 435, 3) := by decide +kernel
theorem dX12_holderIn_59 : decode cX12_holderIn 59 = .ok (.aload_n 0, 1) := by decide +kernel
theorem dX12_holderIn_60 : decode cX12_holderIn 60 = .ok (.iload 4, 2) := by decide +kernel
theorem dX12_holderIn_62 : decode cX12_holderIn 62 = .ok (.invokevirtual 414, 3) := by decide +kernel
theorem dX12_holderIn_65 : decode cX12_holderIn 65 = .ok (.ireturn, 1) := by decide +kernel
theorem dX12_cellIn_0 : decode cX12_cellIn 0 = .ok (.aload_n 0, 1) := by decide +kernel
theorem dX12_cellIn_1 : decode cX12_cellIn 1 = .ok (.iload_n 2, 1) := by decide +kernel
theorem dX12_cellIn_2 : decode cX12_cellIn 2 = .ok (.invokevirtual 432, 3) := by decide +kernel
theorem dX12_cellIn_5 : decode cX12_cellIn 5 = .ok (.aload_n 0, 1) := by decide +kernel
theorem dX12_cellIn_6 : decode cX12_cellIn 6 = .ok (.getfield 35, 3) := by decide +kernel
theorem dX12_cellIn_9 : decode cX12_cellIn 9 = .ok (.iload_n 1, 1) := by decide +kernel
theorem dX12_cellIn_10 : decode cX12_cellIn 10 = .ok (.iaload, 1) := by decide +kernel
theorem dX12_cellIn_11 : decode cX12_cellIn 11 = .ok (.istore_n 3, 1) := by decide +kernel
theorem dX12_cellIn_12 : decode cX12_cellIn 12 = .ok (.aload_n 0, 1) := by decide +kernel
theorem dX12_cellIn_13 : decode cX12_cellIn 13 = .ok (.invokevirtual 435, 3) := by decide +kernel
theorem dX12_cellIn_16 : decode cX12_cellIn 16 = .ok (.iload_n 3, 1) := by decide +kernel
theorem dX12_cellIn_17 : decode cX12_cellIn 17 = .ok (.ireturn, 1) := by decide +kernel
theorem dX12_pointsIn_0 : decode cX12_pointsIn 0 = .ok (.aload_n 0, 1) := by decide +kernel
theorem dX12_pointsIn_1 : decode cX12_pointsIn 1 = .ok (.iconst 0, 1) := by decide +kernel
theorem dX12_pointsIn_2 : decode cX12_pointsIn 2 = .ok (.putfield 69, 3) := by decide +kernel
theorem dX12_pointsIn_5 : decode cX12_pointsIn 5 = .ok (.aload_n 0, 1) := by decide +kernel
theorem dX12_pointsIn_6 : decode cX12_pointsIn 6 = .ok (.iconst 0, 1) := by decide +kernel
theorem dX12_pointsIn_7 : decode cX12_pointsIn 7 = .ok (.putfield 72, 3) := by decide +kernel
theorem dX12_pointsIn_10 : decode cX12_pointsIn 10 = .ok (.aload_n 0, 1) := by decide +kernel
theorem dX12_pointsIn_11 : decode cX12_pointsIn 11 = .ok (.iload_n 1, 1) := by decide +kernel
theorem dX12_pointsIn_12 : decode cX12_pointsIn 12 = .ok (.invokevirtual 383, 3) := by decide +kernel
theorem dX12_pointsIn_15 : decode cX12_pointsIn 15 = .ok (.ifCond .ne 9, 3) := by decide +kernel
theorem dX12_pointsIn_18 : decode cX12_pointsIn 18 = .ok (.aload_n 0, 1) := by decide +kernel
theorem dX12_pointsIn_19 : decode cX12_pointsIn 19 = .ok (.iconst 2, 1) := by decide +kernel
theorem dX12_pointsIn_20 : decode cX12_pointsIn 20 = .ok (.invokevirtual 363, 3) := by decide +kernel
theorem dX12_pointsIn_23 : decode cX12_pointsIn 23 = .ok (.ireturn, 1) := by decide +kernel
theorem dX12_pointsIn_24 : decode cX12_pointsIn 24 = .ok (.iload_n 2, 1) := by decide +kernel
theorem dX12_pointsIn_25 : decode cX12_pointsIn 25 = .ok (.invokestatic 429, 3) := by decide +kernel
theorem dX12_pointsIn_28 : decode cX12_pointsIn 28 = .ok (.ifCond .eq 15, 3) := by decide +kernel
theorem dX12_pointsIn_31 : decode cX12_pointsIn 31 = .ok (.aload_n 0, 1) := by decide +kernel
theorem dX12_pointsIn_32 : decode cX12_pointsIn 32 = .ok (.bipush 58, 2) := by decide +kernel
theorem dX12_pointsIn_34 : decode cX12_pointsIn 34 = .ok (.iload_n 1, 1) := by decide +kernel
theorem dX12_pointsIn_35 : decode cX12_pointsIn 35 = .ok (.iadd, 1) := by decide +kernel
theorem dX12_pointsIn_36 : decode cX12_pointsIn 36 = .ok (.iload_n 2, 1) := by decide +kernel
theorem dX12_pointsIn_37 : decode cX12_pointsIn 37 = .ok (.invokevirtual 438, 3) := by decide +kernel
theorem dX12_pointsIn_40 : decode cX12_pointsIn 40 = .ok (.goto 8, 3) := by decide +kernel
theorem dX12_pointsIn_43 : decode cX12_pointsIn 43 = .ok (.aload_n 0, 1) := by decide +kernel
theorem dX12_pointsIn_44 : decode cX12_pointsIn 44 = .ok (.iconst 5, 1) := by decide +kernel
theorem dX12_pointsIn_45 : decode cX12_pointsIn 45 = .ok (.invokevirtual 363, 3) := by decide +kernel
theorem dX12_pointsIn_48 : decode cX12_pointsIn 48 = .ok (.ireturn, 1) := by decide +kernel
theorem dX12_lipsIn_0 : decode cX12_lipsIn 0 = .ok (.aload_n 0, 1) := by decide +kernel
theorem dX12_lipsIn_1 : decode cX12_lipsIn 1 = .ok (.iconst 0, 1) := by decide +kernel
theorem dX12_lipsIn_2 : decode cX12_lipsIn 2 = .ok (.putfield 69, 3) := by decide +kernel
theorem dX12_lipsIn_5 : decode cX12_lipsIn 5 = .ok (.aload_n 0, 1) := by decide +kernel
theorem dX12_lipsIn_6 : decode cX12_lipsIn 6 = .ok (.iconst 0, 1) := by decide +kernel
theorem dX12_lipsIn_7 : decode cX12_lipsIn 7 = .ok (.putfield 72, 3) := by decide +kernel
theorem dX12_lipsIn_10 : decode cX12_lipsIn 10 = .ok (.aload_n 0, 1) := by decide +kernel
theorem dX12_lipsIn_11 : decode cX12_lipsIn 11 = .ok (.iload_n 1, 1) := by decide +kernel
theorem dX12_lipsIn_12 : decode cX12_lipsIn 12 = .ok (.invokevirtual 383, 3) := by decide +kernel
theorem dX12_lipsIn_15 : decode cX12_lipsIn 15 = .ok (.ifCond .ne 9, 3) := by decide +kernel
theorem dX12_lipsIn_18 : decode cX12_lipsIn 18 = .ok (.aload_n 0, 1) := by decide +kernel
theorem dX12_lipsIn_19 : decode cX12_lipsIn 19 = .ok (.iconst 2, 1) := by decide +kernel
theorem dX12_lipsIn_20 : decode cX12_lipsIn 20 = .ok (.invokevirtual 363, 3) := by decide +kernel
theorem dX12_lipsIn_23 : decode cX12_lipsIn 23 = .ok (.ireturn, 1) := by decide +kernel
theorem dX12_lipsIn_24 : decode cX12_lipsIn 24 = .ok (.iload_n 2, 1) := by decide +kernel
theorem dX12_lipsIn_25 : decode cX12_lipsIn 25 = .ok (.invokestatic 429, 3) := by decide +kernel
theorem dX12_lipsIn_28 : decode cX12_lipsIn 28 = .ok (.ifCond .eq 15, 3) := by decide +kernel
theorem dX12_lipsIn_31 : decode cX12_lipsIn 31 = .ok (.aload_n 0, 1) := by decide +kernel
theorem dX12_lipsIn_32 : decode cX12_lipsIn 32 = .ok (.bipush 46, 2) := by decide +kernel
theorem dX12_lipsIn_34 : decode cX12_lipsIn 34 = .ok (.iload_n 1, 1) := by decide +kernel
theorem dX12_lipsIn_35 : decode cX12_lipsIn 35 = .ok (.iadd, 1) := by decide +kernel
theorem dX12_lipsIn_36 : decode cX12_lipsIn 36 = .ok (.iload_n 2, 1) := by decide +kernel
theorem dX12_lipsIn_37 : decode cX12_lipsIn 37 = .ok (.invokevirtual 438, 3) := by decide +kernel
theorem dX12_lipsIn_40 : decode cX12_lipsIn 40 = .ok (.goto 8, 3) := by decide +kernel
theorem dX12_lipsIn_43 : decode cX12_lipsIn 43 = .ok (.aload_n 0, 1) := by decide +kernel
theorem dX12_lipsIn_44 : decode cX12_lipsIn 44 = .ok (.iconst 5, 1) := by decide +kernel
theorem dX12_lipsIn_45 : decode cX12_lipsIn 45 = .ok (.invokevirtual 363, 3) := by decide +kernel
theorem dX12_lipsIn_48 : decode cX12_lipsIn 48 = .ok (.ireturn, 1) := by decide +kernel
theorem dX12_tiredIn_0 : decode cX12_tiredIn 0 = .ok (.aload_n 0, 1) := by decide +kernel
theorem dX12_tiredIn_1 : decode cX12_tiredIn 1 = .ok (.iconst 0, 1) := by decide +kernel
theorem dX12_tiredIn_2 : decode cX12_tiredIn 2 = .ok (.putfield 69, 3) := by decide +kernel
theorem dX12_tiredIn_5 : decode cX12_tiredIn 5 = .ok (.aload_n 0, 1) := by decide +kernel
theorem dX12_tiredIn_6 : decode cX12_tiredIn 6 = .ok (.iconst 0, 1) := by decide +kernel
theorem dX12_tiredIn_7 : decode cX12_tiredIn 7 = .ok (.putfield 72, 3) := by decide +kernel
theorem dX12_tiredIn_10 : decode cX12_tiredIn 10 = .ok (.aload_n 0, 1) := by decide +kernel
theorem dX12_tiredIn_11 : decode cX12_tiredIn 11 = .ok (.iload_n 1, 1) := by decide +kernel
theorem dX12_tiredIn_12 : decode cX12_tiredIn 12 = .ok (.invokevirtual 383, 3) := by decide +kernel
theorem dX12_tiredIn_15 : decode cX12_tiredIn 15 = .ok (.ifCond .ne 9, 3) := by decide +kernel
theorem dX12_tiredIn_18 : decode cX12_tiredIn 18 = .ok (.aload_n 0, 1) := by decide +kernel
theorem dX12_tiredIn_19 : decode cX12_tiredIn 19 = .ok (.iconst 2, 1) := by decide +kernel
theorem dX12_tiredIn_20 : decode cX12_tiredIn 20 = .ok (.invokevirtual 363, 3) := by decide +kernel
theorem dX12_tiredIn_23 : decode cX12_tiredIn 23 = .ok (.ireturn, 1) := by decide +kernel
theorem dX12_tiredIn_24 : decode cX12_tiredIn 24 = .ok (.iconst (-1), 1) := by decide +kernel
theorem dX12_tiredIn_25 : decode cX12_tiredIn 25 = .ok (.istore_n 2, 1) := by decide +kernel
theorem dX12_tiredIn_26 : decode cX12_tiredIn 26 = .ok (.aload_n 0, 1) := by decide +kernel
theorem dX12_tiredIn_27 : decode cX12_tiredIn 27 = .ok (.invokevirtual 426, 3) := by decide +kernel
theorem dX12_tiredIn_30 : decode cX12_tiredIn 30 = .ok (.iconst 0, 1) := by decide +kernel
theorem dX12_tiredIn_31 : decode cX12_tiredIn 31 = .ok (.istore_n 3, 1) := by decide +kernel
theorem dX12_tiredIn_32 : decode cX12_tiredIn 32 = .ok (.iload_n 3, 1) := by decide +kernel
theorem dX12_tiredIn_33 : decode cX12_tiredIn 33 = .ok (.sipush 200, 3) := by decide +kernel
theorem dX12_tiredIn_36 : decode cX12_tiredIn 36 = .ok (.if_icmp .gt 31, 3) := by decide +kernel
theorem dX12_tiredIn_39 : decode cX12_tiredIn 39 = .ok (.iload_n 2, 1) := by decide +kernel
theorem dX12_tiredIn_40 : decode cX12_tiredIn 40 = .ok (.ifCond .ge 27, 3) := by decide +kernel
theorem dX12_tiredIn_43 : decode cX12_tiredIn 43 = .ok (.aload_n 0, 1) := by decide +kernel
theorem dX12_tiredIn_44 : decode cX12_tiredIn 44 = .ok (.invokevirtual 399, 3) := by decide +kernel
theorem dX12_tiredIn_47 : decode cX12_tiredIn 47 = .ok (.pop, 1) := by decide +kernel
theorem dX12_tiredIn_48 : decode cX12_tiredIn 48 = .ok (.aload_n 0, 1) := by decide +kernel
theorem dX12_tiredIn_49 : decode cX12_tiredIn 49 = .ok (.getfield 337, 3) := by decide +kernel
theorem dX12_tiredIn_52 : decode cX12_tiredIn 52 = .ok (.iload_n 1, 1) := by decide +kernel
theorem dX12_tiredIn_53 : decode cX12_tiredIn 53 = .ok (.invokestatic 108, 3) := by decide +kernel
theorem dX12_tiredIn_56 : decode cX12_tiredIn 56 = .ok (.ifCond .eq 5, 3) := by decide +kernel
theorem dX12_tiredIn_59 : decode cX12_tiredIn 59 = .ok (.iload_n 3, 1) := by decide +kernel
theorem dX12_tiredIn_60 : decode cX12_tiredIn 60 = .ok (.istore_n 2, 1) := by decide +kernel
theorem dX12_tiredIn_61 : decode cX12_tiredIn 61 = .ok (.iinc 3 1, 3) := by decide +kernel
theorem dX12_tiredIn_64 : decode cX12_tiredIn 64 = .ok (.goto (-32), 3) := by decide +kernel
theorem dX12_tiredIn_67 : decode cX12_tiredIn 67 = .ok (.aload_n 0, 1) := by decide +kernel
theorem dX12_tiredIn_68 : decode cX12_tiredIn 68 = .ok (.invokevirtual 435, 3) := by decide +kernel
theorem dX12_tiredIn_71 : decode cX12_tiredIn 71 = .ok (.iload_n 2, 1) := by decide +kernel
theorem dX12_tiredIn_72 : decode cX12_tiredIn 72 = .ok (.ifCond .ge 12, 3) := by decide +kernel
theorem dX12_tiredIn_75 : decode cX12_tiredIn 75 = .ok (.aload_n 0, 1) := by decide +kernel
theorem dX12_tiredIn_76 : decode cX12_tiredIn 76 = .ok (.bipush 8, 2) := by decide +kernel
theorem dX12_tiredIn_78 : decode cX12_tiredIn 78 = .ok (.invokevirtual 363, 3) := by decide +kernel
theorem dX12_tiredIn_81 : decode cX12_tiredIn 81 = .ok (.goto 4, 3) := by decide +kernel
theorem dX12_tiredIn_84 : decode cX12_tiredIn 84 = .ok (.iload_n 2, 1) := by decide +kernel
theorem dX12_tiredIn_85 : decode cX12_tiredIn 85 = .ok (.ireturn, 1) := by decide +kernel
theorem dX12_changesIn_0 : decode cX12_changesIn 0 = .ok (.aload_n 0, 1) := by decide +kernel
theorem dX12_changesIn_1 : decode cX12_changesIn 1 = .ok (.iconst 0, 1) := by decide +kernel
theorem dX12_changesIn_2 : decode cX12_changesIn 2 = .ok (.putfield 69, 3) := by decide +kernel
theorem dX12_changesIn_5 : decode cX12_changesIn 5 = .ok (.aload_n 0, 1) := by decide +kernel
theorem dX12_changesIn_6 : decode cX12_changesIn 6 = .ok (.iconst 0, 1) := by decide +kernel
theorem dX12_changesIn_7 : decode cX12_changesIn 7 = .ok (.putfield 72, 3) := by decide +kernel
theorem dX12_changesIn_10 : decode cX12_changesIn 10 = .ok (.aload_n 0, 1) := by decide +kernel
theorem dX12_changesIn_11 : decode cX12_changesIn 11 = .ok (.iload_n 1, 1) := by decide +kernel
theorem dX12_changesIn_12 : decode cX12_changesIn 12 = .ok (.iload_n 2, 1) := by decide +kernel
theorem dX12_changesIn_13 : decode cX12_changesIn 13 = .ok (.invokevirtual 388, 3) := by decide +kernel
theorem dX12_changesIn_16 : decode cX12_changesIn 16 = .ok (.ifCond .ne 9, 3) := by decide +kernel
theorem dX12_changesIn_19 : decode cX12_changesIn 19 = .ok (.aload_n 0, 1) := by decide +kernel
theorem dX12_changesIn_20 : decode cX12_changesIn 20 = .ok (.iconst 2, 1) := by decide +kernel
theorem dX12_changesIn_21 : decode cX12_changesIn 21 = .ok (.invokevirtual 363, 3) := by decide +kernel
theorem dX12_changesIn_24 : decode cX12_changesIn 24 = .ok (.ireturn, 1) := by decide +kernel
theorem dX12_changesIn_25 : decode cX12_changesIn 25 = .ok (.aload_n 0, 1) := by decide +kernel
theorem dX12_changesIn_26 : decode cX12_changesIn 26 = .ok (.invokevirtual 366, 3) := by decide +kernel
theorem dX12_changesIn_29 : decode cX12_changesIn 29 = .ok (.iconst (-1), 1) := by decide +kernel
theorem dX12_changesIn_30 : decode cX12_changesIn 30 = .ok (.aload_n 0, 1) := by decide +kernel
theorem dX12_changesIn_31 : decode cX12_changesIn 31 = .ok (.iload_n 1, 1) := by decide +kernel
theorem dX12_changesIn_32 : decode cX12_changesIn 32 = .ok (.iload_n 2, 1) := by decide +kernel
theorem dX12_changesIn_33 : decode cX12_changesIn 33 = .ok (.invokevirtual 358, 3) := by decide +kernel
theorem dX12_changesIn_36 : decode cX12_changesIn 36 = .ok (.invokestatic 260, 3) := by decide +kernel
theorem dX12_changesIn_39 : decode cX12_changesIn 39 = .ok (.istore_n 3, 1) := by decide +kernel
theorem dX12_changesIn_40 : decode cX12_changesIn 40 = .ok (.iconst (-1), 1) := by decide +kernel
theorem dX12_changesIn_41 : decode cX12_changesIn 41 = .ok (.istore 4, 2) := by decide +kernel
theorem dX12_changesIn_43 : decode cX12_changesIn 43 = .ok (.aload_n 0, 1) := by decide +kernel
theorem dX12_changesIn_44 : decode cX12_changesIn 44 = .ok (.invokevirtual 426, 3) := by decide +kernel
theorem dX12_changesIn_47 : decode cX12_changesIn 47 = .ok (.iconst 1, 1) := by decide +kernel
theorem dX12_changesIn_48 : decode cX12_changesIn 48 = .ok (.istore 5, 2) := by decide +kernel
theorem dX12_changesIn_50 : decode cX12_changesIn 50 = .ok (.iload 5, 2) := by decide +kernel
theorem dX12_changesIn_52 : decode cX12_changesIn 52 = .ok (.sipush 200, 3) := by decide +kernel
theorem dX12_changesIn_55 : decode cX12_changesIn 55 = .ok (.if_icmp .gt 41, 3) := by decide +kernel
theorem dX12_changesIn_58 : decode cX12_changesIn 58 = .ok (.iload 4, 2) := by decide +kernel
theorem dX12_changesIn_60 : decode cX12_changesIn 60 = .ok (.ifCond .ge 36, 3) := by decide +kernel
theorem dX12_changesIn_63 : decode cX12_changesIn 63 = .ok (.aload_n 0, 1) := by decide +kernel
theorem dX12_changesIn_64 : decode cX12_changesIn 64 = .ok (.invokevirtual 399, 3) := by decide +kernel
theorem dX12_changesIn_67 : decode cX12_changesIn 67 = .ok (.pop, 1) := by decide +kernel
theorem dX12_changesIn_68 : decode cX12_changesIn 68 = .ok (.aload_n 0, 1) := by decide +kernel
theorem dX12_changesIn_69 : decode cX12_changesIn 69 = .ok (.invokevirtual 366, 3) := by decide +kernel
theorem dX12_changesIn_72 : decode cX12_changesIn 72 = .ok (.iconst (-1), 1) := by decide +kernel
theorem dX12_changesIn_73 : decode cX12_changesIn 73 = .ok (.aload_n 0, 1) := by decide +kernel
theorem dX12_changesIn_74 : decode cX12_changesIn 74 = .ok (.iload_n 1, 1) := by decide +kernel
theorem dX12_changesIn_75 : decode cX12_changesIn 75 = .ok (.iload_n 2, 1) := by decide +kernel
theorem dX12_changesIn_76 : decode cX12_changesIn 76 = .ok (.invokevirtual 358, 3) := by decide +kernel
theorem dX12_changesIn_79 : decode cX12_changesIn 79 = .ok (.invokestatic 260, 3) := by decide +kernel
theorem dX12_changesIn_82 : decode cX12_changesIn 82 = .ok (.iload_n 3, 1) := by decide +kernel
theorem dX12_changesIn_83 : decode cX12_changesIn 83 = .ok (.if_icmp .eq 7, 3) := by decide +kernel
theorem dX12_changesIn_86 : decode cX12_changesIn 86 = .ok (.iload 5, 2) := by decide +kernel
theorem dX12_changesIn_88 : decode cX12_changesIn 88 = .ok (.istore 4, 2) := by decide +kernel
theorem dX12_changesIn_90 : decode cX12_changesIn 90 = .ok (.iinc 5 1, 3) := by decide +kernel
theorem dX12_changesIn_93 : decode cX12_changesIn 93 = .ok (.goto (-43), 3) := by decide +kernel
theorem dX12_changesIn_96 : decode cX12_changesIn 96 = .ok (.aload_n 0, 1) := by decide +kernel
theorem dX12_changesIn_97 : decode cX12_changesIn 97 = .ok (.invokevirtual 435, 3) := by decide +kernel
theorem dX12_changesIn_100 : decode cX12_changesIn 100 = .ok (.iload 4, 2) := by decide +kernel
theorem dX12_changesIn_102 : decode cX12_changesIn 102 = .ok (.ifCond .ge 12, 3) := by decide +kernel
theorem dX12_changesIn_105 : decode cX12_changesIn 105 = .ok (.aload_n 0, 1) := by decide +kernel
theorem dX12_changesIn_106 : decode cX12_changesIn 106 = .ok (.bipush 8, 2) := by decide +kernel
theorem dX12_changesIn_108 : decode cX12_changesIn 108 = .ok (.invokevirtual 363, 3) := by decide +kernel
theorem dX12_changesIn_111 : decode cX12_changesIn 111 = .ok (.goto 5, 3) := by decide +kernel
theorem dX12_changesIn_114 : decode cX12_changesIn 114 = .ok (.iload 4, 2) := by decide +kernel
theorem dX12_changesIn_116 : decode cX12_changesIn 116 = .ok (.ireturn, 1) := by decide +kernel
theorem dX12_digit_0 : decode cX12_digit 0 = .ok (.iload_n 0, 1) := by decide +kernel
theorem dX12_digit_1 : decode cX12_digit 1 = .ok (.istore_n 3, 1) := by decide +kernel
theorem dX12_digit_2 : decode cX12_digit 2 = .ok (.iconst 0, 1) := by decide +kernel
theorem dX12_digit_3 : decode cX12_digit 3 = .ok (.istore 4, 2) := by decide +kernel
theorem dX12_digit_5 : decode cX12_digit 5 = .ok (.iload 4, 2) := by decide +kernel
theorem dX12_digit_7 : decode cX12_digit 7 = .ok (.iload_n 1, 1) := by decide +kernel
theorem dX12_digit_8 : decode cX12_digit 8 = .ok (.if_icmp .ge 13, 3) := by decide +kernel
theorem dX12_digit_11 : decode cX12_digit 11 = .ok (.iload_n 3, 1) := by decide +kernel
theorem dX12_digit_12 : decode cX12_digit 12 = .ok (.iload_n 2, 1) := by decide +kernel
theorem dX12_digit_13 : decode cX12_digit 13 = .ok (.idiv, 1) := by decide +kernel
theorem dX12_digit_14 : decode cX12_digit 14 = .ok (.istore_n 3, 1) := by decide +kernel
theorem dX12_digit_15 : decode cX12_digit 15 = .ok (.iinc 4 1, 3) := by decide +kernel
theorem dX12_digit_18 : decode cX12_digit 18 = .ok (.goto (-13), 3) := by decide +kernel
theorem dX12_digit_21 : decode cX12_digit 21 = .ok (.iload_n 3, 1) := by decide +kernel
theorem dX12_digit_22 : decode cX12_digit 22 = .ok (.iload_n 2, 1) := by decide +kernel
theorem dX12_digit_23 : decode cX12_digit 23 = .ok (.irem, 1) := by decide +kernel
theorem dX12_digit_24 : decode cX12_digit 24 = .ok (.ireturn, 1) := by decide +kernel
theorem dX12_entryOf_0 : decode cX12_entryOf 0 = .ok (.iload_n 1, 1) := by decide +kernel
theorem dX12_entryOf_1 : decode cX12_entryOf 1 = .ok (.iload_n 3, 1) := by decide +kernel
theorem dX12_entryOf_2 : decode cX12_entryOf 2 = .ok (.iconst 1, 1) := by decide +kernel
theorem dX12_entryOf_3 : decode cX12_entryOf 3 = .ok (.isub, 1) := by decide +kernel
theorem dX12_entryOf_4 : decode cX12_entryOf 4 = .ok (.iload_n 2, 1) := by decide +kernel
theorem dX12_entryOf_5 : decode cX12_entryOf 5 = .ok (.isub, 1) := by decide +kernel
theorem dX12_entryOf_6 : decode cX12_entryOf 6 = .ok (.aload_n 0, 1) := by decide +kernel
theorem dX12_entryOf_7 : decode cX12_entryOf 7 = .ok (.getfield 35, 3) := by decide +kernel
theorem dX12_entryOf_10 : decode cX12_entryOf 10 = .ok (.iconst 2, 1) := by decide +kernel
theorem dX12_entryOf_11 : decode cX12_entryOf 11 = .ok (.iaload, 1) := by decide +kernel
theorem dX12_entryOf_12 : decode cX12_entryOf 12 = .ok (.iconst 1, 1) := by decide +kernel
theorem dX12_entryOf_13 : decode cX12_entryOf 13 = .ok (.iadd, 1) := by decide +kernel
theorem dX12_entryOf_14 : decode cX12_entryOf 14 = .ok (.invokestatic 441, 3) := by decide +kernel
theorem dX12_entryOf_17 : decode cX12_entryOf 17 = .ok (.istore 4, 2) := by decide +kernel
theorem dX12_entryOf_19 : decode cX12_entryOf 19 = .ok (.iload 4, 2) := by decide +kernel
theorem dX12_entryOf_21 : decode cX12_entryOf 21 = .ok (.aload_n 0, 1) := by decide +kernel
theorem dX12_entryOf_22 : decode cX12_entryOf 22 = .ok (.getfield 35, 3) := by decide +kernel
theorem dX12_entryOf_25 : decode cX12_entryOf 25 = .ok (.iconst 2, 1) := by decide +kernel
theorem dX12_entryOf_26 : decode cX12_entryOf 26 = .ok (.iaload, 1) := by decide +kernel
theorem dX12_entryOf_27 : decode cX12_entryOf 27 = .ok (.if_icmp .ne 8, 3) := by decide +kernel
theorem dX12_entryOf_30 : decode cX12_entryOf 30 = .ok (.bipush 6, 2) := by decide +kernel
theorem dX12_entryOf_32 : decode cX12_entryOf 32 = .ok (.goto 5, 3) := by decide +kernel
theorem dX12_entryOf_35 : decode cX12_entryOf 35 = .ok (.iload 4, 2) := by decide +kernel
theorem dX12_entryOf_37 : decode cX12_entryOf 37 = .ok (.ireturn, 1) := by decide +kernel
theorem dX12_heldBy_0 : decode cX12_heldBy 0 = .ok (.iconst 0, 1) := by decide +kernel
theorem dX12_heldBy_1 : decode cX12_heldBy 1 = .ok (.istore 6, 2) := by decide +kernel
theorem dX12_heldBy_3 : decode cX12_heldBy 3 = .ok (.aload_n 0, 1) := by decide +kernel
theorem dX12_heldBy_4 : decode cX12_heldBy 4 = .ok (.invokevirtual 426, 3) := by decide +kernel
theorem dX12_heldBy_7 : decode cX12_heldBy 7 = .ok (.aload_n 0, 1) := by decide +kernel
theorem dX12_heldBy_8 : decode cX12_heldBy 8 = .ok (.getfield 35, 3) := by decide +kernel
theorem dX12_heldBy_11 : decode cX12_heldBy 11 = .ok (.bipush 64, 2) := by decide +kernel
theorem dX12_heldBy_13 : decode cX12_heldBy 13 = .ok (.iload_n 1, 1) := by decide +kernel
theorem dX12_heldBy_14 : decode cX12_heldBy 14 = .ok (.iadd, 1) := by decide +kernel
theorem dX12_heldBy_15 : decode cX12_heldBy 15 = .ok (.iconst 1, 1) := by decide +kernel
theorem dX12_heldBy_16 : decode cX12_heldBy 16 = .ok (.iastore, 1) := by decide +kernel
theorem dX12_heldBy_17 : decode cX12_heldBy 17 = .ok (.iconst 0, 1) := by decide +kernel
theorem dX12_heldBy_18 : decode cX12_heldBy 18 = .ok (.istore 7, 2) := by decide +kernel
theorem dX12_heldBy_20 : decode cX12_heldBy 20 = .ok (.iload 7, 2) := by decide +kernel
theorem dX12_heldBy_22 : decode cX12_heldBy 22 = .ok (.iload 4, 2) := by decide +kernel
theorem dX12_heldBy_24 : decode cX12_heldBy 24 = .ok (.if_icmp .ge 60, 3) := by decide +kernel
theorem dX12_heldBy_27 : decode cX12_heldBy 27 = .ok (.aload_n 0, 1) := by decide +kernel
theorem dX12_heldBy_28 : decode cX12_heldBy 28 = .ok (.getfield 35, 3) := by decide +kernel
theorem dX12_heldBy_31 : decode cX12_heldBy 31 = .ok (.bipush 70, 2) := by decide +kernel
theorem dX12_heldBy_33 : decode cX12_heldBy 33 = .ok (.bipush 6, 2) := by decide +kernel
theorem dX12_heldBy_35 : decode cX12_heldBy 35 = .ok (.iload_n 1, 1) := by decide +kernel
theorem dX12_heldBy_36 : decode cX12_heldBy 36 = .ok (.imul, 1) := by decide +kernel
theorem dX12_heldBy_37 : decode cX12_heldBy 37 = .ok (.iadd, 1) := by decide +kernel
theorem dX12_heldBy_38 : decode cX12_heldBy 38 = .ok (.aload_n 0, 1) := by decide +kernel
theorem dX12_heldBy_39 : decode cX12_heldBy 39 = .ok (.iload 5, 2) := by decide +kernel
theorem dX12_heldBy_41 : decode cX12_heldBy 41 = .ok (.iload 7, 2) := by decide +kernel
theorem dX12_heldBy_43 : decode cX12_heldBy 43 = .ok (.iload 4, 2) := by decide +kernel
theorem dX12_heldBy_45 : decode cX12_heldBy 45 = .ok (.invokevirtual 444, 3) := by decide +kernel
theorem dX12_heldBy_48 : decode cX12_heldBy 48 = .ok (.iastore, 1) := by decide +kernel
theorem dX12_heldBy_49 : decode cX12_heldBy 49 = .ok (.aload_n 0, 1) := by decide +kernel
theorem dX12_heldBy_50 : decode cX12_heldBy 50 = .ok (.invokevirtual 366, 3) := by decide +kernel
theorem dX12_heldBy_53 : decode cX12_heldBy 53 = .ok (.iload 6, 2) := by decide +kernel
theorem dX12_heldBy_55 : decode cX12_heldBy 55 = .ok (.aload_n 0, 1) := by decide +kernel
theorem dX12_heldBy_56 : decode cX12_heldBy 56 = .ok (.iload_n 2, 1) := by decide +kernel
theorem dX12_heldBy_57 : decode cX12_heldBy 57 = .ok (.iload_n 3, 1) := by decide +kernel
theorem dX12_heldBy_58 : decode cX12_heldBy 58 = .ok (.invokevirtual 358, 3) := by decide +kernel
theorem dX12_heldBy_61 : decode cX12_heldBy 61 = .ok (.iload_n 1, 1) := by decide +kernel
theorem dX12_heldBy_62 : decode cX12_heldBy 62 = .ok (.if_icmp .ne 7, 3) := by decide +kernel
theorem dX12_heldBy_65 : decode cX12_heldBy 65 = .ok (.iconst 1, 1) := by decide +kernel
theorem dX12_heldBy_66 : decode cX12_heldBy 66 = .ok (.goto 4, 3) := by decide +kernel
theorem dX12_heldBy_69 : decode cX12_heldBy 69 = .ok (.iconst 0, 1) := by decide +kernel
theorem dX12_heldBy_70 : decode cX12_heldBy 70 = .ok (.iadd, 1) := by decide +kernel
theorem dX12_heldBy_71 : decode cX12_heldBy 71 = .ok (.istore 6, 2) := by decide +kernel
theorem dX12_heldBy_73 : decode cX12_heldBy 73 = .ok (.aload_n 0, 1) := by decide +kernel
theorem dX12_heldBy_74 : decode cX12_heldBy 74 = .ok (.invokevirtual 399, 3) := by decide +kernel
theorem dX12_heldBy_77 : decode cX12_heldBy 77 = .ok (.pop, 1) := by decide +kernel
theorem dX12_heldBy_78 : decode cX12_heldBy 78 = .ok (.iinc 7 1, 3) := by decide +kernel
theorem dX12_heldBy_81 : decode cX12_heldBy 81 = .ok (.goto (-61), 3) := by decide +kernel
theorem dX12_heldBy_84 : decode cX12_heldBy 84 = .ok (.aload_n 0, 1) := by decide +kernel
theorem dX12_heldBy_85 : decode cX12_heldBy 85 = .ok (.invokevirtual 435, 3) := by decide +kernel
theorem dX12_heldBy_88 : decode cX12_heldBy 88 = .ok (.iload 6, 2) := by decide +kernel
theorem dX12_heldBy_90 : decode cX12_heldBy 90 = .ok (.ireturn, 1) := by decide +kernel
theorem dX12_bestCode_0 : decode cX12_bestCode 0 = .ok (.iconst 1, 1) := by decide +kernel
theorem dX12_bestCode_1 : decode cX12_bestCode 1 = .ok (.istore 5, 2) := by decide +kernel
theorem dX12_bestCode_3 : decode cX12_bestCode 3 = .ok (.iconst 0, 1) := by decide +kernel
theorem dX12_bestCode_4 : decode cX12_bestCode 4 = .ok (.istore 6, 2) := by decide +kernel
theorem dX12_bestCode_6 : decode cX12_bestCode 6 = .ok (.iload 6, 2) := by decide +kernel
theorem dX12_bestCode_8 : decode cX12_bestCode 8 = .ok (.iload 4, 2) := by decide +kernel
theorem dX12_bestCode_10 : decode cX12_bestCode 10 = .ok (.if_icmp .ge 22, 3) := by decide +kernel
theorem dX12_bestCode_13 : decode cX12_bestCode 13 = .ok (.iload 5, 2) := by decide +kernel
theorem dX12_bestCode_15 : decode cX12_bestCode 15 = .ok (.aload_n 0, 1) := by decide +kernel
theorem dX12_bestCode_16 : decode cX12_bestCode 16 = .ok (.getfield 35, 3) := by decide +kernel
theorem dX12_bestCode_19 : decode cX12_bestCode 19 = .ok (.iconst 2, 1) := by decide +kernel
theorem dX12_bestCode_20 : decode cX12_bestCode 20 = .ok (.iaload, 1) := by decide +kernel
theorem dX12_bestCode_21 : decode cX12_bestCode 21 = .ok (.iconst 1, 1) := by decide +kernel
theorem dX12_bestCode_22 : decode cX12_bestCode 22 = .ok (.iadd, 1) := by decide +kernel
theorem dX12_bestCode_23 : decode cX12_bestCode 23 = .ok (.imul, 1) := by decide +kernel
theorem dX12_bestCode_24 : decode cX12_bestCode 24 = .ok (.istore 5, 2) := by decide +kernel
theorem dX12_bestCode_26 : decode cX12_bestCode 26 = .ok (.iinc 6 1, 3) := by decide +kernel
theorem dX12_bestCode_29 : decode cX12_bestCode 29 = .ok (.goto (-23), 3) := by decide +kernel
theorem dX12_bestCode_32 : decode cX12_bestCode 32 = .ok (.iconst 0, 1) := by decide +kernel
theorem dX12_bestCode_33 : decode cX12_bestCode 33 = .ok (.istore 6, 2) := by decide +kernel
theorem dX12_bestCode_35 : decode cX12_bestCode 35 = .ok (.aload_n 0, 1) := by decide +kernel
theorem dX12_bestCode_36 : decode cX12_bestCode 36 = .ok (.iconst (-1), 1) := by decide +kernel
theorem dX12_bestCode_37 : decode cX12_bestCode 37 = .ok (.putfield 447, 3) := by decide +kernel
theorem dX12_bestCode_40 : decode cX12_bestCode 40 = .ok (.iconst 0, 1) := by decide +kernel
theorem dX12_bestCode_41 : decode cX12_bestCode 41 = .ok (.istore 7, 2) := by decide +kernel
theorem dX12_bestCode_43 : decode cX12_bestCode 43 = .ok (.iload 7, 2) := by decide +kernel
theorem dX12_bestCode_45 : decode cX12_bestCode 45 = .ok (.iload 5, 2) := by decide +kernel
theorem dX12_bestCode_47 : decode cX12_bestCode 47 = .ok (.if_icmp .ge 44, 3) := by decide +kernel
theorem dX12_bestCode_50 : decode cX12_bestCode 50 = .ok (.aload_n 0, 1) := by decide +kernel
theorem dX12_bestCode_51 : decode cX12_bestCode 51 = .ok (.iload_n 1, 1) := by decide +kernel
theorem dX12_bestCode_52 : decode cX12_bestCode 52 = .ok (.iload_n 2, 1) := by decide +kernel
theorem dX12_bestCode_53 : decode cX12_bestCode 53 = .ok (.iload_n 3, 1) := by decide +kernel
theorem dX12_bestCode_54 : decode cX12_bestCode 54 = .ok (.iload 4, 2) := by decide +kernel
theorem dX12_bestCode_56 : decode cX12_bestCode 56 = .ok (.iload 7, 2) := by decide +kernel
theorem dX12_bestCode_58 : decode cX12_bestCode 58 = .ok (.invokevirtual 450, 3) := by decide +kernel
theorem dX12_bestCode_61 : decode cX12_bestCode 61 = .ok (.istore 8, 2) := by decide +kernel
theorem dX12_bestCode_63 : decode cX12_bestCode 63 = .ok (.iload 8, 2) := by decide +kernel
theorem dX12_bestCode_65 : decode cX12_bestCode 65 = .ok (.aload_n 0, 1) := by decide +kernel
theorem dX12_bestCode_66 : decode cX12_bestCode 66 = .ok (.getfield 447, 3) := by decide +kernel
theorem dX12_bestCode_69 : decode cX12_bestCode 69 = .ok (.if_icmp .gt 6, 3) := by decide +kernel
theorem dX12_bestCode_72 : decode cX12_bestCode 72 = .ok (.goto 13, 3) := by decide +kernel
theorem dX12_bestCode_75 : decode cX12_bestCode 75 = .ok (.aload_n 0, 1) := by decide +kernel
theorem dX12_bestCode_76 : decode cX12_bestCode 76 = .ok (.iload 8, 2) := by decide +kernel
theorem dX12_bestCode_78 : decode cX12_bestCode 78 = .ok (.putfield 447, 3) := by decide +kernel
theorem dX12_bestCode_81 : decode cX12_bestCode 81 = .ok (.iload 7, 2) := by decide +kernel
theorem dX12_bestCode_83 : decode cX12_bestCode 83 = .ok (.istore 6, 2) := by decide +kernel
theorem dX12_bestCode_85 : decode cX12_bestCode 85 = .ok (.iinc 7 1, 3) := by decide +kernel
theorem dX12_bestCode_88 : decode cX12_bestCode 88 = .ok (.goto (-45), 3) := by decide +kernel
theorem dX12_bestCode_91 : decode cX12_bestCode 91 = .ok (.iload 6, 2) := by decide +kernel
theorem dX12_bestCode_93 : decode cX12_bestCode 93 = .ok (.ireturn, 1) := by decide +kernel
theorem dX12_whyNoHolding_0 : decode cX12_whyNoHolding 0 = .ok (.aload_n 0, 1) := by decide +kernel
theorem dX12_whyNoHolding_1 : decode cX12_whyNoHolding 1 = .ok (.iload_n 1, 1) := by decide +kernel
theorem dX12_whyNoHolding_2 : decode cX12_whyNoHolding 2 = .ok (.invokevirtual 383, 3) := by decide +kernel
theorem dX12_whyNoHolding_5 : decode cX12_whyNoHolding 5 = .ok (.ifCond .eq 12, 3) := by decide +kernel
theorem dX12_whyNoHolding_8 : decode cX12_whyNoHolding 8 = .ok (.aload_n 0, 1) := by decide +kernel
theorem dX12_whyNoHolding_9 : decode cX12_whyNoHolding 9 = .ok (.iload_n 2, 1) := by decide +kernel
theorem dX12_whyNoHolding_10 : decode cX12_whyNoHolding 10 = .ok (.iload_n 3, 1) := by decide +kernel
theorem dX12_whyNoHolding_11 : decode cX12_whyNoHolding 11 = .ok (.invokevirtual 388, 3) := by decide +kernel
theorem dX12_whyNoHolding_14 : decode cX12_whyNoHolding 14 = .ok (.ifCond .ne 5, 3) := by decide +kernel
theorem dX12_whyNoHolding_17 : decode cX12_whyNoHolding 17 = .ok (.iconst 2, 1) := by decide +kernel
theorem dX12_whyNoHolding_18 : decode cX12_whyNoHolding 18 = .ok (.ireturn, 1) := by decide +kernel
theorem dX12_whyNoHolding_19 : decode cX12_whyNoHolding 19 = .ok (.iload 4, 2) := by decide +kernel
theorem dX12_whyNoHolding_21 : decode cX12_whyNoHolding 21 = .ok (.i2l, 1) := by decide +kernel
theorem dX12_whyNoHolding_22 : decode cX12_whyNoHolding 22 = .ok (.lconst 1, 1) := by decide +kernel
theorem dX12_whyNoHolding_23 : decode cX12_whyNoHolding 23 = .ok (.ldc2_w 402, 3) := by decide +kernel
theorem dX12_whyNoHolding_26 : decode cX12_whyNoHolding 26 = .ok (.invokestatic 104, 3) := by decide +kernel
theorem dX12_whyNoHolding_29 : decode cX12_whyNoHolding 29 = .ok (.ifCond .eq 7, 3) := by decide +kernel
theorem dX12_whyNoHolding_32 : decode cX12_whyNoHolding 32 = .ok (.iconst 0, 1) := by decide +kernel
theorem dX12_whyNoHolding_33 : decode cX12_whyNoHolding 33 = .ok (.goto 4, 3) := by decide +kernel
theorem dX12_whyNoHolding_36 : decode cX12_whyNoHolding 36 = .ok (.iconst 5, 1) := by decide +kernel
theorem dX12_whyNoHolding_37 : decode cX12_whyNoHolding 37 = .ok (.ireturn, 1) := by decide +kernel
theorem dX12_holding_0 : decode cX12_holding 0 = .ok (.aload_n 0, 1) := by decide +kernel
theorem dX12_holding_1 : decode cX12_holding 1 = .ok (.iconst 0, 1) := by decide +kernel
theorem dX12_holding_2 : decode cX12_holding 2 = .ok (.putfield 69, 3) := by decide +kernel
theorem dX12_holding_5 : decode cX12_holding 5 = .ok (.aload_n 0, 1) := by decide +kernel
theorem dX12_holding_6 : decode cX12_holding 6 = .ok (.aload_n 0, 1) := by decide +kernel
theorem dX12_holding_7 : decode cX12_holding 7 = .ok (.iload_n 1, 1) := by decide +kernel
theorem dX12_holding_8 : decode cX12_holding 8 = .ok (.iload_n 2, 1) := by decide +kernel
theorem dX12_holding_9 : decode cX12_holding 9 = .ok (.iload_n 3, 1) := by decide +kernel
theorem dX12_holding_10 : decode cX12_holding 10 = .ok (.iload 4, 2) := by decide +kernel
theorem dX12_holding_12 : decode cX12_holding 12 = .ok (.invokevirtual 454, 3) := by decide +kernel
theorem dX12_holding_15 : decode cX12_holding 15 = .ok (.putfield 72, 3) := by decide +kernel
theorem dX12_holding_18 : decode cX12_holding 18 = .ok (.aload_n 0, 1) := by decide +kernel
theorem dX12_holding_19 : decode cX12_holding 19 = .ok (.getfield 72, 3) := by decide +kernel
theorem dX12_holding_22 : decode cX12_holding 22 = .ok (.ifCond .le 5, 3) := by decide +kernel
theorem dX12_holding_25 : decode cX12_holding 25 = .ok (.iconst (-1), 1) := by decide +kernel
theorem dX12_holding_26 : decode cX12_holding 26 = .ok (.ireturn, 1) := by decide +kernel
theorem dX12_holding_27 : decode cX12_holding 27 = .ok (.aload_n 0, 1) := by decide +kernel
theorem dX12_holding_28 : decode cX12_holding 28 = .ok (.iload_n 1, 1) := by decide +kernel
theorem dX12_holding_29 : decode cX12_holding 29 = .ok (.iload_n 2, 1) := by decide +kernel
theorem dX12_holding_30 : decode cX12_holding 30 = .ok (.iload_n 3, 1) := by decide +kernel
theorem dX12_holding_31 : decode cX12_holding 31 = .ok (.iload 4, 2) := by decide +kernel
theorem dX12_holding_33 : decode cX12_holding 33 = .ok (.invokevirtual 457, 3) := by decide +kernel
theorem dX12_holding_36 : decode cX12_holding 36 = .ok (.pop, 1) := by decide +kernel
theorem dX12_holding_37 : decode cX12_holding 37 = .ok (.aload_n 0, 1) := by decide +kernel
theorem dX12_holding_38 : decode cX12_holding 38 = .ok (.getfield 447, 3) := by decide +kernel
theorem dX12_holding_41 : decode cX12_holding 41 = .ok (.ireturn, 1) := by decide +kernel
theorem dX12_holdingAt_0 : decode cX12_holdingAt 0 = .ok (.aload_n 0, 1) := by decide +kernel
theorem dX12_holdingAt_1 : decode cX12_holdingAt 1 = .ok (.iconst 0, 1) := by decide +kernel
theorem dX12_holdingAt_2 : decode cX12_holdingAt 2 = .ok (.putfield 69, 3) := by decide +kernel
theorem dX12_holdingAt_5 : decode cX12_holdingAt 5 = .ok (.aload_n 0, 1) := by decide +kernel
theorem dX12_holdingAt_6 : decode cX12_holdingAt 6 = .ok (.aload_n 0, 1) := by decide +kernel
theorem dX12_holdingAt_7 : decode cX12_holdingAt 7 = .ok (.iload_n 1, 1) := by decide +kernel
theorem dX12_holdingAt_8 : decode cX12_holdingAt 8 = .ok (.iload_n 2, 1) := by decide +kernel
theorem dX12_holdingAt_9 : decode cX12_holdingAt 9 = .ok (.iload_n 3, 1) := by decide +kernel
theorem dX12_holdingAt_10 : decode cX12_holdingAt 10 = .ok (.iload 4, 2) := by decide +kernel
theorem dX12_holdingAt_12 : decode cX12_holdingAt 12 = .ok (.invokevirtual 454, 3) := by decide +kernel
theorem dX12_holdingAt_15 : decode cX12_holdingAt 15 = .ok (.putfield 72, 3) := by decide +kernel
theorem dX12_holdingAt_18 : decode cX12_holdingAt 18 = .ok (.aload_n 0, 1) := by decide +kernel
theorem dX12_holdingAt_19 : decode cX12_holdingAt 19 = .ok (.getfield 72, 3) := by decide +kernel
theorem dX12_holdingAt_22 : decode cX12_holdingAt 22 = .ok (.ifCond .le 5, 3) := by decide +kernel
theorem dX12_holdingAt_25 : decode cX12_holdingAt 25 = .ok (.iconst (-1), 1) := by decide +kernel
theorem dX12_holdingAt_26 : decode cX12_holdingAt 26 = .ok (.ireturn, 1) := by decide +kernel
theorem dX12_holdingAt_27 : decode cX12_holdingAt 27 = .ok (.iload 5, 2) := by decide +kernel
theorem dX12_holdingAt_29 : decode cX12_holdingAt 29 = .ok (.i2l, 1) := by decide +kernel
theorem dX12_holdingAt_30 : decode cX12_holdingAt 30 = .ok (.lconst 0, 1) := by decide +kernel
theorem dX12_holdingAt_31 : decode cX12_holdingAt 31 = .ok (.iload 4, 2) := by decide +kernel
theorem dX12_holdingAt_33 : decode cX12_holdingAt 33 = .ok (.iconst 1, 1) := by decide +kernel
theorem dX12_holdingAt_34 : decode cX12_holdingAt 34 = .ok (.isub, 1) := by decide +kernel
theorem dX12_holdingAt_35 : decode cX12_holdingAt 35 = .ok (.i2l, 1) := by decide +kernel
theorem dX12_holdingAt_36 : decode cX12_holdingAt 36 = .ok (.invokestatic 104, 3) := by decide +kernel
theorem dX12_holdingAt_39 : decode cX12_holdingAt 39 = .ok (.ifCond .eq 23, 3) := by decide +kernel
theorem dX12_holdingAt_42 : decode cX12_holdingAt 42 = .ok (.aload_n 0, 1) := by decide +kernel
theorem dX12_holdingAt_43 : decode cX12_holdingAt 43 = .ok (.aload_n 0, 1) := by decide +kernel
theorem dX12_holdingAt_44 : decode cX12_holdingAt 44 = .ok (.iload_n 1, 1) := by decide +kernel
theorem dX12_holdingAt_45 : decode cX12_holdingAt 45 = .ok (.iload_n 2, 1) := by decide +kernel
theorem dX12_holdingAt_46 : decode cX12_holdingAt 46 = .ok (.iload_n 3, 1) := by decide +kernel
theorem dX12_holdingAt_47 : decode cX12_holdingAt 47 = .ok (.iload 4, 2) := by decide +kernel
theorem dX12_holdingAt_49 : decode cX12_holdingAt 49 = .ok (.invokevirtual 457, 3) := by decide +kernel
theorem dX12_holdingAt_52 : decode cX12_holdingAt 52 = .ok (.iload 5, 2) := by decide +kernel
theorem dX12_holdingAt_54 : decode cX12_holdingAt 54 = .ok (.iload 4, 2) := by decide +kernel
theorem dX12_holdingAt_56 : decode cX12_holdingAt 56 = .ok (.invokevirtual 444, 3) := by decide +kernel
theorem dX12_holdingAt_59 : decode cX12_holdingAt 59 = .ok (.goto 9, 3) := by decide +kernel
theorem dX12_holdingAt_62 : decode cX12_holdingAt 62 = .ok (.aload_n 0, 1) := by decide +kernel
theorem dX12_holdingAt_63 : decode cX12_holdingAt 63 = .ok (.bipush 8, 2) := by decide +kernel
theorem dX12_holdingAt_65 : decode cX12_holdingAt 65 = .ok (.invokevirtual 363, 3) := by decide +kernel
theorem dX12_holdingAt_68 : decode cX12_holdingAt 68 = .ok (.ireturn, 1) := by decide +kernel
theorem dX12_bestTune_0 : decode cX12_bestTune 0 = .ok (.iconst (-1), 1) := by decide +kernel
theorem dX12_bestTune_1 : decode cX12_bestTune 1 = .ok (.istore_n 2, 1) := by decide +kernel
theorem dX12_bestTune_2 : decode cX12_bestTune 2 = .ok (.aload_n 0, 1) := by decide +kernel
theorem dX12_bestTune_3 : decode cX12_bestTune 3 = .ok (.iconst (-1), 1) := by decide +kernel
theorem dX12_bestTune_4 : decode cX12_bestTune 4 = .ok (.putfield 447, 3) := by decide +kernel
theorem dX12_bestTune_7 : decode cX12_bestTune 7 = .ok (.aload_n 0, 1) := by decide +kernel
theorem dX12_bestTune_8 : decode cX12_bestTune 8 = .ok (.invokevirtual 366, 3) := by decide +kernel
theorem dX12_bestTune_11 : decode cX12_bestTune 11 = .ok (.iconst 0, 1) := by decide +kernel
theorem dX12_bestTune_12 : decode cX12_bestTune 12 = .ok (.istore_n 3, 1) := by decide +kernel
theorem dX12_bestTune_13 : decode cX12_bestTune 13 = .ok (.iload_n 3, 1) := by decide +kernel
theorem dX12_bestTune_14 : decode cX12_bestTune 14 = .ok (.aload_n 0, 1) := by decide +kernel
theorem dX12_bestTune_15 : decode cX12_bestTune 15 = .ok (.getfield 35, 3) := by decide +kernel
theorem dX12_bestTune_18 : decode cX12_bestTune 18 = .ok (.iconst 2, 1) := by decide +kernel
theorem dX12_bestTune_19 : decode cX12_bestTune 19 = .ok (.iaload, 1) := by decide +kernel
theorem dX12_bestTune_20 : decode cX12_bestTune 20 = .ok (.if_icmp .ge 43, 3) := by decide +kernel
theorem dX12_bestTune_23 : decode cX12_bestTune 23 = .ok (.aload_n 0, 1) := by decide +kernel
theorem dX12_bestTune_24 : decode cX12_bestTune 24 = .ok (.getfield 47, 3) := by decide +kernel
theorem dX12_bestTune_27 : decode cX12_bestTune 27 = .ok (.iload_n 1, 1) := by decide +kernel
theorem dX12_bestTune_28 : decode cX12_bestTune 28 = .ok (.iload_n 3, 1) := by decide +kernel
theorem dX12_bestTune_29 : decode cX12_bestTune 29 = .ok (.iastore, 1) := by decide +kernel
theorem dX12_bestTune_30 : decode cX12_bestTune 30 = .ok (.aload_n 0, 1) := by decide +kernel
theorem dX12_bestTune_31 : decode cX12_bestTune 31 = .ok (.iload_n 1, 1) := by decide +kernel
theorem dX12_bestTune_32 : decode cX12_bestTune 32 = .ok (.invokevirtual 372, 3) := by decide +kernel
theorem dX12_bestTune_35 : decode cX12_bestTune 35 = .ok (.istore 4, 2) := by decide +kernel
theorem dX12_bestTune_37 : decode cX12_bestTune 37 = .ok (.iload 4, 2) := by decide +kernel
theorem dX12_bestTune_39 : decode cX12_bestTune 39 = .ok (.aload_n 0, 1) := by decide +kernel
theorem dX12_bestTune_40 : decode cX12_bestTune 40 = .ok (.getfield 447, 3) := by decide +kernel
theorem dX12_bestTune_43 : decode cX12_bestTune 43 = .ok (.if_icmp .gt 6, 3) := by decide +kernel
theorem dX12_bestTune_46 : decode cX12_bestTune 46 = .ok (.goto 11, 3) := by decide +kernel
theorem dX12_bestTune_49 : decode cX12_bestTune 49 = .ok (.aload_n 0, 1) := by decide +kernel
theorem dX12_bestTune_50 : decode cX12_bestTune 50 = .ok (.iload 4, 2) := by decide +kernel
theorem dX12_bestTune_52 : decode cX12_bestTune 52 = .ok (.putfield 447, 3) := by decide +kernel
theorem dX12_bestTune_55 : decode cX12_bestTune 55 = .ok (.iload_n 3, 1) := by decide +kernel
theorem dX12_bestTune_56 : decode cX12_bestTune 56 = .ok (.istore_n 2, 1) := by decide +kernel
theorem dX12_bestTune_57 : decode cX12_bestTune 57 = .ok (.iinc 3 1, 3) := by decide +kernel
theorem dX12_bestTune_60 : decode cX12_bestTune 60 = .ok (.goto (-47), 3) := by decide +kernel
theorem dX12_bestTune_63 : decode cX12_bestTune 63 = .ok (.iload_n 2, 1) := by decide +kernel
theorem dX12_bestTune_64 : decode cX12_bestTune 64 = .ok (.ireturn, 1) := by decide +kernel
theorem dX12_best_0 : decode cX12_best 0 = .ok (.aload_n 0, 1) := by decide +kernel
theorem dX12_best_1 : decode cX12_best 1 = .ok (.iconst 0, 1) := by decide +kernel
theorem dX12_best_2 : decode cX12_best 2 = .ok (.putfield 69, 3) := by decide +kernel
theorem dX12_best_5 : decode cX12_best 5 = .ok (.aload_n 0, 1) := by decide +kernel
theorem dX12_best_6 : decode cX12_best 6 = .ok (.iconst 0, 1) := by decide +kernel
theorem dX12_best_7 : decode cX12_best 7 = .ok (.putfield 72, 3) := by decide +kernel
theorem dX12_best_10 : decode cX12_best 10 = .ok (.aload_n 0, 1) := by decide +kernel
theorem dX12_best_11 : decode cX12_best 11 = .ok (.iload_n 1, 1) := by decide +kernel
theorem dX12_best_12 : decode cX12_best 12 = .ok (.invokevirtual 383, 3) := by decide +kernel
theorem dX12_best_15 : decode cX12_best 15 = .ok (.ifCond .ne 9, 3) := by decide +kernel
theorem dX12_best_18 : decode cX12_best 18 = .ok (.aload_n 0, 1) := by decide +kernel
theorem dX12_best_19 : decode cX12_best 19 = .ok (.iconst 2, 1) := by decide +kernel
theorem dX12_best_20 : decode cX12_best 20 = .ok (.invokevirtual 363, 3) := by decide +kernel
theorem dX12_best_23 : decode cX12_best 23 = .ok (.ireturn, 1) := by decide +kernel
theorem dX12_best_24 : decode cX12_best 24 = .ok (.aload_n 0, 1) := by decide +kernel
theorem dX12_best_25 : decode cX12_best 25 = .ok (.iload_n 1, 1) := by decide +kernel
theorem dX12_best_26 : decode cX12_best 26 = .ok (.invokevirtual 460, 3) := by decide +kernel
theorem dX12_best_29 : decode cX12_best 29 = .ok (.istore_n 2, 1) := by decide +kernel
theorem dX12_best_30 : decode cX12_best 30 = .ok (.iload_n 2, 1) := by decide +kernel
theorem dX12_best_31 : decode cX12_best 31 = .ok (.ifCond .ge 12, 3) := by decide +kernel
theorem dX12_best_34 : decode cX12_best 34 = .ok (.aload_n 0, 1) := by decide +kernel
theorem dX12_best_35 : decode cX12_best 35 = .ok (.bipush 8, 2) := by decide +kernel
theorem dX12_best_37 : decode cX12_best 37 = .ok (.invokevirtual 363, 3) := by decide +kernel
theorem dX12_best_40 : decode cX12_best 40 = .ok (.goto 4, 3) := by decide +kernel
theorem dX12_best_43 : decode cX12_best 43 = .ok (.iload_n 2, 1) := by decide +kernel
theorem dX12_best_44 : decode cX12_best 44 = .ok (.ireturn, 1) := by decide +kernel
theorem dX12_bestLawns_0 : decode cX12_bestLawns 0 = .ok (.aload_n 0, 1) := by decide +kernel
theorem dX12_bestLawns_1 : decode cX12_bestLawns 1 = .ok (.iconst 0, 1) := by decide +kernel
theorem dX12_bestLawns_2 : decode cX12_bestLawns 2 = .ok (.putfield 69, 3) := by decide +kernel
theorem dX12_bestLawns_5 : decode cX12_bestLawns 5 = .ok (.aload_n 0, 1) := by decide +kernel
theorem dX12_bestLawns_6 : decode cX12_bestLawns 6 = .ok (.iconst 0, 1) := by decide +kernel
theorem dX12_bestLawns_7 : decode cX12_bestLawns 7 = .ok (.putfield 72, 3) := by decide +kernel
theorem dX12_bestLawns_10 : decode cX12_bestLawns 10 = .ok (.aload_n 0, 1) := by decide +kernel
theorem dX12_bestLawns_11 : decode cX12_bestLawns 11 = .ok (.iload_n 1, 1) := by decide +kernel
theorem dX12_bestLawns_12 : decode cX12_bestLawns 12 = .ok (.invokevirtual 383, 3) := by decide +kernel
theorem dX12_bestLawns_15 : decode cX12_bestLawns 15 = .ok (.ifCond .ne 9, 3) := by decide +kernel
theorem dX12_bestLawns_18 : decode cX12_bestLawns 18 = .ok (.aload_n 0, 1) := by decide +kernel
theorem dX12_bestLawns_19 : decode cX12_bestLawns 19 = .ok (.iconst 2, 1) := by decide +kernel
theorem dX12_bestLawns_20 : decode cX12_bestLawns 20 = .ok (.invokevirtual 363, 3) := by decide +kernel
theorem dX12_bestLawns_23 : decode cX12_bestLawns 23 = .ok (.ireturn, 1) := by decide +kernel
theorem dX12_bestLawns_24 : decode cX12_bestLawns 24 = .ok (.aload_n 0, 1) := by decide +kernel
theorem dX12_bestLawns_25 : decode cX12_bestLawns 25 = .ok (.iload_n 1, 1) := by decide +kernel
theorem dX12_bestLawns_26 : decode cX12_bestLawns 26 = .ok (.invokevirtual 460, 3) := by decide +kernel
theorem dX12_bestLawns_29 : decode cX12_bestLawns 29 = .ok (.ifCond .ge 12, 3) := by decide +kernel
theorem dX12_bestLawns_32 : decode cX12_bestLawns 32 = .ok (.aload_n 0, 1) := by decide +kernel
theorem dX12_bestLawns_33 : decode cX12_bestLawns 33 = .ok (.bipush 8, 2) := by decide +kernel
theorem dX12_bestLawns_35 : decode cX12_bestLawns 35 = .ok (.invokevirtual 363, 3) := by decide +kernel
theorem dX12_bestLawns_38 : decode cX12_bestLawns 38 = .ok (.goto 7, 3) := by decide +kernel
theorem dX12_bestLawns_41 : decode cX12_bestLawns 41 = .ok (.aload_n 0, 1) := by decide +kernel
theorem dX12_bestLawns_42 : decode cX12_bestLawns 42 = .ok (.getfield 447, 3) := by decide +kernel
theorem dX12_bestLawns_45 : decode cX12_bestLawns 45 = .ok (.ireturn, 1) := by decide +kernel
theorem dX12_low_0 : decode cX12_low 0 = .ok (.aload_n 0, 1) := by decide +kernel
theorem dX12_low_1 : decode cX12_low 1 = .ok (.iconst 0, 1) := by decide +kernel
theorem dX12_low_2 : decode cX12_low 2 = .ok (.putfield 69, 3) := by decide +kernel
theorem dX12_low_5 : decode cX12_low 5 = .ok (.aload_n 0, 1) := by decide +kernel
theorem dX12_low_6 : decode cX12_low 6 = .ok (.iconst 0, 1) := by decide +kernel
theorem dX12_low_7 : decode cX12_low 7 = .ok (.putfield 72, 3) := by decide +kernel
theorem dX12_low_10 : decode cX12_low 10 = .ok (.aload_n 0, 1) := by decide +kernel
theorem dX12_low_11 : decode cX12_low 11 = .ok (.iload_n 1, 1) := by decide +kernel
theorem dX12_low_12 : decode cX12_low 12 = .ok (.invokevirtual 383, 3) := by decide +kernel
theorem dX12_low_15 : decode cX12_low 15 = .ok (.ifCond .eq 12, 3) := by decide +kernel
theorem dX12_low_18 : decode cX12_low 18 = .ok (.aload_n 0, 1) := by decide +kernel
theorem dX12_low_19 : decode cX12_low 19 = .ok (.iload_n 2, 1) := by decide +kernel
theorem dX12_low_20 : decode cX12_low 20 = .ok (.iload_n 3, 1) := by decide +kernel
theorem dX12_low_21 : decode cX12_low 21 = .ok (.invokevirtual 388, 3) := by decide +kernel
theorem dX12_low_24 : decode cX12_low 24 = .ok (.ifCond .ne 9, 3) := by decide +kernel
theorem dX12_low_27 : decode cX12_low 27 = .ok (.aload_n 0, 1) := by decide +kernel
theorem dX12_low_28 : decode cX12_low 28 = .ok (.iconst 2, 1) := by decide +kernel
theorem dX12_low_29 : decode cX12_low 29 = .ok (.invokevirtual 363, 3) := by decide +kernel
theorem dX12_low_32 : decode cX12_low 32 = .ok (.ireturn, 1) := by decide +kernel
theorem dX12_low_33 : decode cX12_low 33 = .ok (.iconst (-1), 1) := by decide +kernel
theorem dX12_low_34 : decode cX12_low 34 = .ok (.istore 4, 2) := by decide +kernel
theorem dX12_low_36 : decode cX12_low 36 = .ok (.aload_n 0, 1) := by decide +kernel
theorem dX12_low_37 : decode cX12_low 37 = .ok (.invokevirtual 366, 3) := by decide +kernel
theorem dX12_low_40 : decode cX12_low 40 = .ok (.iconst 0, 1) := by decide +kernel
theorem dX12_low_41 : decode cX12_low 41 = .ok (.istore 5, 2) := by decide +kernel
theorem dX12_low_43 : decode cX12_low 43 = .ok (.iload 5, 2) := by decide +kernel
theorem dX12_low_45 : decode cX12_low 45 = .ok (.aload_n 0, 1) := by decide +kernel
theorem dX12_low_46 : decode cX12_low 46 = .ok (.getfield 35, 3) := by decide +kernel
theorem dX12_low_49 : decode cX12_low 49 = .ok (.iconst 2, 1) := by decide +kernel
theorem dX12_low_50 : decode cX12_low 50 = .ok (.iaload, 1) := by decide +kernel
theorem dX12_low_51 : decode cX12_low 51 = .ok (.if_icmp .ge 59, 3) := by decide +kernel
theorem dX12_low_54 : decode cX12_low 54 = .ok (.aload_n 0, 1) := by decide +kernel
theorem dX12_low_55 : decode cX12_low 55 = .ok (.getfield 47, 3) := by decide +kernel
theorem dX12_low_58 : decode cX12_low 58 = .ok (.iload_n 1, 1) := by decide +kernel
theorem dX12_low_59 : decode cX12_low 59 = .ok (.iload 5, 2) := by decide +kernel
theorem dX12_low_61 : decode cX12_low 61 = .ok (.iastore, 1) := by decide +kernel
theorem dX12_low_62 : decode cX12_low 62 = .ok (.aload_n 0, 1) := by decide +kernel
theorem dX12_low_63 : decode cX12_low 63 = .ok (.iload_n 2, 1) := by decide +kernel
theorem dX12_low_64 : decode cX12_low 64 = .ok (.iload_n 3, 1) := by decide +kernel
theorem dX12_low_65 : decode cX12_low 65 = .ok (.invokevirtual 358, 3) := by decide +kernel
theorem dX12_low_68 : decode cX12_low 68 = .ok (.iload_n 1, 1) := by decide +kernel
theorem dX12_low_69 : decode cX12_low 69 = .ok (.if_icmp .ne 35, 3) := by decide +kernel
theorem dX12_low_72 : decode cX12_low 72 = .ok (.iload 4, 2) := by decide +kernel
theorem dX12_low_74 : decode cX12_low 74 = .ok (.ifCond .lt 18, 3) := by decide +kernel
theorem dX12_low_77 : decode cX12_low 77 = .ok (.aload_n 0, 1) := by decide +kernel
theorem dX12_low_78 : decode cX12_low 78 = .ok (.getfield 35, 3) := by decide +kernel
theorem dX12_low_81 : decode cX12_low 81 = .ok (.bipush 16, 2) := by decide +kernel
theorem dX12_low_83 : decode cX12_low 83 = .ok (.iload 5, 2) := by decide +kernel
theorem dX12_low_85 : decode cX12_low 85 = .ok (.iadd, 1) := by decide +kernel
theorem dX12_low_86 : decode cX12_low 86 = .ok (.iaload, 1) := by decide +kernel
theorem dX12_low_87 : decode cX12_low 87 = .ok (.iload 4, 2) := by decide +kernel
theorem dX12_low_89 : decode cX12_low 89 = .ok (.if_icmp .ge 15, 3) := by decide +kernel
theorem dX12_low_92 : decode cX12_low 92 = .ok (.aload_n 0, 1) := by decide +kernel
theorem dX12_low_93 : decode cX12_low 93 = .ok (.getfield 35, 3) := by decide +kernel
theorem dX12_low_96 : decode cX12_low 96 = .ok (.bipush 16, 2) := by decide +kernel
theorem dX12_low_98 : decode cX12_low 98 = .ok (.iload 5, 2) := by decide +kernel
theorem dX12_low_100 : decode cX12_low 100 = .ok (.iadd, 1) := by decide +kernel
theorem dX12_low_101 : decode cX12_low 101 = .ok (.iaload, 1) := by decide +kernel
theorem dX12_low_102 : decode cX12_low 102 = .ok (.istore 4, 2) := by decide +kernel
theorem dX12_low_104 : decode cX12_low 104 = .ok (.iinc 5 1, 3) := by decide +kernel
theorem dX12_low_107 : decode cX12_low 107 = .ok (.goto (-64), 3) := by decide +kernel
theorem dX12_low_110 : decode cX12_low 110 = .ok (.iload 4, 2) := by decide +kernel
theorem dX12_low_112 : decode cX12_low 112 = .ok (.ifCond .ge 12, 3) := by decide +kernel
theorem dX12_low_115 : decode cX12_low 115 = .ok (.aload_n 0, 1) := by decide +kernel
theorem dX12_low_116 : decode cX12_low 116 = .ok (.bipush 8, 2) := by decide +kernel
theorem dX12_low_118 : decode cX12_low 118 = .ok (.invokevirtual 363, 3) := by decide +kernel
theorem dX12_low_121 : decode cX12_low 121 = .ok (.goto 5, 3) := by decide +kernel
theorem dX12_low_124 : decode cX12_low 124 = .ok (.iload 4, 2) := by decide +kernel
theorem dX12_low_126 : decode cX12_low 126 = .ok (.ireturn, 1) := by decide +kernel
theorem dX12_canChange_0 : decode cX12_canChange 0 = .ok (.iload_n 2, 1) := by decide +kernel
theorem dX12_canChange_1 : decode cX12_canChange 1 = .ok (.bipush 7, 2) := by decide +kernel
theorem dX12_canChange_3 : decode cX12_canChange 3 = .ok (.if_icmp .eq 29, 3) := by decide +kernel
theorem dX12_canChange_6 : decode cX12_canChange 6 = .ok (.iload_n 2, 1) := by decide +kernel
theorem dX12_canChange_7 : decode cX12_canChange 7 = .ok (.aload_n 0, 1) := by decide +kernel
theorem dX12_canChange_8 : decode cX12_canChange 8 = .ok (.getfield 47, 3) := by decide +kernel
theorem dX12_canChange_11 : decode cX12_canChange 11 = .ok (.iload_n 1, 1) := by decide +kernel
theorem dX12_canChange_12 : decode cX12_canChange 12 = .ok (.iaload, 1) := by decide +kernel
theorem dX12_canChange_13 : decode cX12_canChange 13 = .ok (.if_icmp .eq 23, 3) := by decide +kernel
theorem dX12_canChange_16 : decode cX12_canChange 16 = .ok (.iload_n 2, 1) := by decide +kernel
theorem dX12_canChange_17 : decode cX12_canChange 17 = .ok (.bipush 6, 2) := by decide +kernel
theorem dX12_canChange_19 : decode cX12_canChange 19 = .ok (.if_icmp .eq 13, 3) := by decide +kernel
theorem dX12_canChange_22 : decode cX12_canChange 22 = .ok (.iload_n 2, 1) := by decide +kernel
theorem dX12_canChange_23 : decode cX12_canChange 23 = .ok (.aload_n 0, 1) := by decide +kernel
theorem dX12_canChange_24 : decode cX12_canChange 24 = .ok (.getfield 35, 3) := by decide +kernel
theorem dX12_canChange_27 : decode cX12_canChange 27 = .ok (.iconst 2, 1) := by decide +kernel
theorem dX12_canChange_28 : decode cX12_canChange 28 = .ok (.iaload, 1) := by decide +kernel
theorem dX12_canChange_29 : decode cX12_canChange 29 = .ok (.if_icmp .ge 7, 3) := by decide +kernel
theorem dX12_canChange_32 : decode cX12_canChange 32 = .ok (.iconst 1, 1) := by decide +kernel
theorem dX12_canChange_33 : decode cX12_canChange 33 = .ok (.goto 4, 3) := by decide +kernel
theorem dX12_canChange_36 : decode cX12_canChange 36 = .ok (.iconst 0, 1) := by decide +kernel
theorem dX12_canChange_37 : decode cX12_canChange 37 = .ok (.ireturn, 1) := by decide +kernel
theorem dX12_plays2_0 : decode cX12_plays2 0 = .ok (.iload_n 3, 1) := by decide +kernel
theorem dX12_plays2_1 : decode cX12_plays2 1 = .ok (.iload 4, 2) := by decide +kernel
theorem dX12_plays2_3 : decode cX12_plays2 3 = .ok (.if_icmp .ne 15, 3) := by decide +kernel
theorem dX12_plays2_6 : decode cX12_plays2 6 = .ok (.aload_n 0, 1) := by decide +kernel
theorem dX12_plays2_7 : decode cX12_plays2 7 = .ok (.iload_n 1, 1) := by decide +kernel
theorem dX12_plays2_8 : decode cX12_plays2 8 = .ok (.invokevirtual 372, 3) := by decide +kernel
theorem dX12_plays2_11 : decode cX12_plays2 11 = .ok (.aload_n 0, 1) := by decide +kernel
theorem dX12_plays2_12 : decode cX12_plays2 12 = .ok (.iload_n 2, 1) := by decide +kernel
theorem dX12_plays2_13 : decode cX12_plays2 13 = .ok (.invokevirtual 372, 3) := by decide +kernel
theorem dX12_plays2_16 : decode cX12_plays2 16 = .ok (.isub, 1) := by decide +kernel
theorem dX12_plays2_17 : decode cX12_plays2 17 = .ok (.ireturn, 1) := by decide +kernel
theorem dX12_plays2_18 : decode cX12_plays2 18 = .ok (.iload_n 3, 1) := by decide +kernel
theorem dX12_plays2_19 : decode cX12_plays2 19 = .ok (.iconst 2, 1) := by decide +kernel
theorem dX12_plays2_20 : decode cX12_plays2 20 = .ok (.irem, 1) := by decide +kernel
theorem dX12_plays2_21 : decode cX12_plays2 21 = .ok (.ifCond .ne 7, 3) := by decide +kernel
theorem dX12_plays2_24 : decode cX12_plays2 24 = .ok (.iconst 1, 1) := by decide +kernel
theorem dX12_plays2_25 : decode cX12_plays2 25 = .ok (.goto 4, 3) := by decide +kernel
theorem dX12_plays2_28 : decode cX12_plays2 28 = .ok (.iconst 0, 1) := by decide +kernel
theorem dX12_plays2_29 : decode cX12_plays2 29 = .ok (.istore 5, 2) := by decide +kernel
theorem dX12_plays2_31 : decode cX12_plays2 31 = .ok (.iload 5, 2) := by decide +kernel
theorem dX12_plays2_33 : decode cX12_plays2 33 = .ok (.ifCond .eq 7, 3) := by decide +kernel
theorem dX12_plays2_36 : decode cX12_plays2 36 = .ok (.iload_n 1, 1) := by decide +kernel
theorem dX12_plays2_37 : decode cX12_plays2 37 = .ok (.goto 4, 3) := by decide +kernel
theorem dX12_plays2_40 : decode cX12_plays2 40 = .ok (.iload_n 2, 1) := by decide +kernel
theorem dX12_plays2_41 : decode cX12_plays2 41 = .ok (.istore 6, 2) := by decide +kernel
theorem dX12_plays2_43 : decode cX12_plays2 43 = .ok (.aload_n 0, 1) := by decide +kernel
theorem dX12_plays2_44 : decode cX12_plays2 44 = .ok (.getfield 47, 3) := by decide +kernel
theorem dX12_plays2_47 : decode cX12_plays2 47 = .ok (.iload 6, 2) := by decide +kernel
theorem dX12_plays2_49 : decode cX12_plays2 49 = .ok (.iaload, 1) := by decide +kernel
theorem dX12_plays2_50 : decode cX12_plays2 50 = .ok (.istore 7, 2) := by decide +kernel
theorem dX12_plays2_52 : decode cX12_plays2 52 = .ok (.iconst 0, 1) := by decide +kernel
theorem dX12_plays2_53 : decode cX12_plays2 53 = .ok (.istore 8, 2) := by decide +kernel
theorem dX12_plays2_55 : decode cX12_plays2 55 = .ok (.iconst (-1), 1) := by decide +kernel
theorem dX12_plays2_56 : decode cX12_plays2 56 = .ok (.istore 9, 2) := by decide +kernel
theorem dX12_plays2_58 : decode cX12_plays2 58 = .ok (.iconst 0, 1) := by decide +kernel
theorem dX12_plays2_59 : decode cX12_plays2 59 = .ok (.istore 10, 2) := by decide +kernel
theorem dX12_plays2_61 : decode cX12_plays2 61 = .ok (.iload 10, 2) := by decide +kernel
theorem dX12_plays2_63 : decode cX12_plays2 63 = .ok (.bipush 7, 2) := by decide +kernel
theorem dX12_plays2_65 : decode cX12_plays2 65 = .ok (.if_icmp .gt 104, 3) := by decide +kernel
theorem dX12_plays2_68 : decode cX12_plays2 68 = .ok (.aload_n 0, 1) := by decide +kernel
theorem dX12_plays2_69 : decode cX12_plays2 69 = .ok (.iload 6, 2) := by decide +kernel
theorem dX12_plays2_71 : decode cX12_plays2 71 = .ok (.iload 10, 2) := by decide +kernel
theorem dX12_plays2_73 : decode cX12_plays2 73 = .ok (.invokevirtual 463, 3) := by decide +kernel
theorem dX12_plays2_76 : decode cX12_plays2 76 = .ok (.ifCond .ne 6, 3) := by decide +kernel
theorem dX12_plays2_79 : decode cX12_plays2 79 = .ok (.goto 84, 3) := by decide +kernel
theorem dX12_plays2_82 : decode cX12_plays2 82 = .ok (.aload_n 0, 1) := by decide +kernel
theorem dX12_plays2_83 : decode cX12_plays2 83 = .ok (.getfield 47, 3) := by decide +kernel
theorem dX12_plays2_86 : decode cX12_plays2 86 = .ok (.iload 6, 2) := by decide +kernel
theorem dX12_plays2_88 : decode cX12_plays2 88 = .ok (.iload 10, 2) := by decide +kernel
theorem dX12_plays2_90 : decode cX12_plays2 90 = .ok (.bipush 7, 2) := by decide +kernel
theorem dX12_plays2_92 : decode cX12_plays2 92 = .ok (.if_icmp .ne 8, 3) := by decide +kernel
theorem dX12_plays2_95 : decode cX12_plays2 95 = .ok (.iload 7, 2) := by decide +kernel
theorem dX12_plays2_97 : decode cX12_plays2 97 = .ok (.goto 5, 3) := by decide +kernel
theorem dX12_plays2_100 : decode cX12_plays2 100 = .ok (.iload 10, 2) := by decide +kernel
theorem dX12_plays2_102 : decode cX12_plays2 102 = .ok (.iastore, 1) := by decide +kernel
theorem dX12_plays2_103 : decode cX12_plays2 103 = .ok (.aload_n 0, 1) := by decide +kernel
theorem dX12_plays2_104 : decode cX12_plays2 104 = .ok (.iload_n 1, 1) := by decide +kernel
theorem dX12_plays2_105 : decode cX12_plays2 105 = .ok (.iload_n 2, 1) := by decide +kernel
theorem dX12_plays2_106 : decode cX12_plays2 106 = .ok (.iload_n 3, 1) := by decide +kernel
theorem dX12_plays2_107 : decode cX12_plays2 107 = .ok (.iconst 1, 1) := by decide +kernel
theorem dX12_plays2_108 : decode cX12_plays2 108 = .ok (.iadd, 1) := by decide +kernel
theorem dX12_plays2_109 : decode cX12_plays2 109 = .ok (.iload 4, 2) := by decide +kernel
theorem dX12_plays2_111 : decode cX12_plays2 111 = .ok (.invokevirtual 466, 3) := by decide +kernel
theorem dX12_plays2_114 : decode cX12_plays2 114 = .ok (.istore 11, 2) := by decide +kernel
theorem dX12_plays2_116 : decode cX12_plays2 116 = .ok (.aload_n 0, 1) := by decide +kernel
theorem dX12_plays2_117 : decode cX12_plays2 117 = .ok (.getfield 47, 3) := by decide +kernel
theorem dX12_plays2_120 : decode cX12_plays2 120 = .ok (.iload 6, 2) := by decide +kernel
theorem dX12_plays2_122 : decode cX12_plays2 122 = .ok (.iload 7, 2) := by decide +kernel
theorem dX12_plays2_124 : decode cX12_plays2 124 = .ok (.iastore, 1) := by decide +kernel
theorem dX12_plays2_125 : decode cX12_plays2 125 = .ok (.iload 9, 2) := by decide +kernel
theorem dX12_plays2_127 : decode cX12_plays2 127 = .ok (.ifCond .lt 28, 3) := by decide +kernel
theorem dX12_plays2_130 : decode cX12_plays2 130 = .ok (.iload 5, 2) := by decide +kernel
theorem dX12_plays2_132 : decode cX12_plays2 132 = .ok (.ifCond .eq 13, 3) := by decide +kernel
theorem dX12_plays2_135 : decode cX12_plays2 135 = .ok (.iload 11, 2) := by decide +kernel
theorem dX12_plays2_137 : decode cX12_plays2 137 = .ok (.iload 8, 2) := by decide +kernel
theorem dX12_plays2_139 : decode cX12_plays2 139 = .ok (.if_icmp .gt 16, 3) := by decide +kernel
theorem dX12_plays2_142 : decode cX12_plays2 142 = .ok (.goto 21, 3) := by decide +kernel
theorem dX12_plays2_145 : decode cX12_plays2 145 = .ok (.iload 11, 2) := by decide +kernel
theorem dX12_plays2_147 : decode cX12_plays2 147 = .ok (.iload 8, 2) := by decide +kernel
theorem dX12_plays2_149 : decode cX12_plays2 149 = .ok (.if_icmp .lt 6, 3) := by decide +kernel
theorem dX12_plays2_152 : decode cX12_plays2 152 = .ok (.goto 11, 3) := by decide +kernel
theorem dX12_plays2_155 : decode cX12_plays2 155 = .ok (.iload 11, 2) := by decide +kernel
theorem dX12_plays2_157 : decode cX12_plays2 157 = .ok (.istore 8, 2) := by decide +kernel
theorem dX12_plays2_159 : decode cX12_plays2 159 = .ok (.iload 10, 2) := by decide +kernel
theorem dX12_plays2_161 : decode cX12_plays2 161 = .ok (.istore 9, 2) := by decide +kernel
theorem dX12_plays2_163 : decode cX12_plays2 163 = .ok (.iinc 10 1, 3) := by decide +kernel
theorem dX12_plays2_166 : decode cX12_plays2 166 = .ok (.goto (-105), 3) := by decide +kernel
theorem dX12_plays2_169 : decode cX12_plays2 169 = .ok (.iload_n 3, 1) := by decide +kernel
theorem dX12_plays2_170 : decode cX12_plays2 170 = .ok (.ifCond .ne 9, 3) := by decide +kernel
theorem dX12_plays2_173 : decode cX12_plays2 173 = .ok (.aload_n 0, 1) := by decide +kernel
theorem dX12_plays2_174 : decode cX12_plays2 174 = .ok (.iload 9, 2) := by decide +kernel
theorem dX12_plays2_176 : decode cX12_plays2 176 = .ok (.putfield 469, 3) := by decide +kernel
theorem dX12_plays2_179 : decode cX12_plays2 179 = .ok (.iload 8, 2) := by decide +kernel
theorem dX12_plays2_181 : decode cX12_plays2 181 = .ok (.ireturn, 1) := by decide +kernel
theorem dX12_whyNoGame_0 : decode cX12_whyNoGame 0 = .ok (.aload_n 0, 1) := by decide +kernel
theorem dX12_whyNoGame_1 : decode cX12_whyNoGame 1 = .ok (.iload_n 1, 1) := by decide +kernel
theorem dX12_whyNoGame_2 : decode cX12_whyNoGame 2 = .ok (.invokevirtual 383, 3) := by decide +kernel
theorem dX12_whyNoGame_5 : decode cX12_whyNoGame 5 = .ok (.ifCond .eq 11, 3) := by decide +kernel
theorem dX12_whyNoGame_8 : decode cX12_whyNoGame 8 = .ok (.aload_n 0, 1) := by decide +kernel
theorem dX12_whyNoGame_9 : decode cX12_whyNoGame 9 = .ok (.iload_n 2, 1) := by decide +kernel
theorem dX12_whyNoGame_10 : decode cX12_whyNoGame 10 = .ok (.invokevirtual 383, 3) := by decide +kernel
theorem dX12_whyNoGame_13 : decode cX12_whyNoGame 13 = .ok (.ifCond .ne 5, 3) := by decide +kernel
theorem dX12_whyNoGame_16 : decode cX12_whyNoGame 16 = .ok (.iconst 2, 1) := by decide +kernel
theorem dX12_whyNoGame_17 : decode cX12_whyNoGame 17 = .ok (.ireturn, 1) := by decide +kernel
theorem dX12_whyNoGame_18 : decode cX12_whyNoGame 18 = .ok (.iload_n 1, 1) := by decide +kernel
theorem dX12_whyNoGame_19 : decode cX12_whyNoGame 19 = .ok (.iload_n 2, 1) := by decide +kernel
theorem dX12_whyNoGame_20 : decode cX12_whyNoGame 20 = .ok (.if_icmp .eq 21, 3) := by decide +kernel
theorem dX12_whyNoGame_23 : decode cX12_whyNoGame 23 = .ok (.iload_n 3, 1) := by decide +kernel
theorem dX12_whyNoGame_24 : decode cX12_whyNoGame 24 = .ok (.i2l, 1) := by decide +kernel
theorem dX12_whyNoGame_25 : decode cX12_whyNoGame 25 = .ok (.iload 4, 2) := by decide +kernel
theorem dX12_whyNoGame_27 : decode cX12_whyNoGame 27 = .ok (.i2l, 1) := by decide +kernel
theorem dX12_whyNoGame_28 : decode cX12_whyNoGame 28 = .ok (.ldc2_w 102, 3) := by decide +kernel
theorem dX12_whyNoGame_31 : decode cX12_whyNoGame 31 = .ok (.invokestatic 104, 3) := by decide +kernel
theorem dX12_whyNoGame_34 : decode cX12_whyNoGame 34 = .ok (.ifCond .eq 7, 3) := by decide +kernel
theorem dX12_whyNoGame_37 : decode cX12_whyNoGame 37 = .ok (.iconst 0, 1) := by decide +kernel
theorem dX12_whyNoGame_38 : decode cX12_whyNoGame 38 = .ok (.goto 4, 3) := by decide +kernel
theorem dX12_whyNoGame_41 : decode cX12_whyNoGame 41 = .ok (.iconst 5, 1) := by decide +kernel
theorem dX12_whyNoGame_42 : decode cX12_whyNoGame 42 = .ok (.ireturn, 1) := by decide +kernel
theorem dX12_game_0 : decode cX12_game 0 = .ok (.aload_n 0, 1) := by decide +kernel
theorem dX12_game_1 : decode cX12_game 1 = .ok (.iconst 0, 1) := by decide +kernel
theorem dX12_game_2 : decode cX12_game 2 = .ok (.putfield 69, 3) := by decide +kernel
theorem dX12_game_5 : decode cX12_game 5 = .ok (.aload_n 0, 1) := by decide +kernel
theorem dX12_game_6 : decode cX12_game 6 = .ok (.aload_n 0, 1) := by decide +kernel
theorem dX12_game_7 : decode cX12_game 7 = .ok (.iload_n 1, 1) := by decide +kernel
theorem dX12_game_8 : decode cX12_game 8 = .ok (.iload_n 2, 1) := by decide +kernel
theorem dX12_game_9 : decode cX12_game 9 = .ok (.iload_n 3, 1) := by decide +kernel
theorem dX12_game_10 : decode cX12_game 10 = .ok (.iconst 0, 1) := by decide +kernel
theorem dX12_game_11 : decode cX12_game 11 = .ok (.invokevirtual 472, 3) := by decide +kernel
theorem dX12_game_14 : decode cX12_game 14 = .ok (.putfield 72, 3) := by decide +kernel
theorem dX12_game_17 : decode cX12_game 17 = .ok (.aload_n 0, 1) := by decide +kernel
theorem dX12_game_18 : decode cX12_game 18 = .ok (.getfield 72, 3) := by decide +kernel
theorem dX12_game_21 : decode cX12_game 21 = .ok (.ifCond .le 5, 3) := by decide +kernel
theorem dX12_game_24 : decode cX12_game 24 = .ok (.iconst (-1), 1) := by decide +kernel
theorem dX12_game_25 : decode cX12_game 25 = .ok (.ireturn, 1) := by decide +kernel
theorem dX12_game_26 : decode cX12_game 26 = .ok (.aload_n 0, 1) := by decide +kernel
theorem dX12_game_27 : decode cX12_game 27 = .ok (.invokevirtual 366, 3) := by decide +kernel
theorem dX12_game_30 : decode cX12_game 30 = .ok (.aload_n 0, 1) := by decide +kernel
theorem dX12_game_31 : decode cX12_game 31 = .ok (.iload_n 1, 1) := by decide +kernel
theorem dX12_game_32 : decode cX12_game 32 = .ok (.iload_n 2, 1) := by decide +kernel
theorem dX12_game_33 : decode cX12_game 33 = .ok (.iconst 0, 1) := by decide +kernel
theorem dX12_game_34 : decode cX12_game 34 = .ok (.iload_n 3, 1) := by decide +kernel
theorem dX12_game_35 : decode cX12_game 35 = .ok (.invokevirtual 466, 3) := by decide +kernel
theorem dX12_game_38 : decode cX12_game 38 = .ok (.ireturn, 1) := by decide +kernel
theorem dX12_moveOf_0 : decode cX12_moveOf 0 = .ok (.aload_n 0, 1) := by decide +kernel
theorem dX12_moveOf_1 : decode cX12_moveOf 1 = .ok (.iconst 0, 1) := by decide +kernel
theorem dX12_moveOf_2 : decode cX12_moveOf 2 = .ok (.putfield 69, 3) := by decide +kernel
theorem dX12_moveOf_5 : decode cX12_moveOf 5 = .ok (.aload_n 0, 1) := by decide +kernel
theorem dX12_moveOf_6 : decode cX12_moveOf 6 = .ok (.aload_n 0, 1) := by decide +kernel
theorem dX12_moveOf_7 : decode cX12_moveOf 7 = .ok (.iload_n 1, 1) := by decide +kernel
theorem dX12_moveOf_8 : decode cX12_moveOf 8 = .ok (.iload_n 2, 1) := by decide +kernel
theorem dX12_moveOf_9 : decode cX12_moveOf 9 = .ok (.iload_n 3, 1) := by decide +kernel
theorem dX12_moveOf_10 : decode cX12_moveOf 10 = .ok (.iconst 1, 1) := by decide +kernel
theorem dX12_moveOf_11 : decode cX12_moveOf 11 = .ok (.invokevirtual 472, 3) := by decide +kernel
theorem dX12_moveOf_14 : decode cX12_moveOf 14 = .ok (.putfield 72, 3) := by decide +kernel
theorem dX12_moveOf_17 : decode cX12_moveOf 17 = .ok (.aload_n 0, 1) := by decide +kernel
theorem dX12_moveOf_18 : decode cX12_moveOf 18 = .ok (.getfield 72, 3) := by decide +kernel
theorem dX12_moveOf_21 : decode cX12_moveOf 21 = .ok (.ifCond .le 5, 3) := by decide +kernel
theorem dX12_moveOf_24 : decode cX12_moveOf 24 = .ok (.iconst (-1), 1) := by decide +kernel
theorem dX12_moveOf_25 : decode cX12_moveOf 25 = .ok (.ireturn, 1) := by decide +kernel
theorem dX12_moveOf_26 : decode cX12_moveOf 26 = .ok (.aload_n 0, 1) := by decide +kernel
theorem dX12_moveOf_27 : decode cX12_moveOf 27 = .ok (.invokevirtual 366, 3) := by decide +kernel
theorem dX12_moveOf_30 : decode cX12_moveOf 30 = .ok (.aload_n 0, 1) := by decide +kernel
theorem dX12_moveOf_31 : decode cX12_moveOf 31 = .ok (.iload_n 1, 1) := by decide +kernel
theorem dX12_moveOf_32 : decode cX12_moveOf 32 = .ok (.iload_n 2, 1) := by decide +kernel
theorem dX12_moveOf_33 : decode cX12_moveOf 33 = .ok (.iconst 0, 1) := by decide +kernel
theorem dX12_moveOf_34 : decode cX12_moveOf 34 = .ok (.iload_n 3, 1) := by decide +kernel
theorem dX12_moveOf_35 : decode cX12_moveOf 35 = .ok (.invokevirtual 466, 3) := by decide +kernel
theorem dX12_moveOf_38 : decode cX12_moveOf 38 = .ok (.pop, 1) := by decide +kernel
theorem dX12_moveOf_39 : decode cX12_moveOf 39 = .ok (.aload_n 0, 1) := by decide +kernel
theorem dX12_moveOf_40 : decode cX12_moveOf 40 = .ok (.getfield 469, 3) := by decide +kernel
theorem dX12_moveOf_43 : decode cX12_moveOf 43 = .ok (.bipush 7, 2) := by decide +kernel
theorem dX12_moveOf_45 : decode cX12_moveOf 45 = .ok (.if_icmp .ne 12, 3) := by decide +kernel
theorem dX12_moveOf_48 : decode cX12_moveOf 48 = .ok (.aload_n 0, 1) := by decide +kernel
theorem dX12_moveOf_49 : decode cX12_moveOf 49 = .ok (.bipush 8, 2) := by decide +kernel
theorem dX12_moveOf_51 : decode cX12_moveOf 51 = .ok (.invokevirtual 363, 3) := by decide +kernel
theorem dX12_moveOf_54 : decode cX12_moveOf 54 = .ok (.goto 7, 3) := by decide +kernel
theorem dX12_moveOf_57 : decode cX12_moveOf 57 = .ok (.aload_n 0, 1) := by decide +kernel
theorem dX12_moveOf_58 : decode cX12_moveOf 58 = .ok (.getfield 469, 3) := by decide +kernel
