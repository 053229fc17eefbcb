theorem dX12_moveOf_61 : decode cX12_moveOf 61 = .ok (.ireturn, 1) := by decide +kernel
theorem dX12_allyOf_0 : decode cX12_allyOf 0 = .ok (.iconst 0, 1) := by decide +kernel
theorem dX12_allyOf_1 : decode cX12_allyOf 1 = .ok (.istore_n 2, 1) := by decide +kernel
theorem dX12_allyOf_2 : decode cX12_allyOf 2 = .ok (.iconst 0, 1) := by decide +kernel
theorem dX12_allyOf_3 : decode cX12_allyOf 3 = .ok (.istore_n 3, 1) := by decide +kernel
theorem dX12_allyOf_4 : decode cX12_allyOf 4 = .ok (.iload_n 3, 1) := by decide +kernel
theorem dX12_allyOf_5 : decode cX12_allyOf 5 = .ok (.aload_n 0, 1) := by decide +kernel
theorem dX12_allyOf_6 : decode cX12_allyOf 6 = .ok (.getfield 35, 3) := by decide +kernel
theorem dX12_allyOf_9 : decode cX12_allyOf 9 = .ok (.iconst 1, 1) := by decide +kernel
theorem dX12_allyOf_10 : decode cX12_allyOf 10 = .ok (.iaload, 1) := by decide +kernel
theorem dX12_allyOf_11 : decode cX12_allyOf 11 = .ok (.if_icmp .ge 48, 3) := by decide +kernel
theorem dX12_allyOf_14 : decode cX12_allyOf 14 = .ok (.iconst 0, 1) := by decide +kernel
theorem dX12_allyOf_15 : decode cX12_allyOf 15 = .ok (.istore 4, 2) := by decide +kernel
theorem dX12_allyOf_17 : decode cX12_allyOf 17 = .ok (.iload 4, 2) := by decide +kernel
theorem dX12_allyOf_19 : decode cX12_allyOf 19 = .ok (.aload_n 0, 1) := by decide +kernel
theorem dX12_allyOf_20 : decode cX12_allyOf 20 = .ok (.getfield 35, 3) := by decide +kernel
theorem dX12_allyOf_23 : decode cX12_allyOf 23 = .ok (.iconst 0, 1) := by decide +kernel
theorem dX12_allyOf_24 : decode cX12_allyOf 24 = .ok (.iaload, 1) := by decide +kernel
theorem dX12_allyOf_25 : decode cX12_allyOf 25 = .ok (.if_icmp .ge 28, 3) := by decide +kernel
theorem dX12_allyOf_28 : decode cX12_allyOf 28 = .ok (.iload_n 2, 1) := by decide +kernel
theorem dX12_allyOf_29 : decode cX12_allyOf 29 = .ok (.aload_n 0, 1) := by decide +kernel
theorem dX12_allyOf_30 : decode cX12_allyOf 30 = .ok (.iload_n 1, 1) := by decide +kernel
theorem dX12_allyOf_31 : decode cX12_allyOf 31 = .ok (.iload 4, 2) := by decide +kernel
theorem dX12_allyOf_33 : decode cX12_allyOf 33 = .ok (.iload_n 3, 1) := by decide +kernel
theorem dX12_allyOf_34 : decode cX12_allyOf 34 = .ok (.invokevirtual 475, 3) := by decide +kernel
theorem dX12_allyOf_37 : decode cX12_allyOf 37 = .ok (.ifCond .eq 7, 3) := by decide +kernel
theorem dX12_allyOf_40 : decode cX12_allyOf 40 = .ok (.iconst 1, 1) := by decide +kernel
theorem dX12_allyOf_41 : decode cX12_allyOf 41 = .ok (.goto 4, 3) := by decide +kernel
theorem dX12_allyOf_44 : decode cX12_allyOf 44 = .ok (.iconst 0, 1) := by decide +kernel
theorem dX12_allyOf_45 : decode cX12_allyOf 45 = .ok (.iadd, 1) := by decide +kernel
theorem dX12_allyOf_46 : decode cX12_allyOf 46 = .ok (.istore_n 2, 1) := by decide +kernel
theorem dX12_allyOf_47 : decode cX12_allyOf 47 = .ok (.iinc 4 1, 3) := by decide +kernel
theorem dX12_allyOf_50 : decode cX12_allyOf 50 = .ok (.goto (-33), 3) := by decide +kernel
theorem dX12_allyOf_53 : decode cX12_allyOf 53 = .ok (.iinc 3 1, 3) := by decide +kernel
theorem dX12_allyOf_56 : decode cX12_allyOf 56 = .ok (.goto (-52), 3) := by decide +kernel
theorem dX12_allyOf_59 : decode cX12_allyOf 59 = .ok (.iload_n 2, 1) := by decide +kernel
theorem dX12_allyOf_60 : decode cX12_allyOf 60 = .ok (.ireturn, 1) := by decide +kernel
theorem dX12_areLouder_0 : decode cX12_areLouder 0 = .ok (.aload_n 0, 1) := by decide +kernel
theorem dX12_areLouder_1 : decode cX12_areLouder 1 = .ok (.iload_n 2, 1) := by decide +kernel
theorem dX12_areLouder_2 : decode cX12_areLouder 2 = .ok (.iload_n 3, 1) := by decide +kernel
theorem dX12_areLouder_3 : decode cX12_areLouder 3 = .ok (.invokevirtual 355, 3) := by decide +kernel
theorem dX12_areLouder_6 : decode cX12_areLouder 6 = .ok (.iconst 0, 1) := by decide +kernel
theorem dX12_areLouder_7 : decode cX12_areLouder 7 = .ok (.istore 4, 2) := by decide +kernel
theorem dX12_areLouder_9 : decode cX12_areLouder 9 = .ok (.iconst 0, 1) := by decide +kernel
theorem dX12_areLouder_10 : decode cX12_areLouder 10 = .ok (.istore 5, 2) := by decide +kernel
theorem dX12_areLouder_12 : decode cX12_areLouder 12 = .ok (.iconst 0, 1) := by decide +kernel
theorem dX12_areLouder_13 : decode cX12_areLouder 13 = .ok (.istore 6, 2) := by decide +kernel
theorem dX12_areLouder_15 : decode cX12_areLouder 15 = .ok (.iload 6, 2) := by decide +kernel
theorem dX12_areLouder_17 : decode cX12_areLouder 17 = .ok (.aload_n 0, 1) := by decide +kernel
theorem dX12_areLouder_18 : decode cX12_areLouder 18 = .ok (.getfield 35, 3) := by decide +kernel
theorem dX12_areLouder_21 : decode cX12_areLouder 21 = .ok (.iconst 3, 1) := by decide +kernel
theorem dX12_areLouder_22 : decode cX12_areLouder 22 = .ok (.iaload, 1) := by decide +kernel
theorem dX12_areLouder_23 : decode cX12_areLouder 23 = .ok (.if_icmp .ge 47, 3) := by decide +kernel
theorem dX12_areLouder_26 : decode cX12_areLouder 26 = .ok (.iload_n 1, 1) := by decide +kernel
theorem dX12_areLouder_27 : decode cX12_areLouder 27 = .ok (.iload 6, 2) := by decide +kernel
theorem dX12_areLouder_29 : decode cX12_areLouder 29 = .ok (.invokestatic 108, 3) := by decide +kernel
theorem dX12_areLouder_32 : decode cX12_areLouder 32 = .ok (.ifCond .eq 18, 3) := by decide +kernel
theorem dX12_areLouder_35 : decode cX12_areLouder 35 = .ok (.iload 4, 2) := by decide +kernel
theorem dX12_areLouder_37 : decode cX12_areLouder 37 = .ok (.aload_n 0, 1) := by decide +kernel
theorem dX12_areLouder_38 : decode cX12_areLouder 38 = .ok (.getfield 50, 3) := by decide +kernel
theorem dX12_areLouder_41 : decode cX12_areLouder 41 = .ok (.iload 6, 2) := by decide +kernel
theorem dX12_areLouder_43 : decode cX12_areLouder 43 = .ok (.iaload, 1) := by decide +kernel
theorem dX12_areLouder_44 : decode cX12_areLouder 44 = .ok (.iadd, 1) := by decide +kernel
theorem dX12_areLouder_45 : decode cX12_areLouder 45 = .ok (.istore 4, 2) := by decide +kernel
theorem dX12_areLouder_47 : decode cX12_areLouder 47 = .ok (.goto 17, 3) := by decide +kernel
theorem dX12_areLouder_50 : decode cX12_areLouder 50 = .ok (.iload 5, 2) := by decide +kernel
theorem dX12_areLouder_52 : decode cX12_areLouder 52 = .ok (.aload_n 0, 1) := by decide +kernel
theorem dX12_areLouder_53 : decode cX12_areLouder 53 = .ok (.getfield 50, 3) := by decide +kernel
theorem dX12_areLouder_56 : decode cX12_areLouder 56 = .ok (.iload 6, 2) := by decide +kernel
theorem dX12_areLouder_58 : decode cX12_areLouder 58 = .ok (.iaload, 1) := by decide +kernel
theorem dX12_areLouder_59 : decode cX12_areLouder 59 = .ok (.invokestatic 260, 3) := by decide +kernel
theorem dX12_areLouder_62 : decode cX12_areLouder 62 = .ok (.istore 5, 2) := by decide +kernel
theorem dX12_areLouder_64 : decode cX12_areLouder 64 = .ok (.iinc 6 1, 3) := by decide +kernel
theorem dX12_areLouder_67 : decode cX12_areLouder 67 = .ok (.goto (-52), 3) := by decide +kernel
theorem dX12_areLouder_70 : decode cX12_areLouder 70 = .ok (.iload 4, 2) := by decide +kernel
theorem dX12_areLouder_72 : decode cX12_areLouder 72 = .ok (.iload 5, 2) := by decide +kernel
theorem dX12_areLouder_74 : decode cX12_areLouder 74 = .ok (.if_icmp .le 7, 3) := by decide +kernel
theorem dX12_areLouder_77 : decode cX12_areLouder 77 = .ok (.iconst 1, 1) := by decide +kernel
theorem dX12_areLouder_78 : decode cX12_areLouder 78 = .ok (.goto 4, 3) := by decide +kernel
theorem dX12_areLouder_81 : decode cX12_areLouder 81 = .ok (.iconst 0, 1) := by decide +kernel
theorem dX12_areLouder_82 : decode cX12_areLouder 82 = .ok (.ireturn, 1) := by decide +kernel
theorem dX12_isStable_0 : decode cX12_isStable 0 = .ok (.aload_n 0, 1) := by decide +kernel
theorem dX12_isStable_1 : decode cX12_isStable 1 = .ok (.iload_n 1, 1) := by decide +kernel
theorem dX12_isStable_2 : decode cX12_isStable 2 = .ok (.invokevirtual 479, 3) := by decide +kernel
theorem dX12_isStable_5 : decode cX12_isStable 5 = .ok (.istore_n 2, 1) := by decide +kernel
theorem dX12_isStable_6 : decode cX12_isStable 6 = .ok (.iconst 0, 1) := by decide +kernel
theorem dX12_isStable_7 : decode cX12_isStable 7 = .ok (.istore_n 3, 1) := by decide +kernel
theorem dX12_isStable_8 : decode cX12_isStable 8 = .ok (.iload_n 3, 1) := by decide +kernel
theorem dX12_isStable_9 : decode cX12_isStable 9 = .ok (.aload_n 0, 1) := by decide +kernel
theorem dX12_isStable_10 : decode cX12_isStable 10 = .ok (.getfield 35, 3) := by decide +kernel
theorem dX12_isStable_13 : decode cX12_isStable 13 = .ok (.iconst 3, 1) := by decide +kernel
theorem dX12_isStable_14 : decode cX12_isStable 14 = .ok (.iaload, 1) := by decide +kernel
theorem dX12_isStable_15 : decode cX12_isStable 15 = .ok (.if_icmp .ge 33, 3) := by decide +kernel
theorem dX12_isStable_18 : decode cX12_isStable 18 = .ok (.iload_n 1, 1) := by decide +kernel
theorem dX12_isStable_19 : decode cX12_isStable 19 = .ok (.iload_n 3, 1) := by decide +kernel
theorem dX12_isStable_20 : decode cX12_isStable 20 = .ok (.invokestatic 108, 3) := by decide +kernel
theorem dX12_isStable_23 : decode cX12_isStable 23 = .ok (.ifCond .eq 19, 3) := by decide +kernel
theorem dX12_isStable_26 : decode cX12_isStable 26 = .ok (.aload_n 0, 1) := by decide +kernel
theorem dX12_isStable_27 : decode cX12_isStable 27 = .ok (.iload_n 3, 1) := by decide +kernel
theorem dX12_isStable_28 : decode cX12_isStable 28 = .ok (.invokevirtual 372, 3) := by decide +kernel
theorem dX12_isStable_31 : decode cX12_isStable 31 = .ok (.iload_n 1, 1) := by decide +kernel
theorem dX12_isStable_32 : decode cX12_isStable 32 = .ok (.invokestatic 482, 3) := by decide +kernel
theorem dX12_isStable_35 : decode cX12_isStable 35 = .ok (.imul, 1) := by decide +kernel
theorem dX12_isStable_36 : decode cX12_isStable 36 = .ok (.iload_n 2, 1) := by decide +kernel
theorem dX12_isStable_37 : decode cX12_isStable 37 = .ok (.if_icmp .le 5, 3) := by decide +kernel
theorem dX12_isStable_40 : decode cX12_isStable 40 = .ok (.iconst 0, 1) := by decide +kernel
theorem dX12_isStable_41 : decode cX12_isStable 41 = .ok (.ireturn, 1) := by decide +kernel
theorem dX12_isStable_42 : decode cX12_isStable 42 = .ok (.iinc 3 1, 3) := by decide +kernel
theorem dX12_isStable_45 : decode cX12_isStable 45 = .ok (.goto (-37), 3) := by decide +kernel
theorem dX12_isStable_48 : decode cX12_isStable 48 = .ok (.iconst 1, 1) := by decide +kernel
theorem dX12_isStable_49 : decode cX12_isStable 49 = .ok (.ireturn, 1) := by decide +kernel
theorem dX12_areBands_0 : decode cX12_areBands 0 = .ok (.iload_n 1, 1) := by decide +kernel
theorem dX12_areBands_1 : decode cX12_areBands 1 = .ok (.i2l, 1) := by decide +kernel
theorem dX12_areBands_2 : decode cX12_areBands 2 = .ok (.lconst 0, 1) := by decide +kernel
theorem dX12_areBands_3 : decode cX12_areBands 3 = .ok (.iconst 1, 1) := by decide +kernel
theorem dX12_areBands_4 : decode cX12_areBands 4 = .ok (.aload_n 0, 1) := by decide +kernel
theorem dX12_areBands_5 : decode cX12_areBands 5 = .ok (.getfield 35, 3) := by decide +kernel
theorem dX12_areBands_8 : decode cX12_areBands 8 = .ok (.iconst 3, 1) := by decide +kernel
theorem dX12_areBands_9 : decode cX12_areBands 9 = .ok (.iaload, 1) := by decide +kernel
theorem dX12_areBands_10 : decode cX12_areBands 10 = .ok (.ishl, 1) := by decide +kernel
theorem dX12_areBands_11 : decode cX12_areBands 11 = .ok (.iconst 1, 1) := by decide +kernel
theorem dX12_areBands_12 : decode cX12_areBands 12 = .ok (.isub, 1) := by decide +kernel
theorem dX12_areBands_13 : decode cX12_areBands 13 = .ok (.i2l, 1) := by decide +kernel
theorem dX12_areBands_14 : decode cX12_areBands 14 = .ok (.invokestatic 104, 3) := by decide +kernel
theorem dX12_areBands_17 : decode cX12_areBands 17 = .ok (.ireturn, 1) := by decide +kernel
theorem dX12_ally_0 : decode cX12_ally 0 = .ok (.aload_n 0, 1) := by decide +kernel
theorem dX12_ally_1 : decode cX12_ally 1 = .ok (.iconst 0, 1) := by decide +kernel
theorem dX12_ally_2 : decode cX12_ally 2 = .ok (.putfield 69, 3) := by decide +kernel
theorem dX12_ally_5 : decode cX12_ally 5 = .ok (.aload_n 0, 1) := by decide +kernel
theorem dX12_ally_6 : decode cX12_ally 6 = .ok (.iconst 0, 1) := by decide +kernel
theorem dX12_ally_7 : decode cX12_ally 7 = .ok (.putfield 72, 3) := by decide +kernel
theorem dX12_ally_10 : decode cX12_ally 10 = .ok (.aload_n 0, 1) := by decide +kernel
theorem dX12_ally_11 : decode cX12_ally 11 = .ok (.iload_n 1, 1) := by decide +kernel
theorem dX12_ally_12 : decode cX12_ally 12 = .ok (.invokevirtual 485, 3) := by decide +kernel
theorem dX12_ally_15 : decode cX12_ally 15 = .ok (.ifCond .ne 9, 3) := by decide +kernel
theorem dX12_ally_18 : decode cX12_ally 18 = .ok (.aload_n 0, 1) := by decide +kernel
theorem dX12_ally_19 : decode cX12_ally 19 = .ok (.iconst 5, 1) := by decide +kernel
theorem dX12_ally_20 : decode cX12_ally 20 = .ok (.invokevirtual 363, 3) := by decide +kernel
theorem dX12_ally_23 : decode cX12_ally 23 = .ok (.ireturn, 1) := by decide +kernel
theorem dX12_ally_24 : decode cX12_ally 24 = .ok (.aload_n 0, 1) := by decide +kernel
theorem dX12_ally_25 : decode cX12_ally 25 = .ok (.invokevirtual 366, 3) := by decide +kernel
theorem dX12_ally_28 : decode cX12_ally 28 = .ok (.aload_n 0, 1) := by decide +kernel
theorem dX12_ally_29 : decode cX12_ally 29 = .ok (.iload_n 1, 1) := by decide +kernel
theorem dX12_ally_30 : decode cX12_ally 30 = .ok (.invokevirtual 479, 3) := by decide +kernel
theorem dX12_ally_33 : decode cX12_ally 33 = .ok (.ireturn, 1) := by decide +kernel
theorem dX12_stable_0 : decode cX12_stable 0 = .ok (.aload_n 0, 1) := by decide +kernel
theorem dX12_stable_1 : decode cX12_stable 1 = .ok (.iconst 0, 1) := by decide +kernel
theorem dX12_stable_2 : decode cX12_stable 2 = .ok (.putfield 69, 3) := by decide +kernel
theorem dX12_stable_5 : decode cX12_stable 5 = .ok (.aload_n 0, 1) := by decide +kernel
theorem dX12_stable_6 : decode cX12_stable 6 = .ok (.iconst 0, 1) := by decide +kernel
theorem dX12_stable_7 : decode cX12_stable 7 = .ok (.putfield 72, 3) := by decide +kernel
theorem dX12_stable_10 : decode cX12_stable 10 = .ok (.aload_n 0, 1) := by decide +kernel
theorem dX12_stable_11 : decode cX12_stable 11 = .ok (.iload_n 1, 1) := by decide +kernel
theorem dX12_stable_12 : decode cX12_stable 12 = .ok (.invokevirtual 485, 3) := by decide +kernel
theorem dX12_stable_15 : decode cX12_stable 15 = .ok (.ifCond .eq 7, 3) := by decide +kernel
theorem dX12_stable_18 : decode cX12_stable 18 = .ok (.iload_n 1, 1) := by decide +kernel
theorem dX12_stable_19 : decode cX12_stable 19 = .ok (.ifCond .ne 9, 3) := by decide +kernel
theorem dX12_stable_22 : decode cX12_stable 22 = .ok (.aload_n 0, 1) := by decide +kernel
theorem dX12_stable_23 : decode cX12_stable 23 = .ok (.iconst 5, 1) := by decide +kernel
theorem dX12_stable_24 : decode cX12_stable 24 = .ok (.invokevirtual 363, 3) := by decide +kernel
theorem dX12_stable_27 : decode cX12_stable 27 = .ok (.ireturn, 1) := by decide +kernel
theorem dX12_stable_28 : decode cX12_stable 28 = .ok (.aload_n 0, 1) := by decide +kernel
theorem dX12_stable_29 : decode cX12_stable 29 = .ok (.invokevirtual 366, 3) := by decide +kernel
theorem dX12_stable_32 : decode cX12_stable 32 = .ok (.aload_n 0, 1) := by decide +kernel
theorem dX12_stable_33 : decode cX12_stable 33 = .ok (.iload_n 1, 1) := by decide +kernel
theorem dX12_stable_34 : decode cX12_stable 34 = .ok (.invokevirtual 488, 3) := by decide +kernel
theorem dX12_stable_37 : decode cX12_stable 37 = .ok (.ifCond .eq 7, 3) := by decide +kernel
theorem dX12_stable_40 : decode cX12_stable 40 = .ok (.iconst 1, 1) := by decide +kernel
theorem dX12_stable_41 : decode cX12_stable 41 = .ok (.goto 4, 3) := by decide +kernel
theorem dX12_stable_44 : decode cX12_stable 44 = .ok (.iconst 0, 1) := by decide +kernel
theorem dX12_stable_45 : decode cX12_stable 45 = .ok (.ireturn, 1) := by decide +kernel
theorem dX12_alliance_0 : decode cX12_alliance 0 = .ok (.aload_n 0, 1) := by decide +kernel
theorem dX12_alliance_1 : decode cX12_alliance 1 = .ok (.iconst 0, 1) := by decide +kernel
theorem dX12_alliance_2 : decode cX12_alliance 2 = .ok (.putfield 69, 3) := by decide +kernel
theorem dX12_alliance_5 : decode cX12_alliance 5 = .ok (.aload_n 0, 1) := by decide +kernel
theorem dX12_alliance_6 : decode cX12_alliance 6 = .ok (.iconst 0, 1) := by decide +kernel
theorem dX12_alliance_7 : decode cX12_alliance 7 = .ok (.putfield 72, 3) := by decide +kernel
theorem dX12_alliance_10 : decode cX12_alliance 10 = .ok (.aload_n 0, 1) := by decide +kernel
theorem dX12_alliance_11 : decode cX12_alliance 11 = .ok (.invokevirtual 366, 3) := by decide +kernel
theorem dX12_alliance_14 : decode cX12_alliance 14 = .ok (.iconst (-1), 1) := by decide +kernel
theorem dX12_alliance_15 : decode cX12_alliance 15 = .ok (.istore_n 1, 1) := by decide +kernel
theorem dX12_alliance_16 : decode cX12_alliance 16 = .ok (.iconst 0, 1) := by decide +kernel
theorem dX12_alliance_17 : decode cX12_alliance 17 = .ok (.istore_n 2, 1) := by decide +kernel
theorem dX12_alliance_18 : decode cX12_alliance 18 = .ok (.iconst 1, 1) := by decide +kernel
theorem dX12_alliance_19 : decode cX12_alliance 19 = .ok (.istore_n 3, 1) := by decide +kernel
theorem dX12_alliance_20 : decode cX12_alliance 20 = .ok (.iload_n 3, 1) := by decide +kernel
theorem dX12_alliance_21 : decode cX12_alliance 21 = .ok (.iconst 1, 1) := by decide +kernel
theorem dX12_alliance_22 : decode cX12_alliance 22 = .ok (.aload_n 0, 1) := by decide +kernel
theorem dX12_alliance_23 : decode cX12_alliance 23 = .ok (.getfield 35, 3) := by decide +kernel
theorem dX12_alliance_26 : decode cX12_alliance 26 = .ok (.iconst 3, 1) := by decide +kernel
theorem dX12_alliance_27 : decode cX12_alliance 27 = .ok (.iaload, 1) := by decide +kernel
theorem dX12_alliance_28 : decode cX12_alliance 28 = .ok (.ishl, 1) := by decide +kernel
theorem dX12_alliance_29 : decode cX12_alliance 29 = .ok (.if_icmp .ge 49, 3) := by decide +kernel
theorem dX12_alliance_32 : decode cX12_alliance 32 = .ok (.iload_n 3, 1) := by decide +kernel
theorem dX12_alliance_33 : decode cX12_alliance 33 = .ok (.invokestatic 482, 3) := by decide +kernel
theorem dX12_alliance_36 : decode cX12_alliance 36 = .ok (.iconst 2, 1) := by decide +kernel
theorem dX12_alliance_37 : decode cX12_alliance 37 = .ok (.if_icmp .lt 35, 3) := by decide +kernel
theorem dX12_alliance_40 : decode cX12_alliance 40 = .ok (.aload_n 0, 1) := by decide +kernel
theorem dX12_alliance_41 : decode cX12_alliance 41 = .ok (.iload_n 3, 1) := by decide +kernel
theorem dX12_alliance_42 : decode cX12_alliance 42 = .ok (.invokevirtual 488, 3) := by decide +kernel
theorem dX12_alliance_45 : decode cX12_alliance 45 = .ok (.ifCond .eq 27, 3) := by decide +kernel
theorem dX12_alliance_48 : decode cX12_alliance 48 = .ok (.iload_n 1, 1) := by decide +kernel
theorem dX12_alliance_49 : decode cX12_alliance 49 = .ok (.ifCond .lt 15, 3) := by decide +kernel
theorem dX12_alliance_52 : decode cX12_alliance 52 = .ok (.aload_n 0, 1) := by decide +kernel
theorem dX12_alliance_53 : decode cX12_alliance 53 = .ok (.iload_n 3, 1) := by decide +kernel
theorem dX12_alliance_54 : decode cX12_alliance 54 = .ok (.invokevirtual 479, 3) := by decide +kernel
theorem dX12_alliance_57 : decode cX12_alliance 57 = .ok (.iload_n 2, 1) := by decide +kernel
theorem dX12_alliance_58 : decode cX12_alliance 58 = .ok (.if_icmp .gt 6, 3) := by decide +kernel
theorem dX12_alliance_61 : decode cX12_alliance 61 = .ok (.goto 11, 3) := by decide +kernel
theorem dX12_alliance_64 : decode cX12_alliance 64 = .ok (.iload_n 3, 1) := by decide +kernel
theorem dX12_alliance_65 : decode cX12_alliance 65 = .ok (.istore_n 1, 1) := by decide +kernel
theorem dX12_alliance_66 : decode cX12_alliance 66 = .ok (.aload_n 0, 1) := by decide +kernel
theorem dX12_alliance_67 : decode cX12_alliance 67 = .ok (.iload_n 3, 1) := by decide +kernel
theorem dX12_alliance_68 : decode cX12_alliance 68 = .ok (.invokevirtual 479, 3) := by decide +kernel
theorem dX12_alliance_71 : decode cX12_alliance 71 = .ok (.istore_n 2, 1) := by decide +kernel
theorem dX12_alliance_72 : decode cX12_alliance 72 = .ok (.iinc 3 1, 3) := by decide +kernel
theorem dX12_alliance_75 : decode cX12_alliance 75 = .ok (.goto (-55), 3) := by decide +kernel
theorem dX12_alliance_78 : decode cX12_alliance 78 = .ok (.iload_n 1, 1) := by decide +kernel
theorem dX12_alliance_79 : decode cX12_alliance 79 = .ok (.ifCond .ge 12, 3) := by decide +kernel
theorem dX12_alliance_82 : decode cX12_alliance 82 = .ok (.aload_n 0, 1) := by decide +kernel
theorem dX12_alliance_83 : decode cX12_alliance 83 = .ok (.bipush 8, 2) := by decide +kernel
theorem dX12_alliance_85 : decode cX12_alliance 85 = .ok (.invokevirtual 363, 3) := by decide +kernel
theorem dX12_alliance_88 : decode cX12_alliance 88 = .ok (.goto 4, 3) := by decide +kernel
theorem dX12_alliance_91 : decode cX12_alliance 91 = .ok (.iload_n 1, 1) := by decide +kernel
theorem dX12_alliance_92 : decode cX12_alliance 92 = .ok (.ireturn, 1) := by decide +kernel
theorem dX12_begins_0 : decode cX12_begins 0 = .ok (.iload_n 0, 1) := by decide +kernel
theorem dX12_begins_1 : decode cX12_begins 1 = .ok (.iload_n 1, 1) := by decide +kernel
theorem dX12_begins_2 : decode cX12_begins 2 = .ok (.if_icmp .lt 15, 3) := by decide +kernel
theorem dX12_begins_5 : decode cX12_begins 5 = .ok (.iload_n 0, 1) := by decide +kernel
theorem dX12_begins_6 : decode cX12_begins 6 = .ok (.iload_n 1, 1) := by decide +kernel
theorem dX12_begins_7 : decode cX12_begins 7 = .ok (.isub, 1) := by decide +kernel
theorem dX12_begins_8 : decode cX12_begins 8 = .ok (.iload_n 2, 1) := by decide +kernel
theorem dX12_begins_9 : decode cX12_begins 9 = .ok (.irem, 1) := by decide +kernel
theorem dX12_begins_10 : decode cX12_begins 10 = .ok (.ifCond .ne 7, 3) := by decide +kernel
theorem dX12_begins_13 : decode cX12_begins 13 = .ok (.iconst 1, 1) := by decide +kernel
theorem dX12_begins_14 : decode cX12_begins 14 = .ok (.goto 4, 3) := by decide +kernel
theorem dX12_begins_17 : decode cX12_begins 17 = .ok (.iconst 0, 1) := by decide +kernel
theorem dX12_begins_18 : decode cX12_begins 18 = .ok (.ireturn, 1) := by decide +kernel
theorem dX12_together_0 : decode cX12_together 0 = .ok (.aload_n 0, 1) := by decide +kernel
theorem dX12_together_1 : decode cX12_together 1 = .ok (.iconst 0, 1) := by decide +kernel
theorem dX12_together_2 : decode cX12_together 2 = .ok (.putfield 69, 3) := by decide +kernel
theorem dX12_together_5 : decode cX12_together 5 = .ok (.aload_n 0, 1) := by decide +kernel
theorem dX12_together_6 : decode cX12_together 6 = .ok (.iconst 0, 1) := by decide +kernel
theorem dX12_together_7 : decode cX12_together 7 = .ok (.putfield 72, 3) := by decide +kernel
theorem dX12_together_10 : decode cX12_together 10 = .ok (.aload_n 0, 1) := by decide +kernel
theorem dX12_together_11 : decode cX12_together 11 = .ok (.iload_n 1, 1) := by decide +kernel
theorem dX12_together_12 : decode cX12_together 12 = .ok (.invokevirtual 378, 3) := by decide +kernel
theorem dX12_together_15 : decode cX12_together 15 = .ok (.ifCond .eq 11, 3) := by decide +kernel
theorem dX12_together_18 : decode cX12_together 18 = .ok (.aload_n 0, 1) := by decide +kernel
theorem dX12_together_19 : decode cX12_together 19 = .ok (.iload_n 3, 1) := by decide +kernel
theorem dX12_together_20 : decode cX12_together 20 = .ok (.invokevirtual 378, 3) := by decide +kernel
theorem dX12_together_23 : decode cX12_together 23 = .ok (.ifCond .ne 9, 3) := by decide +kernel
theorem dX12_together_26 : decode cX12_together 26 = .ok (.aload_n 0, 1) := by decide +kernel
theorem dX12_together_27 : decode cX12_together 27 = .ok (.iconst 2, 1) := by decide +kernel
theorem dX12_together_28 : decode cX12_together 28 = .ok (.invokevirtual 363, 3) := by decide +kernel
theorem dX12_together_31 : decode cX12_together 31 = .ok (.ireturn, 1) := by decide +kernel
theorem dX12_together_32 : decode cX12_together 32 = .ok (.iload_n 2, 1) := by decide +kernel
theorem dX12_together_33 : decode cX12_together 33 = .ok (.i2l, 1) := by decide +kernel
theorem dX12_together_34 : decode cX12_together 34 = .ok (.lconst 0, 1) := by decide +kernel
theorem dX12_together_35 : decode cX12_together 35 = .ok (.ldc2_w 397, 3) := by decide +kernel
theorem dX12_together_38 : decode cX12_together 38 = .ok (.invokestatic 104, 3) := by decide +kernel
theorem dX12_together_41 : decode cX12_together 41 = .ok (.ifCond .eq 16, 3) := by decide +kernel
theorem dX12_together_44 : decode cX12_together 44 = .ok (.iload 4, 2) := by decide +kernel
theorem dX12_together_46 : decode cX12_together 46 = .ok (.i2l, 1) := by decide +kernel
theorem dX12_together_47 : decode cX12_together 47 = .ok (.lconst 0, 1) := by decide +kernel
theorem dX12_together_48 : decode cX12_together 48 = .ok (.ldc2_w 397, 3) := by decide +kernel
theorem dX12_together_51 : decode cX12_together 51 = .ok (.invokestatic 104, 3) := by decide +kernel
theorem dX12_together_54 : decode cX12_together 54 = .ok (.ifCond .ne 9, 3) := by decide +kernel
theorem dX12_together_57 : decode cX12_together 57 = .ok (.aload_n 0, 1) := by decide +kernel
theorem dX12_together_58 : decode cX12_together 58 = .ok (.iconst 5, 1) := by decide +kernel
theorem dX12_together_59 : decode cX12_together 59 = .ok (.invokevirtual 363, 3) := by decide +kernel
theorem dX12_together_62 : decode cX12_together 62 = .ok (.ireturn, 1) := by decide +kernel
theorem dX12_together_63 : decode cX12_together 63 = .ok (.iconst 0, 1) := by decide +kernel
theorem dX12_together_64 : decode cX12_together 64 = .ok (.istore 5, 2) := by decide +kernel
theorem dX12_together_66 : decode cX12_together 66 = .ok (.iload 5, 2) := by decide +kernel
theorem dX12_together_68 : decode cX12_together 68 = .ok (.sipush 9901, 3) := by decide +kernel
theorem dX12_together_71 : decode cX12_together 71 = .ok (.if_icmp .ge 49, 3) := by decide +kernel
theorem dX12_together_74 : decode cX12_together 74 = .ok (.iload 5, 2) := by decide +kernel
theorem dX12_together_76 : decode cX12_together 76 = .ok (.iload_n 2, 1) := by decide +kernel
theorem dX12_together_77 : decode cX12_together 77 = .ok (.aload_n 0, 1) := by decide +kernel
theorem dX12_together_78 : decode cX12_together 78 = .ok (.getfield 35, 3) := by decide +kernel
theorem dX12_together_81 : decode cX12_together 81 = .ok (.bipush 22, 2) := by decide +kernel
theorem dX12_together_83 : decode cX12_together 83 = .ok (.iload_n 1, 1) := by decide +kernel
theorem dX12_together_84 : decode cX12_together 84 = .ok (.iadd, 1) := by decide +kernel
theorem dX12_together_85 : decode cX12_together 85 = .ok (.iaload, 1) := by decide +kernel
theorem dX12_together_86 : decode cX12_together 86 = .ok (.invokestatic 491, 3) := by decide +kernel
theorem dX12_together_89 : decode cX12_together 89 = .ok (.ifCond .eq 25, 3) := by decide +kernel
theorem dX12_together_92 : decode cX12_together 92 = .ok (.iload 5, 2) := by decide +kernel
theorem dX12_together_94 : decode cX12_together 94 = .ok (.iload 4, 2) := by decide +kernel
theorem dX12_together_96 : decode cX12_together 96 = .ok (.aload_n 0, 1) := by decide +kernel
theorem dX12_together_97 : decode cX12_together 97 = .ok (.getfield 35, 3) := by decide +kernel
theorem dX12_together_100 : decode cX12_together 100 = .ok (.bipush 22, 2) := by decide +kernel
theorem dX12_together_102 : decode cX12_together 102 = .ok (.iload_n 3, 1) := by decide +kernel
theorem dX12_together_103 : decode cX12_together 103 = .ok (.iadd, 1) := by decide +kernel
theorem dX12_together_104 : decode cX12_together 104 = .ok (.iaload, 1) := by decide +kernel
theorem dX12_together_105 : decode cX12_together 105 = .ok (.invokestatic 491, 3) := by decide +kernel
theorem dX12_together_108 : decode cX12_together 108 = .ok (.ifCond .eq 6, 3) := by decide +kernel
theorem dX12_together_111 : decode cX12_together 111 = .ok (.iload 5, 2) := by decide +kernel
theorem dX12_together_113 : decode cX12_together 113 = .ok (.ireturn, 1) := by decide +kernel
theorem dX12_together_114 : decode cX12_together 114 = .ok (.iinc 5 1, 3) := by decide +kernel
theorem dX12_together_117 : decode cX12_together 117 = .ok (.goto (-51), 3) := by decide +kernel
theorem dX12_together_120 : decode cX12_together 120 = .ok (.aload_n 0, 1) := by decide +kernel
theorem dX12_together_121 : decode cX12_together 121 = .ok (.bipush 8, 2) := by decide +kernel
theorem dX12_together_123 : decode cX12_together 123 = .ok (.invokevirtual 363, 3) := by decide +kernel
theorem dX12_together_126 : decode cX12_together 126 = .ok (.ireturn, 1) := by decide +kernel
theorem dX12_whyNoLips_0 : decode cX12_whyNoLips 0 = .ok (.aload_n 0, 1) := by decide +kernel
theorem dX12_whyNoLips_1 : decode cX12_whyNoLips 1 = .ok (.iload_n 2, 1) := by decide +kernel
theorem dX12_whyNoLips_2 : decode cX12_whyNoLips 2 = .ok (.invokevirtual 421, 3) := by decide +kernel
theorem dX12_whyNoLips_5 : decode cX12_whyNoLips 5 = .ok (.ifCond .ne 5, 3) := by decide +kernel
theorem dX12_whyNoLips_8 : decode cX12_whyNoLips 8 = .ok (.iconst 1, 1) := by decide +kernel
theorem dX12_whyNoLips_9 : decode cX12_whyNoLips 9 = .ok (.ireturn, 1) := by decide +kernel
theorem dX12_whyNoLips_10 : decode cX12_whyNoLips 10 = .ok (.aload_n 0, 1) := by decide +kernel
theorem dX12_whyNoLips_11 : decode cX12_whyNoLips 11 = .ok (.iload_n 1, 1) := by decide +kernel
theorem dX12_whyNoLips_12 : decode cX12_whyNoLips 12 = .ok (.invokevirtual 383, 3) := by decide +kernel
theorem dX12_whyNoLips_15 : decode cX12_whyNoLips 15 = .ok (.ifCond .ne 5, 3) := by decide +kernel
theorem dX12_whyNoLips_18 : decode cX12_whyNoLips 18 = .ok (.iconst 2, 1) := by decide +kernel
theorem dX12_whyNoLips_19 : decode cX12_whyNoLips 19 = .ok (.ireturn, 1) := by decide +kernel
theorem dX12_whyNoLips_20 : decode cX12_whyNoLips 20 = .ok (.aload_n 0, 1) := by decide +kernel
theorem dX12_whyNoLips_21 : decode cX12_whyNoLips 21 = .ok (.getfield 17, 3) := by decide +kernel
theorem dX12_whyNoLips_24 : decode cX12_whyNoLips 24 = .ok (.iload_n 2, 1) := by decide +kernel
theorem dX12_whyNoLips_25 : decode cX12_whyNoLips 25 = .ok (.iaload, 1) := by decide +kernel
theorem dX12_whyNoLips_26 : decode cX12_whyNoLips 26 = .ok (.ifCond .ge 5, 3) := by decide +kernel
theorem dX12_whyNoLips_29 : decode cX12_whyNoLips 29 = .ok (.iconst 3, 1) := by decide +kernel
theorem dX12_whyNoLips_30 : decode cX12_whyNoLips 30 = .ok (.ireturn, 1) := by decide +kernel
theorem dX12_whyNoLips_31 : decode cX12_whyNoLips 31 = .ok (.aload_n 0, 1) := by decide +kernel
theorem dX12_whyNoLips_32 : decode cX12_whyNoLips 32 = .ok (.getfield 17, 3) := by decide +kernel
theorem dX12_whyNoLips_35 : decode cX12_whyNoLips 35 = .ok (.iload_n 2, 1) := by decide +kernel
theorem dX12_whyNoLips_36 : decode cX12_whyNoLips 36 = .ok (.iaload, 1) := by decide +kernel
theorem dX12_whyNoLips_37 : decode cX12_whyNoLips 37 = .ok (.iload_n 3, 1) := by decide +kernel
theorem dX12_whyNoLips_38 : decode cX12_whyNoLips 38 = .ok (.if_icmp .ge 5, 3) := by decide +kernel
theorem dX12_whyNoLips_41 : decode cX12_whyNoLips 41 = .ok (.iconst 4, 1) := by decide +kernel
theorem dX12_whyNoLips_42 : decode cX12_whyNoLips 42 = .ok (.ireturn, 1) := by decide +kernel
theorem dX12_whyNoLips_43 : decode cX12_whyNoLips 43 = .ok (.iload_n 3, 1) := by decide +kernel
theorem dX12_whyNoLips_44 : decode cX12_whyNoLips 44 = .ok (.i2l, 1) := by decide +kernel
theorem dX12_whyNoLips_45 : decode cX12_whyNoLips 45 = .ok (.lconst 0, 1) := by decide +kernel
theorem dX12_whyNoLips_46 : decode cX12_whyNoLips 46 = .ok (.ldc2_w 494, 3) := by decide +kernel
theorem dX12_whyNoLips_49 : decode cX12_whyNoLips 49 = .ok (.invokestatic 104, 3) := by decide +kernel
theorem dX12_whyNoLips_52 : decode cX12_whyNoLips 52 = .ok (.ifCond .ne 5, 3) := by decide +kernel
theorem dX12_whyNoLips_55 : decode cX12_whyNoLips 55 = .ok (.iconst 5, 1) := by decide +kernel
theorem dX12_whyNoLips_56 : decode cX12_whyNoLips 56 = .ok (.ireturn, 1) := by decide +kernel
theorem dX12_whyNoLips_57 : decode cX12_whyNoLips 57 = .ok (.iconst 0, 1) := by decide +kernel
theorem dX12_whyNoLips_58 : decode cX12_whyNoLips 58 = .ok (.istore 4, 2) := by decide +kernel
theorem dX12_whyNoLips_60 : decode cX12_whyNoLips 60 = .ok (.iload 4, 2) := by decide +kernel
theorem dX12_whyNoLips_62 : decode cX12_whyNoLips 62 = .ok (.iload_n 3, 1) := by decide +kernel
theorem dX12_whyNoLips_63 : decode cX12_whyNoLips 63 = .ok (.if_icmp .ge 26, 3) := by decide +kernel
theorem dX12_whyNoLips_66 : decode cX12_whyNoLips 66 = .ok (.aload_n 0, 1) := by decide +kernel
theorem dX12_whyNoLips_67 : decode cX12_whyNoLips 67 = .ok (.iload_n 2, 1) := by decide +kernel
theorem dX12_whyNoLips_68 : decode cX12_whyNoLips 68 = .ok (.iload 4, 2) := by decide +kernel
theorem dX12_whyNoLips_70 : decode cX12_whyNoLips 70 = .ok (.invokevirtual 496, 3) := by decide +kernel
theorem dX12_whyNoLips_73 : decode cX12_whyNoLips 73 = .ok (.lconst 0, 1) := by decide +kernel
theorem dX12_whyNoLips_74 : decode cX12_whyNoLips 74 = .ok (.lconst 1, 1) := by decide +kernel
theorem dX12_whyNoLips_75 : decode cX12_whyNoLips 75 = .ok (.invokestatic 104, 3) := by decide +kernel
theorem dX12_whyNoLips_78 : decode cX12_whyNoLips 78 = .ok (.ifCond .ne 5, 3) := by decide +kernel
theorem dX12_whyNoLips_81 : decode cX12_whyNoLips 81 = .ok (.iconst 5, 1) := by decide +kernel
theorem dX12_whyNoLips_82 : decode cX12_whyNoLips 82 = .ok (.ireturn, 1) := by decide +kernel
theorem dX12_whyNoLips_83 : decode cX12_whyNoLips 83 = .ok (.iinc 4 1, 3) := by decide +kernel
theorem dX12_whyNoLips_86 : decode cX12_whyNoLips 86 = .ok (.goto (-26), 3) := by decide +kernel
theorem dX12_whyNoLips_89 : decode cX12_whyNoLips 89 = .ok (.iconst 0, 1) := by decide +kernel
theorem dX12_whyNoLips_90 : decode cX12_whyNoLips 90 = .ok (.ireturn, 1) := by decide +kernel
theorem dX12_isSo_0 : decode cX12_isSo 0 = .ok (.iload 4, 2) := by decide +kernel
theorem dX12_isSo_2 : decode cX12_isSo 2 = .ok (.istore 5, 2) := by decide +kernel
theorem dX12_isSo_4 : decode cX12_isSo 4 = .ok (.iconst 0, 1) := by decide +kernel
theorem dX12_isSo_5 : decode cX12_isSo 5 = .ok (.istore 6, 2) := by decide +kernel
theorem dX12_isSo_7 : decode cX12_isSo 7 = .ok (.iload 6, 2) := by decide +kernel
theorem dX12_isSo_9 : decode cX12_isSo 9 = .ok (.iload_n 3, 1) := by decide +kernel
theorem dX12_isSo_10 : decode cX12_isSo 10 = .ok (.if_icmp .ge 115, 3) := by decide +kernel
theorem dX12_isSo_13 : decode cX12_isSo 13 = .ok (.aload_n 0, 1) := by decide +kernel
theorem dX12_isSo_14 : decode cX12_isSo 14 = .ok (.iload_n 1, 1) := by decide +kernel
theorem dX12_isSo_15 : decode cX12_isSo 15 = .ok (.iload 6, 2) := by decide +kernel
theorem dX12_isSo_17 : decode cX12_isSo 17 = .ok (.invokevirtual 340, 3) := by decide +kernel
theorem dX12_isSo_20 : decode cX12_isSo 20 = .ok (.istore 7, 2) := by decide +kernel
theorem dX12_isSo_22 : decode cX12_isSo 22 = .ok (.iload 7, 2) := by decide +kernel
theorem dX12_isSo_24 : decode cX12_isSo 24 = .ok (.bipush 6, 2) := by decide +kernel
theorem dX12_isSo_26 : decode cX12_isSo 26 = .ok (.if_icmp .ge 22, 3) := by decide +kernel
theorem dX12_isSo_29 : decode cX12_isSo 29 = .ok (.iload 5, 2) := by decide +kernel
theorem dX12_isSo_31 : decode cX12_isSo 31 = .ok (.aload_n 0, 1) := by decide +kernel
theorem dX12_isSo_32 : decode cX12_isSo 32 = .ok (.getfield 35, 3) := by decide +kernel
theorem dX12_isSo_35 : decode cX12_isSo 35 = .ok (.bipush 16, 2) := by decide +kernel
theorem dX12_isSo_37 : decode cX12_isSo 37 = .ok (.iload 7, 2) := by decide +kernel
theorem dX12_isSo_39 : decode cX12_isSo 39 = .ok (.iadd, 1) := by decide +kernel
theorem dX12_isSo_40 : decode cX12_isSo 40 = .ok (.iaload, 1) := by decide +kernel
theorem dX12_isSo_41 : decode cX12_isSo 41 = .ok (.if_icmp .lt 7, 3) := by decide +kernel
theorem dX12_isSo_44 : decode cX12_isSo 44 = .ok (.iconst 1, 1) := by decide +kernel
theorem dX12_isSo_45 : decode cX12_isSo 45 = .ok (.goto 4, 3) := by decide +kernel
theorem dX12_isSo_48 : decode cX12_isSo 48 = .ok (.iconst 0, 1) := by decide +kernel
theorem dX12_isSo_49 : decode cX12_isSo 49 = .ok (.istore 8, 2) := by decide +kernel
theorem dX12_isSo_51 : decode cX12_isSo 51 = .ok (.iload 8, 2) := by decide +kernel
theorem dX12_isSo_53 : decode cX12_isSo 53 = .ok (.aload_n 0, 1) := by decide +kernel
theorem dX12_isSo_54 : decode cX12_isSo 54 = .ok (.iload_n 2, 1) := by decide +kernel
theorem dX12_isSo_55 : decode cX12_isSo 55 = .ok (.iload 6, 2) := by decide +kernel
theorem dX12_isSo_57 : decode cX12_isSo 57 = .ok (.invokevirtual 496, 3) := by decide +kernel
theorem dX12_isSo_60 : decode cX12_isSo 60 = .ok (.lconst 1, 1) := by decide +kernel
theorem dX12_isSo_61 : decode cX12_isSo 61 = .ok (.lcmp, 1) := by decide +kernel
theorem dX12_isSo_62 : decode cX12_isSo 62 = .ok (.ifCond .ne 7, 3) := by decide +kernel
theorem dX12_isSo_65 : decode cX12_isSo 65 = .ok (.iconst 1, 1) := by decide +kernel
theorem dX12_isSo_66 : decode cX12_isSo 66 = .ok (.goto 4, 3) := by decide +kernel
theorem dX12_isSo_69 : decode cX12_isSo 69 = .ok (.iconst 0, 1) := by decide +kernel
theorem dX12_isSo_70 : decode cX12_isSo 70 = .ok (.if_icmp .eq 5, 3) := by decide +kernel
theorem dX12_isSo_73 : decode cX12_isSo 73 = .ok (.iconst 0, 1) := by decide +kernel
theorem dX12_isSo_74 : decode cX12_isSo 74 = .ok (.ireturn, 1) := by decide +kernel
theorem dX12_isSo_75 : decode cX12_isSo 75 = .ok (.iload 8, 2) := by decide +kernel
theorem dX12_isSo_77 : decode cX12_isSo 77 = .ok (.ifCond .eq 19, 3) := by decide +kernel
theorem dX12_isSo_80 : decode cX12_isSo 80 = .ok (.iload 5, 2) := by decide +kernel
theorem dX12_isSo_82 : decode cX12_isSo 82 = .ok (.aload_n 0, 1) := by decide +kernel
theorem dX12_isSo_83 : decode cX12_isSo 83 = .ok (.getfield 35, 3) := by decide +kernel
theorem dX12_isSo_86 : decode cX12_isSo 86 = .ok (.bipush 16, 2) := by decide +kernel
theorem dX12_isSo_88 : decode cX12_isSo 88 = .ok (.iload 7, 2) := by decide +kernel
theorem dX12_isSo_90 : decode cX12_isSo 90 = .ok (.iadd, 1) := by decide +kernel
theorem dX12_isSo_91 : decode cX12_isSo 91 = .ok (.iaload, 1) := by decide +kernel
theorem dX12_isSo_92 : decode cX12_isSo 92 = .ok (.isub, 1) := by decide +kernel
theorem dX12_isSo_93 : decode cX12_isSo 93 = .ok (.goto 24, 3) := by decide +kernel
theorem dX12_isSo_96 : decode cX12_isSo 96 = .ok (.aload_n 0, 1) := by decide +kernel
theorem dX12_isSo_97 : decode cX12_isSo 97 = .ok (.getfield 35, 3) := by decide +kernel
theorem dX12_isSo_100 : decode cX12_isSo 100 = .ok (.bipush 52, 2) := by decide +kernel
theorem dX12_isSo_102 : decode cX12_isSo 102 = .ok (.iload_n 1, 1) := by decide +kernel
theorem dX12_isSo_103 : decode cX12_isSo 103 = .ok (.iadd, 1) := by decide +kernel
theorem dX12_isSo_104 : decode cX12_isSo 104 = .ok (.iaload, 1) := by decide +kernel
theorem dX12_isSo_105 : decode cX12_isSo 105 = .ok (.iload 5, 2) := by decide +kernel
theorem dX12_isSo_107 : decode cX12_isSo 107 = .ok (.aload_n 0, 1) := by decide +kernel
theorem dX12_isSo_108 : decode cX12_isSo 108 = .ok (.getfield 35, 3) := by decide +kernel
theorem dX12_isSo_111 : decode cX12_isSo 111 = .ok (.iconst 5, 1) := by decide +kernel
theorem dX12_isSo_112 : decode cX12_isSo 112 = .ok (.iaload, 1) := by decide +kernel
theorem dX12_isSo_113 : decode cX12_isSo 113 = .ok (.iadd, 1) := by decide +kernel
theorem dX12_isSo_114 : decode cX12_isSo 114 = .ok (.invokestatic 394, 3) := by decide +kernel
theorem dX12_isSo_117 : decode cX12_isSo 117 = .ok (.istore 5, 2) := by decide +kernel
theorem dX12_isSo_119 : decode cX12_isSo 119 = .ok (.iinc 6 1, 3) := by decide +kernel
theorem dX12_isSo_122 : decode cX12_isSo 122 = .ok (.goto (-115), 3) := by decide +kernel
theorem dX12_isSo_125 : decode cX12_isSo 125 = .ok (.iconst 1, 1) := by decide +kernel
theorem dX12_isSo_126 : decode cX12_isSo 126 = .ok (.ireturn, 1) := by decide +kernel
theorem dX12_fits_0 : decode cX12_fits 0 = .ok (.aload_n 0, 1) := by decide +kernel
theorem dX12_fits_1 : decode cX12_fits 1 = .ok (.iconst 0, 1) := by decide +kernel
theorem dX12_fits_2 : decode cX12_fits 2 = .ok (.putfield 69, 3) := by decide +kernel
theorem dX12_fits_5 : decode cX12_fits 5 = .ok (.aload_n 0, 1) := by decide +kernel
theorem dX12_fits_6 : decode cX12_fits 6 = .ok (.aload_n 0, 1) := by decide +kernel
theorem dX12_fits_7 : decode cX12_fits 7 = .ok (.iload_n 1, 1) := by decide +kernel
theorem dX12_fits_8 : decode cX12_fits 8 = .ok (.iload_n 2, 1) := by decide +kernel
theorem dX12_fits_9 : decode cX12_fits 9 = .ok (.iload_n 3, 1) := by decide +kernel
theorem dX12_fits_10 : decode cX12_fits 10 = .ok (.invokevirtual 500, 3) := by decide +kernel
theorem dX12_fits_13 : decode cX12_fits 13 = .ok (.putfield 72, 3) := by decide +kernel
theorem dX12_fits_16 : decode cX12_fits 16 = .ok (.aload_n 0, 1) := by decide +kernel
theorem dX12_fits_17 : decode cX12_fits 17 = .ok (.getfield 72, 3) := by decide +kernel
theorem dX12_fits_20 : decode cX12_fits 20 = .ok (.ifCond .le 5, 3) := by decide +kernel
theorem dX12_fits_23 : decode cX12_fits 23 = .ok (.iconst (-1), 1) := by decide +kernel
theorem dX12_fits_24 : decode cX12_fits 24 = .ok (.ireturn, 1) := by decide +kernel
theorem dX12_fits_25 : decode cX12_fits 25 = .ok (.iconst 0, 1) := by decide +kernel
theorem dX12_fits_26 : decode cX12_fits 26 = .ok (.istore 4, 2) := by decide +kernel
theorem dX12_fits_28 : decode cX12_fits 28 = .ok (.iconst 0, 1) := by decide +kernel
theorem dX12_fits_29 : decode cX12_fits 29 = .ok (.istore 5, 2) := by decide +kernel
theorem dX12_fits_31 : decode cX12_fits 31 = .ok (.iload 5, 2) := by decide +kernel
theorem dX12_fits_33 : decode cX12_fits 33 = .ok (.aload_n 0, 1) := by decide +kernel
theorem dX12_fits_34 : decode cX12_fits 34 = .ok (.getfield 35, 3) := by decide +kernel
theorem dX12_fits_37 : decode cX12_fits 37 = .ok (.bipush 52, 2) := by decide +kernel
theorem dX12_fits_39 : decode cX12_fits 39 = .ok (.iload_n 1, 1) := by decide +kernel
theorem dX12_fits_40 : decode cX12_fits 40 = .ok (.iadd, 1) := by decide +kernel
theorem dX12_fits_41 : decode cX12_fits 41 = .ok (.iaload, 1) := by decide +kernel
theorem dX12_fits_42 : decode cX12_fits 42 = .ok (.if_icmp .gt 31, 3) := by decide +kernel
theorem dX12_fits_45 : decode cX12_fits 45 = .ok (.iload 4, 2) := by decide +kernel
theorem dX12_fits_47 : decode cX12_fits 47 = .ok (.aload_n 0, 1) := by decide +kernel
theorem dX12_fits_48 : decode cX12_fits 48 = .ok (.iload_n 1, 1) := by decide +kernel
theorem dX12_fits_49 : decode cX12_fits 49 = .ok (.iload_n 2, 1) := by decide +kernel
theorem dX12_fits_50 : decode cX12_fits 50 = .ok (.iload_n 3, 1) := by decide +kernel
theorem dX12_fits_51 : decode cX12_fits 51 = .ok (.iload 5, 2) := by decide +kernel
theorem dX12_fits_53 : decode cX12_fits 53 = .ok (.invokevirtual 503, 3) := by decide +kernel
theorem dX12_fits_56 : decode cX12_fits 56 = .ok (.ifCond .eq 7, 3) := by decide +kernel
theorem dX12_fits_59 : decode cX12_fits 59 = .ok (.iconst 1, 1) := by decide +kernel
theorem dX12_fits_60 : decode cX12_fits 60 = .ok (.goto 4, 3) := by decide +kernel
theorem dX12_fits_63 : decode cX12_fits 63 = .ok (.iconst 0, 1) := by decide +kernel
theorem dX12_fits_64 : decode cX12_fits 64 = .ok (.iadd, 1) := by decide +kernel
theorem dX12_fits_65 : decode cX12_fits 65 = .ok (.istore 4, 2) := by decide +kernel
theorem dX12_fits_67 : decode cX12_fits 67 = .ok (.iinc 5 1, 3) := by decide +kernel
theorem dX12_fits_70 : decode cX12_fits 70 = .ok (.goto (-39), 3) := by decide +kernel
theorem dX12_fits_73 : decode cX12_fits 73 = .ok (.iload 4, 2) := by decide +kernel
theorem dX12_fits_75 : decode cX12_fits 75 = .ok (.ireturn, 1) := by decide +kernel
theorem dX12_fitsAt_0 : decode cX12_fitsAt 0 = .ok (.aload_n 0, 1) := by decide +kernel
theorem dX12_fitsAt_1 : decode cX12_fitsAt 1 = .ok (.iconst 0, 1) := by decide +kernel
theorem dX12_fitsAt_2 : decode cX12_fitsAt 2 = .ok (.putfield 69, 3) := by decide +kernel
theorem dX12_fitsAt_5 : decode cX12_fitsAt 5 = .ok (.aload_n 0, 1) := by decide +kernel
theorem dX12_fitsAt_6 : decode cX12_fitsAt 6 = .ok (.aload_n 0, 1) := by decide +kernel
theorem dX12_fitsAt_7 : decode cX12_fitsAt 7 = .ok (.iload_n 1, 1) := by decide +kernel
theorem dX12_fitsAt_8 : decode cX12_fitsAt 8 = .ok (.iload_n 2, 1) := by decide +kernel
theorem dX12_fitsAt_9 : decode cX12_fitsAt 9 = .ok (.iload_n 3, 1) := by decide +kernel
theorem dX12_fitsAt_10 : decode cX12_fitsAt 10 = .ok (.invokevirtual 500, 3) := by decide +kernel
theorem dX12_fitsAt_13 : decode cX12_fitsAt 13 = .ok (.putfield 72, 3) := by decide +kernel
theorem dX12_fitsAt_16 : decode cX12_fitsAt 16 = .ok (.aload_n 0, 1) := by decide +kernel
theorem dX12_fitsAt_17 : decode cX12_fitsAt 17 = .ok (.getfield 72, 3) := by decide +kernel
theorem dX12_fitsAt_20 : decode cX12_fitsAt 20 = .ok (.ifCond .ne 19, 3) := by decide +kernel
theorem dX12_fitsAt_23 : decode cX12_fitsAt 23 = .ok (.iload 4, 2) := by decide +kernel
theorem dX12_fitsAt_25 : decode cX12_fitsAt 25 = .ok (.i2l, 1) := by decide +kernel
theorem dX12_fitsAt_26 : decode cX12_fitsAt 26 = .ok (.lconst 0, 1) := by decide +kernel
theorem dX12_fitsAt_27 : decode cX12_fitsAt 27 = .ok (.lconst 1, 1) := by decide +kernel
theorem dX12_fitsAt_28 : decode cX12_fitsAt 28 = .ok (.invokestatic 104, 3) := by decide +kernel
theorem dX12_fitsAt_31 : decode cX12_fitsAt 31 = .ok (.ifCond .ne 8, 3) := by decide +kernel
theorem dX12_fitsAt_34 : decode cX12_fitsAt 34 = .ok (.aload_n 0, 1) := by decide +kernel
theorem dX12_fitsAt_35 : decode cX12_fitsAt 35 = .ok (.iconst 5, 1) := by decide +kernel
theorem dX12_fitsAt_36 : decode cX12_fitsAt 36 = .ok (.putfield 72, 3) := by decide +kernel
theorem dX12_fitsAt_39 : decode cX12_fitsAt 39 = .ok (.aload_n 0, 1) := by decide +kernel
theorem dX12_fitsAt_40 : decode cX12_fitsAt 40 = .ok (.getfield 72, 3) := by decide +kernel
theorem dX12_fitsAt_43 : decode cX12_fitsAt 43 = .ok (.ifCond .le 5, 3) := by decide +kernel
theorem dX12_fitsAt_46 : decode cX12_fitsAt 46 = .ok (.iconst (-1), 1) := by decide +kernel
theorem dX12_fitsAt_47 : decode cX12_fitsAt 47 = .ok (.ireturn, 1) := by decide +kernel
theorem dX12_fitsAt_48 : decode cX12_fitsAt 48 = .ok (.iconst (-1), 1) := by decide +kernel
theorem dX12_fitsAt_49 : decode cX12_fitsAt 49 = .ok (.istore 5, 2) := by decide +kernel
theorem dX12_fitsAt_51 : decode cX12_fitsAt 51 = .ok (.iconst 0, 1) := by decide +kernel
theorem dX12_fitsAt_52 : decode cX12_fitsAt 52 = .ok (.istore 6, 2) := by decide +kernel
theorem dX12_fitsAt_54 : decode cX12_fitsAt 54 = .ok (.iload 6, 2) := by decide +kernel
theorem dX12_fitsAt_56 : decode cX12_fitsAt 56 = .ok (.aload_n 0, 1) := by decide +kernel
theorem dX12_fitsAt_57 : decode cX12_fitsAt 57 = .ok (.getfield 35, 3) := by decide +kernel
theorem dX12_fitsAt_60 : decode cX12_fitsAt 60 = .ok (.bipush 52, 2) := by decide +kernel
theorem dX12_fitsAt_62 : decode cX12_fitsAt 62 = .ok (.iload_n 1, 1) := by decide +kernel
theorem dX12_fitsAt_63 : decode cX12_fitsAt 63 = .ok (.iadd, 1) := by decide +kernel
theorem dX12_fitsAt_64 : decode cX12_fitsAt 64 = .ok (.iaload, 1) := by decide +kernel
theorem dX12_fitsAt_65 : decode cX12_fitsAt 65 = .ok (.if_icmp .gt 36, 3) := by decide +kernel
theorem dX12_fitsAt_68 : decode cX12_fitsAt 68 = .ok (.aload_n 0, 1) := by decide +kernel
theorem dX12_fitsAt_69 : decode cX12_fitsAt 69 = .ok (.iload_n 1, 1) := by decide +kernel
theorem dX12_fitsAt_70 : decode cX12_fitsAt 70 = .ok (.iload_n 2, 1) := by decide +kernel
theorem dX12_fitsAt_71 : decode cX12_fitsAt 71 = .ok (.iload_n 3, 1) := by decide +kernel
theorem dX12_fitsAt_72 : decode cX12_fitsAt 72 = .ok (.iload 6, 2) := by decide +kernel
theorem dX12_fitsAt_74 : decode cX12_fitsAt 74 = .ok (.invokevirtual 503, 3) := by decide +kernel
theorem dX12_fitsAt_77 : decode cX12_fitsAt 77 = .ok (.ifCond .eq 18, 3) := by decide +kernel
theorem dX12_fitsAt_80 : decode cX12_fitsAt 80 = .ok (.iload 4, 2) := by decide +kernel
theorem dX12_fitsAt_82 : decode cX12_fitsAt 82 = .ok (.iconst 1, 1) := by decide +kernel
theorem dX12_fitsAt_83 : decode cX12_fitsAt 83 = .ok (.if_icmp .eq 8, 3) := by decide +kernel
theorem dX12_fitsAt_86 : decode cX12_fitsAt 86 = .ok (.iload 5, 2) := by decide +kernel
theorem dX12_fitsAt_88 : decode cX12_fitsAt 88 = .ok (.ifCond .ge 7, 3) := by decide +kernel
theorem dX12_fitsAt_91 : decode cX12_fitsAt 91 = .ok (.iload 6, 2) := by decide +kernel
theorem dX12_fitsAt_93 : decode cX12_fitsAt 93 = .ok (.istore 5, 2) := by decide +kernel
theorem dX12_fitsAt_95 : decode cX12_fitsAt 95 = .ok (.iinc 6 1, 3) := by decide +kernel
theorem dX12_fitsAt_98 : decode cX12_fitsAt 98 = .ok (.goto (-44), 3) := by decide +kernel
theorem dX12_fitsAt_101 : decode cX12_fitsAt 101 = .ok (.iload 5, 2) := by decide +kernel
theorem dX12_fitsAt_103 : decode cX12_fitsAt 103 = .ok (.ifCond .ge 12, 3) := by decide +kernel
theorem dX12_fitsAt_106 : decode cX12_fitsAt 106 = .ok (.aload_n 0, 1) := by decide +kernel
theorem dX12_fitsAt_107 : decode cX12_fitsAt 107 = .ok (.bipush 8, 2) := by decide +kernel
theorem dX12_fitsAt_109 : decode cX12_fitsAt 109 = .ok (.invokevirtual 363, 3) := by decide +kernel
theorem dX12_fitsAt_112 : decode cX12_fitsAt 112 = .ok (.goto 5, 3) := by decide +kernel
theorem dX12_fitsAt_115 : decode cX12_fitsAt 115 = .ok (.iload 5, 2) := by decide +kernel
theorem dX12_fitsAt_117 : decode cX12_fitsAt 117 = .ok (.ireturn, 1) := by decide +kernel
theorem dX12_areBeside_0 : decode cX12_areBeside 0 = .ok (.iload_n 1, 1) := by decide +kernel
theorem dX12_areBeside_1 : decode cX12_areBeside 1 = .ok (.bipush 6, 2) := by decide +kernel
theorem dX12_areBeside_3 : decode cX12_areBeside 3 = .ok (.irem, 1) := by decide +kernel
theorem dX12_areBeside_4 : decode cX12_areBeside 4 = .ok (.iload_n 2, 1) := by decide +kernel
theorem dX12_areBeside_5 : decode cX12_areBeside 5 = .ok (.bipush 6, 2) := by decide +kernel
theorem dX12_areBeside_7 : decode cX12_areBeside 7 = .ok (.irem, 1) := by decide +kernel
theorem dX12_areBeside_8 : decode cX12_areBeside 8 = .ok (.isub, 1) := by decide +kernel
theorem dX12_areBeside_9 : decode cX12_areBeside 9 = .ok (.invokestatic 346, 3) := by decide +kernel
theorem dX12_areBeside_12 : decode cX12_areBeside 12 = .ok (.iload_n 1, 1) := by decide +kernel
theorem dX12_areBeside_13 : decode cX12_areBeside 13 = .ok (.bipush 6, 2) := by decide +kernel
theorem dX12_areBeside_15 : decode cX12_areBeside 15 = .ok (.idiv, 1) := by decide +kernel
theorem dX12_areBeside_16 : decode cX12_areBeside 16 = .ok (.iload_n 2, 1) := by decide +kernel
theorem dX12_areBeside_17 : decode cX12_areBeside 17 = .ok (.bipush 6, 2) := by decide +kernel
theorem dX12_areBeside_19 : decode cX12_areBeside 19 = .ok (.idiv, 1) := by decide +kernel
theorem dX12_areBeside_20 : decode cX12_areBeside 20 = .ok (.isub, 1) := by decide +kernel
theorem dX12_areBeside_21 : decode cX12_areBeside 21 = .ok (.invokestatic 346, 3) := by decide +kernel
theorem dX12_areBeside_24 : decode cX12_areBeside 24 = .ok (.iadd, 1) := by decide +kernel
theorem dX12_areBeside_25 : decode cX12_areBeside 25 = .ok (.iconst 1, 1) := by decide +kernel
theorem dX12_areBeside_26 : decode cX12_areBeside 26 = .ok (.if_icmp .ne 7, 3) := by decide +kernel
theorem dX12_areBeside_29 : decode cX12_areBeside 29 = .ok (.iconst 1, 1) := by decide +kernel
theorem dX12_areBeside_30 : decode cX12_areBeside 30 = .ok (.goto 4, 3) := by decide +kernel
theorem dX12_areBeside_33 : decode cX12_areBeside 33 = .ok (.iconst 0, 1) := by decide +kernel
theorem dX12_areBeside_34 : decode cX12_areBeside 34 = .ok (.ireturn, 1) := by decide +kernel
theorem dX12_stepsBy_0 : decode cX12_stepsBy 0 = .ok (.iconst 0, 1) := by decide +kernel
theorem dX12_stepsBy_1 : decode cX12_stepsBy 1 = .ok (.istore 4, 2) := by decide +kernel
theorem dX12_stepsBy_3 : decode cX12_stepsBy 3 = .ok (.iload 4, 2) := by decide +kernel
theorem dX12_stepsBy_5 : decode cX12_stepsBy 5 = .ok (.bipush 30, 2) := by decide +kernel
theorem dX12_stepsBy_7 : decode cX12_stepsBy 7 = .ok (.if_icmp .ge 38, 3) := by decide +kernel
theorem dX12_stepsBy_10 : decode cX12_stepsBy 10 = .ok (.aload_n 0, 1) := by decide +kernel
theorem dX12_stepsBy_11 : decode cX12_stepsBy 11 = .ok (.getfield 56, 3) := by decide +kernel
theorem dX12_stepsBy_14 : decode cX12_stepsBy 14 = .ok (.iload 4, 2) := by decide +kernel
theorem dX12_stepsBy_16 : decode cX12_stepsBy 16 = .ok (.iload 4, 2) := by decide +kernel
theorem dX12_stepsBy_18 : decode cX12_stepsBy 18 = .ok (.iload_n 1, 1) := by decide +kernel
theorem dX12_stepsBy_19 : decode cX12_stepsBy 19 = .ok (.if_icmp .ne 18, 3) := by decide +kernel
theorem dX12_stepsBy_22 : decode cX12_stepsBy 22 = .ok (.aload_n 0, 1) := by decide +kernel
theorem dX12_stepsBy_23 : decode cX12_stepsBy 23 = .ok (.getfield 53, 3) := by decide +kernel
theorem dX12_stepsBy_26 : decode cX12_stepsBy 26 = .ok (.iload 4, 2) := by decide +kernel
theorem dX12_stepsBy_28 : decode cX12_stepsBy 28 = .ok (.iaload, 1) := by decide +kernel
theorem dX12_stepsBy_29 : decode cX12_stepsBy 29 = .ok (.iload_n 3, 1) := by decide +kernel
theorem dX12_stepsBy_30 : decode cX12_stepsBy 30 = .ok (.if_icmp .gt 7, 3) := by decide +kernel
theorem dX12_stepsBy_33 : decode cX12_stepsBy 33 = .ok (.iconst 0, 1) := by decide +kernel
theorem dX12_stepsBy_34 : decode cX12_stepsBy 34 = .ok (.goto 4, 3) := by decide +kernel
theorem dX12_stepsBy_37 : decode cX12_stepsBy 37 = .ok (.iconst (-1), 1) := by decide +kernel
theorem dX12_stepsBy_38 : decode cX12_stepsBy 38 = .ok (.iastore, 1) := by decide +kernel
theorem dX12_stepsBy_39 : decode cX12_stepsBy 39 = .ok (.iinc 4 1, 3) := by decide +kernel
theorem dX12_stepsBy_42 : decode cX12_stepsBy 42 = .ok (.goto (-39), 3) := by decide +kernel
theorem dX12_stepsBy_45 : decode cX12_stepsBy 45 = .ok (.iconst 0, 1) := by decide +kernel
theorem dX12_stepsBy_46 : decode cX12_stepsBy 46 = .ok (.istore 4, 2) := by decide +kernel
theorem dX12_stepsBy_48 : decode cX12_stepsBy 48 = .ok (.iload 4, 2) := by decide +kernel
theorem dX12_stepsBy_50 : decode cX12_stepsBy 50 = .ok (.bipush 30, 2) := by decide +kernel
theorem dX12_stepsBy_52 : decode cX12_stepsBy 52 = .ok (.if_icmp .ge 106, 3) := by decide +kernel
theorem dX12_stepsBy_55 : decode cX12_stepsBy 55 = .ok (.iconst 0, 1) := by decide +kernel
theorem dX12_stepsBy_56 : decode cX12_stepsBy 56 = .ok (.istore 5, 2) := by decide +kernel
theorem dX12_stepsBy_58 : decode cX12_stepsBy 58 = .ok (.iload 5, 2) := by decide +kernel
theorem dX12_stepsBy_60 : decode cX12_stepsBy 60 = .ok (.bipush 30, 2) := by decide +kernel
theorem dX12_stepsBy_62 : decode cX12_stepsBy 62 = .ok (.if_icmp .ge 90, 3) := by decide +kernel
theorem dX12_stepsBy_65 : decode cX12_stepsBy 65 = .ok (.iconst 0, 1) := by decide +kernel
theorem dX12_stepsBy_66 : decode cX12_stepsBy 66 = .ok (.istore 6, 2) := by decide +kernel
theorem dX12_stepsBy_68 : decode cX12_stepsBy 68 = .ok (.iload 6, 2) := by decide +kernel
theorem dX12_stepsBy_70 : decode cX12_stepsBy 70 = .ok (.bipush 30, 2) := by decide +kernel
theorem dX12_stepsBy_72 : decode cX12_stepsBy 72 = .ok (.if_icmp .ge 74, 3) := by decide +kernel
theorem dX12_stepsBy_75 : decode cX12_stepsBy 75 = .ok (.aload_n 0, 1) := by decide +kernel
theorem dX12_stepsBy_76 : decode cX12_stepsBy 76 = .ok (.getfield 56, 3) := by decide +kernel
theorem dX12_stepsBy_79 : decode cX12_stepsBy 79 = .ok (.iload 5, 2) := by decide +kernel
theorem dX12_stepsBy_81 : decode cX12_stepsBy 81 = .ok (.iaload, 1) := by decide +kernel
theorem dX12_stepsBy_82 : decode cX12_stepsBy 82 = .ok (.iload 4, 2) := by decide +kernel
theorem dX12_stepsBy_84 : decode cX12_stepsBy 84 = .ok (.if_icmp .ne 62, 3) := by decide +kernel
theorem dX12_stepsBy_87 : decode cX12_stepsBy 87 = .ok (.aload_n 0, 1) := by decide +kernel
theorem dX12_stepsBy_88 : decode cX12_stepsBy 88 = .ok (.getfield 56, 3) := by decide +kernel
theorem dX12_stepsBy_91 : decode cX12_stepsBy 91 = .ok (.iload 6, 2) := by decide +kernel
theorem dX12_stepsBy_93 : decode cX12_stepsBy 93 = .ok (.iaload, 1) := by decide +kernel
theorem dX12_stepsBy_94 : decode cX12_stepsBy 94 = .ok (.ifCond .ge 46, 3) := by decide +kernel
theorem dX12_stepsBy_97 : decode cX12_stepsBy 97 = .ok (.aload_n 0, 1) := by decide +kernel
theorem dX12_stepsBy_98 : decode cX12_stepsBy 98 = .ok (.getfield 53, 3) := by decide +kernel
theorem dX12_stepsBy_101 : decode cX12_stepsBy 101 = .ok (.iload 6, 2) := by decide +kernel
theorem dX12_stepsBy_103 : decode cX12_stepsBy 103 = .ok (.iaload, 1) := by decide +kernel
theorem dX12_stepsBy_104 : decode cX12_stepsBy 104 = .ok (.ifCond .lt 36, 3) := by decide +kernel
theorem dX12_stepsBy_107 : decode cX12_stepsBy 107 = .ok (.aload_n 0, 1) := by decide +kernel
theorem dX12_stepsBy_108 : decode cX12_stepsBy 108 = .ok (.getfield 53, 3) := by decide +kernel
theorem dX12_stepsBy_111 : decode cX12_stepsBy 111 = .ok (.iload 6, 2) := by decide +kernel
theorem dX12_stepsBy_113 : decode cX12_stepsBy 113 = .ok (.iaload, 1) := by decide +kernel
theorem dX12_stepsBy_114 : decode cX12_stepsBy 114 = .ok (.iload_n 3, 1) := by decide +kernel
theorem dX12_stepsBy_115 : decode cX12_stepsBy 115 = .ok (.if_icmp .gt 25, 3) := by decide +kernel
theorem dX12_stepsBy_118 : decode cX12_stepsBy 118 = .ok (.aload_n 0, 1) := by decide +kernel
theorem dX12_stepsBy_119 : decode cX12_stepsBy 119 = .ok (.iload 5, 2) := by decide +kernel
theorem dX12_stepsBy_121 : decode cX12_stepsBy 121 = .ok (.iload 6, 2) := by decide +kernel
theorem dX12_stepsBy_123 : decode cX12_stepsBy 123 = .ok (.invokevirtual 507, 3) := by decide +kernel
theorem dX12_stepsBy_126 : decode cX12_stepsBy 126 = .ok (.ifCond .eq 14, 3) := by decide +kernel
theorem dX12_stepsBy_129 : decode cX12_stepsBy 129 = .ok (.aload_n 0, 1) := by decide +kernel
theorem dX12_stepsBy_130 : decode cX12_stepsBy 130 = .ok (.getfield 56, 3) := by decide +kernel
theorem dX12_stepsBy_133 : decode cX12_stepsBy 133 = .ok (.iload 6, 2) := by decide +kernel
theorem dX12_stepsBy_135 : decode cX12_stepsBy 135 = .ok (.iload 4, 2) := by decide +kernel
theorem dX12_stepsBy_137 : decode cX12_stepsBy 137 = .ok (.iconst 1, 1) := by decide +kernel
theorem dX12_stepsBy_138 : decode cX12_stepsBy 138 = .ok (.iadd, 1) := by decide +kernel
theorem dX12_stepsBy_139 : decode cX12_stepsBy 139 = .ok (.iastore, 1) := by decide +kernel
theorem dX12_stepsBy_140 : decode cX12_stepsBy 140 = .ok (.iinc 6 1, 3) := by decide +kernel
theorem dX12_stepsBy_143 : decode cX12_stepsBy 143 = .ok (.goto (-75), 3) := by decide +kernel
theorem dX12_stepsBy_146 : decode cX12_stepsBy 146 = .ok (.iinc 5 1, 3) := by decide +kernel
theorem dX12_stepsBy_149 : decode cX12_stepsBy 149 = .ok (.goto (-91), 3) := by decide +kernel
theorem dX12_stepsBy_152 : decode cX12_stepsBy 152 = .ok (.iinc 4 1, 3) := by decide +kernel
theorem dX12_stepsBy_155 : decode cX12_stepsBy 155 = .ok (.goto (-107), 3) := by decide +kernel
theorem dX12_stepsBy_158 : decode cX12_stepsBy 158 = .ok (.aload_n 0, 1) := by decide +kernel
theorem dX12_stepsBy_159 : decode cX12_stepsBy 159 = .ok (.getfield 56, 3) := by decide +kernel
theorem dX12_stepsBy_162 : decode cX12_stepsBy 162 = .ok (.iload_n 2, 1) := by decide +kernel
theorem dX12_stepsBy_163 : decode cX12_stepsBy 163 = .ok (.iaload, 1) := by decide +kernel
theorem dX12_stepsBy_164 : decode cX12_stepsBy 164 = .ok (.ireturn, 1) := by decide +kernel
theorem dX12_quietest_0 : decode cX12_quietest 0 = .ok (.aload_n 0, 1) := by decide +kernel
theorem dX12_quietest_1 : decode cX12_quietest 1 = .ok (.invokevirtual 366, 3) := by decide +kernel
theorem dX12_quietest_4 : decode cX12_quietest 4 = .ok (.iconst 0, 1) := by decide +kernel
theorem dX12_quietest_5 : decode cX12_quietest 5 = .ok (.istore 5, 2) := by decide +kernel
theorem dX12_quietest_7 : decode cX12_quietest 7 = .ok (.iload 5, 2) := by decide +kernel
theorem dX12_quietest_9 : decode cX12_quietest 9 = .ok (.bipush 30, 2) := by decide +kernel
theorem dX12_quietest_11 : decode cX12_quietest 11 = .ok (.if_icmp .ge 51, 3) := by decide +kernel
theorem dX12_quietest_14 : decode cX12_quietest 14 = .ok (.aload_n 0, 1) := by decide +kernel
theorem dX12_quietest_15 : decode cX12_quietest 15 = .ok (.getfield 53, 3) := by decide +kernel
theorem dX12_quietest_18 : decode cX12_quietest 18 = .ok (.iload 5, 2) := by decide +kernel
theorem dX12_quietest_20 : decode cX12_quietest 20 = .ok (.aload_n 0, 1) := by decide +kernel
theorem dX12_quietest_21 : decode cX12_quietest 21 = .ok (.iload 5, 2) := by decide +kernel
theorem dX12_quietest_23 : decode cX12_quietest 23 = .ok (.bipush 6, 2) := by decide +kernel
theorem dX12_quietest_25 : decode cX12_quietest 25 = .ok (.irem, 1) := by decide +kernel
theorem dX12_quietest_26 : decode cX12_quietest 26 = .ok (.iload 5, 2) := by decide +kernel
theorem dX12_quietest_28 : decode cX12_quietest 28 = .ok (.bipush 6, 2) := by decide +kernel
theorem dX12_quietest_30 : decode cX12_quietest 30 = .ok (.idiv, 1) := by decide +kernel
theorem dX12_quietest_31 : decode cX12_quietest 31 = .ok (.invokevirtual 388, 3) := by decide +kernel
theorem dX12_quietest_34 : decode cX12_quietest 34 = .ok (.ifCond .eq 20, 3) := by decide +kernel
theorem dX12_quietest_37 : decode cX12_quietest 37 = .ok (.aload_n 0, 1) := by decide +kernel
theorem dX12_quietest_38 : decode cX12_quietest 38 = .ok (.iload 5, 2) := by decide +kernel
theorem dX12_quietest_40 : decode cX12_quietest 40 = .ok (.bipush 6, 2) := by decide +kernel
theorem dX12_quietest_42 : decode cX12_quietest 42 = .ok (.irem, 1) := by decide +kernel
theorem dX12_quietest_43 : decode cX12_quietest 43 = .ok (.iload 5, 2) := by decide +kernel
theorem dX12_quietest_45 : decode cX12_quietest 45 = .ok (.bipush 6, 2) := by decide +kernel
theorem dX12_quietest_47 : decode cX12_quietest 47 = .ok (.idiv, 1) := by decide +kernel
theorem dX12_quietest_48 : decode cX12_quietest 48 = .ok (.invokevirtual 411, 3) := by decide +kernel
theorem dX12_quietest_51 : decode cX12_quietest 51 = .ok (.goto 4, 3) := by decide +kernel
theorem dX12_quietest_54 : decode cX12_quietest 54 = .ok (.iconst (-1), 1) := by decide +kernel
theorem dX12_quietest_55 : decode cX12_quietest 55 = .ok (.iastore, 1) := by decide +kernel
theorem dX12_quietest_56 : decode cX12_quietest 56 = .ok (.iinc 5 1, 3) := by decide +kernel
theorem dX12_quietest_59 : decode cX12_quietest 59 = .ok (.goto (-52), 3) := by decide +kernel
theorem dX12_quietest_62 : decode cX12_quietest 62 = .ok (.iconst 0, 1) := by decide +kernel
theorem dX12_quietest_63 : decode cX12_quietest 63 = .ok (.istore 5, 2) := by decide +kernel
theorem dX12_quietest_65 : decode cX12_quietest 65 = .ok (.iload 5, 2) := by decide +kernel
theorem dX12_quietest_67 : decode cX12_quietest 67 = .ok (.bipush 41, 2) := by decide +kernel
theorem dX12_quietest_69 : decode cX12_quietest 69 = .ok (.if_icmp .ge 34, 3) := by decide +kernel
theorem dX12_quietest_72 : decode cX12_quietest 72 = .ok (.aload_n 0, 1) := by decide +kernel
theorem dX12_quietest_73 : decode cX12_quietest 73 = .ok (.bipush 6, 2) := by decide +kernel
theorem dX12_quietest_75 : decode cX12_quietest 75 = .ok (.iload_n 2, 1) := by decide +kernel
theorem dX12_quietest_76 : decode cX12_quietest 76 = .ok (.imul, 1) := by decide +kernel
theorem dX12_quietest_77 : decode cX12_quietest 77 = .ok (.iload_n 1, 1) := by decide +kernel
theorem dX12_quietest_78 : decode cX12_quietest 78 = .ok (.iadd, 1) := by decide +kernel
theorem dX12_quietest_79 : decode cX12_quietest 79 = .ok (.bipush 6, 2) := by decide +kernel
theorem dX12_quietest_81 : decode cX12_quietest 81 = .ok (.iload 4, 2) := by decide +kernel
theorem dX12_quietest_83 : decode cX12_quietest 83 = .ok (.imul, 1) := by decide +kernel
theorem dX12_quietest_84 : decode cX12_quietest 84 = .ok (.iload_n 3, 1) := by decide +kernel
theorem dX12_quietest_85 : decode cX12_quietest 85 = .ok (.iadd, 1) := by decide +kernel
theorem dX12_quietest_86 : decode cX12_quietest 86 = .ok (.iload 5, 2) := by decide +kernel
theorem dX12_quietest_88 : decode cX12_quietest 88 = .ok (.invokevirtual 510, 3) := by decide +kernel
theorem dX12_quietest_91 : decode cX12_quietest 91 = .ok (.ifCond .lt 6, 3) := by decide +kernel
theorem dX12_quietest_94 : decode cX12_quietest 94 = .ok (.iload 5, 2) := by decide +kernel
theorem dX12_quietest_96 : decode cX12_quietest 96 = .ok (.ireturn, 1) := by decide +kernel
theorem dX12_quietest_97 : decode cX12_quietest 97 = .ok (.iinc 5 1, 3) := by decide +kernel
theorem dX12_quietest_100 : decode cX12_quietest 100 = .ok (.goto (-35), 3) := by decide +kernel
theorem dX12_quietest_103 : decode cX12_quietest 103 = .ok (.iconst (-1), 1) := by decide +kernel
theorem dX12_quietest_104 : decode cX12_quietest 104 = .ok (.ireturn, 1) := by decide +kernel
theorem dX12_quiet_0 : decode cX12_quiet 0 = .ok (.aload_n 0, 1) := by decide +kernel
theorem dX12_quiet_1 : decode cX12_quiet 1 = .ok (.iconst 0, 1) := by decide +kernel
theorem dX12_quiet_2 : decode cX12_quiet 2 = .ok (.putfield 69, 3) := by decide +kernel
theorem dX12_quiet_5 : decode cX12_quiet 5 = .ok (.aload_n 0, 1) := by decide +kernel
theorem dX12_quiet_6 : decode cX12_quiet 6 = .ok (.iconst 0, 1) := by decide +kernel
theorem dX12_quiet_7 : decode cX12_quiet 7 = .ok (.putfield 72, 3) := by decide +kernel
theorem dX12_quiet_10 : decode cX12_quiet 10 = .ok (.aload_n 0, 1) := by decide +kernel
theorem dX12_quiet_11 : decode cX12_quiet 11 = .ok (.iload_n 1, 1) := by decide +kernel
theorem dX12_quiet_12 : decode cX12_quiet 12 = .ok (.iload_n 2, 1) := by decide +kernel
theorem dX12_quiet_13 : decode cX12_quiet 13 = .ok (.invokevirtual 388, 3) := by decide +kernel
theorem dX12_quiet_16 : decode cX12_quiet 16 = .ok (.ifCond .eq 25, 3) := by decide +kernel
theorem dX12_quiet_19 : decode cX12_quiet 19 = .ok (.aload_n 0, 1) := by decide +kernel
theorem dX12_quiet_20 : decode cX12_quiet 20 = .ok (.iload_n 3, 1) := by decide +kernel
theorem dX12_quiet_21 : decode cX12_quiet 21 = .ok (.iload 4, 2) := by decide +kernel
theorem dX12_quiet_23 : decode cX12_quiet 23 = .ok (.invokevirtual 388, 3) := by decide +kernel
theorem dX12_quiet_26 : decode cX12_quiet 26 = .ok (.ifCond .eq 15, 3) := by decide +kernel
theorem dX12_quiet_29 : decode cX12_quiet 29 = .ok (.aload_n 0, 1) := by decide +kernel
theorem dX12_quiet_30 : decode cX12_quiet 30 = .ok (.iload_n 1, 1) := by decide +kernel
theorem dX12_quiet_31 : decode cX12_quiet 31 = .ok (.iload_n 2, 1) := by decide +kernel
theorem dX12_quiet_32 : decode cX12_quiet 32 = .ok (.iload_n 3, 1) := by decide +kernel
theorem dX12_quiet_33 : decode cX12_quiet 33 = .ok (.iload 4, 2) := by decide +kernel
theorem dX12_quiet_35 : decode cX12_quiet 35 = .ok (.invokevirtual 513, 3) := by decide +kernel
theorem dX12_quiet_38 : decode cX12_quiet 38 = .ok (.goto 8, 3) := by decide +kernel
theorem dX12_quiet_41 : decode cX12_quiet 41 = .ok (.aload_n 0, 1) := by decide +kernel
theorem dX12_quiet_42 : decode cX12_quiet 42 = .ok (.iconst 2, 1) := by decide +kernel
theorem dX12_quiet_43 : decode cX12_quiet 43 = .ok (.invokevirtual 363, 3) := by decide +kernel
theorem dX12_quiet_46 : decode cX12_quiet 46 = .ok (.ireturn, 1) := by decide +kernel
theorem dX12_quietSteps_0 : decode cX12_quietSteps 0 = .ok (.aload_n 0, 1) := by decide +kernel
theorem dX12_quietSteps_1 : decode cX12_quietSteps 1 = .ok (.iconst 0, 1) := by decide +kernel
theorem dX12_quietSteps_2 : decode cX12_quietSteps 2 = .ok (.putfield 69, 3) := by decide +kernel
theorem dX12_quietSteps_5 : decode cX12_quietSteps 5 = .ok (.aload_n 0, 1) := by decide +kernel
theorem dX12_quietSteps_6 : decode cX12_quietSteps 6 = .ok (.iconst 0, 1) := by decide +kernel
theorem dX12_quietSteps_7 : decode cX12_quietSteps 7 = .ok (.putfield 72, 3) := by decide +kernel
theorem dX12_quietSteps_10 : decode cX12_quietSteps 10 = .ok (.aload_n 0, 1) := by decide +kernel
theorem dX12_quietSteps_11 : decode cX12_quietSteps 11 = .ok (.iload_n 1, 1) := by decide +kernel
theorem dX12_quietSteps_12 : decode cX12_quietSteps 12 = .ok (.iload_n 2, 1) := by decide +kernel
theorem dX12_quietSteps_13 : decode cX12_quietSteps 13 = .ok (.invokevirtual 388, 3) := by decide +kernel
theorem dX12_quietSteps_16 : decode cX12_quietSteps 16 = .ok (.ifCond .eq 13, 3) := by decide +kernel
theorem dX12_quietSteps_19 : decode cX12_quietSteps 19 = .ok (.aload_n 0, 1) := by decide +kernel
theorem dX12_quietSteps_20 : decode cX12_quietSteps 20 = .ok (.iload_n 3, 1) := by decide +kernel
theorem dX12_quietSteps_21 : decode cX12_quietSteps 21 = .ok (.iload 4, 2) := by decide +kernel
theorem dX12_quietSteps_23 : decode cX12_quietSteps 23 = .ok (.invokevirtual 388, 3) := by decide +kernel
theorem dX12_quietSteps_26 : decode cX12_quietSteps 26 = .ok (.ifCond .ne 9, 3) := by decide +kernel
theorem dX12_quietSteps_29 : decode cX12_quietSteps 29 = .ok (.aload_n 0, 1) := by decide +kernel
theorem dX12_quietSteps_30 : decode cX12_quietSteps 30 = .ok (.iconst 2, 1) := by decide +kernel
theorem dX12_quietSteps_31 : decode cX12_quietSteps 31 = .ok (.invokevirtual 363, 3) := by decide +kernel
theorem dX12_quietSteps_34 : decode cX12_quietSteps 34 = .ok (.ireturn, 1) := by decide +kernel
theorem dX12_quietSteps_35 : decode cX12_quietSteps 35 = .ok (.aload_n 0, 1) := by decide +kernel
theorem dX12_quietSteps_36 : decode cX12_quietSteps 36 = .ok (.iload_n 1, 1) := by decide +kernel
theorem dX12_quietSteps_37 : decode cX12_quietSteps 37 = .ok (.iload_n 2, 1) := by decide +kernel
theorem dX12_quietSteps_38 : decode cX12_quietSteps 38 = .ok (.iload_n 3, 1) := by decide +kernel
theorem dX12_quietSteps_39 : decode cX12_quietSteps 39 = .ok (.iload 4, 2) := by decide +kernel
theorem dX12_quietSteps_41 : decode cX12_quietSteps 41 = .ok (.invokevirtual 513, 3) := by decide +kernel
theorem dX12_quietSteps_44 : decode cX12_quietSteps 44 = .ok (.pop, 1) := by decide +kernel
theorem dX12_quietSteps_45 : decode cX12_quietSteps 45 = .ok (.aload_n 0, 1) := by decide +kernel
theorem dX12_quietSteps_46 : decode cX12_quietSteps 46 = .ok (.getfield 56, 3) := by decide +kernel
theorem dX12_quietSteps_49 : decode cX12_quietSteps 49 = .ok (.bipush 6, 2) := by decide +kernel
theorem dX12_quietSteps_51 : decode cX12_quietSteps 51 = .ok (.iload 4, 2) := by decide +kernel
theorem dX12_quietSteps_53 : decode cX12_quietSteps 53 = .ok (.imul, 1) := by decide +kernel
theorem dX12_quietSteps_54 : decode cX12_quietSteps 54 = .ok (.iload_n 3, 1) := by decide +kernel
theorem dX12_quietSteps_55 : decode cX12_quietSteps 55 = .ok (.iadd, 1) := by decide +kernel
theorem dX12_quietSteps_56 : decode cX12_quietSteps 56 = .ok (.iaload, 1) := by decide +kernel
theorem dX12_quietSteps_57 : decode cX12_quietSteps 57 = .ok (.ireturn, 1) := by decide +kernel
theorem dX12_wet_0 : decode cX12_wet 0 = .ok (.aload_n 0, 1) := by decide +kernel
theorem dX12_wet_1 : decode cX12_wet 1 = .ok (.iconst 0, 1) := by decide +kernel
theorem dX12_wet_2 : decode cX12_wet 2 = .ok (.putfield 69, 3) := by decide +kernel
theorem dX12_wet_5 : decode cX12_wet 5 = .ok (.aload_n 0, 1) := by decide +kernel
theorem dX12_wet_6 : decode cX12_wet 6 = .ok (.iconst 0, 1) := by decide +kernel
theorem dX12_wet_7 : decode cX12_wet 7 = .ok (.putfield 72, 3) := by decide +kernel
theorem dX12_wet_10 : decode cX12_wet 10 = .ok (.iload_n 1, 1) := by decide +kernel
theorem dX12_wet_11 : decode cX12_wet 11 = .ok (.i2l, 1) := by decide +kernel
theorem dX12_wet_12 : decode cX12_wet 12 = .ok (.lconst 0, 1) := by decide +kernel
theorem dX12_wet_13 : decode cX12_wet 13 = .ok (.ldc2_w 516, 3) := by decide +kernel
theorem dX12_wet_16 : decode cX12_wet 16 = .ok (.invokestatic 104, 3) := by decide +kernel
theorem dX12_wet_19 : decode cX12_wet 19 = .ok (.ifCond .eq 15, 3) := by decide +kernel
theorem dX12_wet_22 : decode cX12_wet 22 = .ok (.iload_n 2, 1) := by decide +kernel
theorem dX12_wet_23 : decode cX12_wet 23 = .ok (.i2l, 1) := by decide +kernel
theorem dX12_wet_24 : decode cX12_wet 24 = .ok (.lconst 0, 1) := by decide +kernel
theorem dX12_wet_25 : decode cX12_wet 25 = .ok (.ldc2_w 516, 3) := by decide +kernel
theorem dX12_wet_28 : decode cX12_wet 28 = .ok (.invokestatic 104, 3) := by decide +kernel
theorem dX12_wet_31 : decode cX12_wet 31 = .ok (.ifCond .ne 9, 3) := by decide +kernel
theorem dX12_wet_34 : decode cX12_wet 34 = .ok (.aload_n 0, 1) := by decide +kernel
theorem dX12_wet_35 : decode cX12_wet 35 = .ok (.iconst 5, 1) := by decide +kernel
theorem dX12_wet_36 : decode cX12_wet 36 = .ok (.invokevirtual 84, 3) := by decide +kernel
theorem dX12_wet_39 : decode cX12_wet 39 = .ok (.ireturn, 1) := by decide +kernel
theorem dX12_wet_40 : decode cX12_wet 40 = .ok (.lconst 1, 1) := by decide +kernel
theorem dX12_wet_41 : decode cX12_wet 41 = .ok (.lstore_n 3, 1) := by decide +kernel
theorem dX12_wet_42 : decode cX12_wet 42 = .ok (.iconst 0, 1) := by decide +kernel
theorem dX12_wet_43 : decode cX12_wet 43 = .ok (.istore 5, 2) := by decide +kernel
theorem dX12_wet_45 : decode cX12_wet 45 = .ok (.iload 5, 2) := by decide +kernel
theorem dX12_wet_47 : decode cX12_wet 47 = .ok (.bipush 12, 2) := by decide +kernel
theorem dX12_wet_49 : decode cX12_wet 49 = .ok (.if_icmp .gt 26, 3) := by decide +kernel
theorem dX12_wet_52 : decode cX12_wet 52 = .ok (.aload_n 0, 1) := by decide +kernel
theorem dX12_wet_53 : decode cX12_wet 53 = .ok (.getfield 59, 3) := by decide +kernel
theorem dX12_wet_56 : decode cX12_wet 56 = .ok (.iload 5, 2) := by decide +kernel
theorem dX12_wet_58 : decode cX12_wet 58 = .ok (.iload 5, 2) := by decide +kernel
theorem dX12_wet_60 : decode cX12_wet 60 = .ok (.ifCond .ne 7, 3) := by decide +kernel
theorem dX12_wet_63 : decode cX12_wet 63 = .ok (.lconst 1, 1) := by decide +kernel
theorem dX12_wet_64 : decode cX12_wet 64 = .ok (.goto 4, 3) := by decide +kernel
theorem dX12_wet_67 : decode cX12_wet 67 = .ok (.lconst 0, 1) := by decide +kernel
theorem dX12_wet_68 : decode cX12_wet 68 = .ok (.lastore, 1) := by decide +kernel
theorem dX12_wet_69 : decode cX12_wet 69 = .ok (.iinc 5 1, 3) := by decide +kernel
theorem dX12_wet_72 : decode cX12_wet 72 = .ok (.goto (-27), 3) := by decide +kernel
theorem dX12_wet_75 : decode cX12_wet 75 = .ok (.iconst 0, 1) := by decide +kernel
theorem dX12_wet_76 : decode cX12_wet 76 = .ok (.istore 5, 2) := by decide +kernel
theorem dX12_wet_78 : decode cX12_wet 78 = .ok (.iload 5, 2) := by decide +kernel
theorem dX12_wet_80 : decode cX12_wet 80 = .ok (.iload_n 1, 1) := by decide +kernel
