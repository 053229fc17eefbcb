theorem dX12_told_44 : decode cX12_told 44 = .ok (.invokevirtual 231, 3) := by decide +kernel
theorem dX12_told_47 : decode cX12_told 47 = .ok (.iconst 0, 1) := by decide +kernel
theorem dX12_told_48 : decode cX12_told 48 = .ok (.iload_n 3, 1) := by decide +kernel
theorem dX12_told_49 : decode cX12_told 49 = .ok (.invokestatic 260, 3) := by decide +kernel
theorem dX12_told_52 : decode cX12_told 52 = .ok (.ireturn, 1) := by decide +kernel
theorem dX12_readTold_0 : decode cX12_readTold 0 = .ok (.aload_n 0, 1) := by decide +kernel
theorem dX12_readTold_1 : decode cX12_readTold 1 = .ok (.iload_n 1, 1) := by decide +kernel
theorem dX12_readTold_2 : decode cX12_readTold 2 = .ok (.iload_n 2, 1) := by decide +kernel
theorem dX12_readTold_3 : decode cX12_readTold 3 = .ok (.invokevirtual 263, 3) := by decide +kernel
theorem dX12_readTold_6 : decode cX12_readTold 6 = .ok (.istore_n 3, 1) := by decide +kernel
theorem dX12_readTold_7 : decode cX12_readTold 7 = .ok (.aload_n 0, 1) := by decide +kernel
theorem dX12_readTold_8 : decode cX12_readTold 8 = .ok (.iconst 1, 1) := by decide +kernel
theorem dX12_readTold_9 : decode cX12_readTold 9 = .ok (.invokevirtual 241, 3) := by decide +kernel
theorem dX12_readTold_12 : decode cX12_readTold 12 = .ok (.iload_n 3, 1) := by decide +kernel
theorem dX12_readTold_13 : decode cX12_readTold 13 = .ok (.ireturn, 1) := by decide +kernel
theorem dX12_entryToken_0 : decode cX12_entryToken 0 = .ok (.aload_n 0, 1) := by decide +kernel
theorem dX12_entryToken_1 : decode cX12_entryToken 1 = .ok (.getfield 225, 3) := by decide +kernel
theorem dX12_entryToken_4 : decode cX12_entryToken 4 = .ok (.ifCond .ne 13, 3) := by decide +kernel
theorem dX12_entryToken_7 : decode cX12_entryToken 7 = .ok (.aload_n 0, 1) := by decide +kernel
theorem dX12_entryToken_8 : decode cX12_entryToken 8 = .ok (.invokevirtual 209, 3) := by decide +kernel
theorem dX12_entryToken_11 : decode cX12_entryToken 11 = .ok (.ifCond .eq 6, 3) := by decide +kernel
theorem dX12_entryToken_14 : decode cX12_entryToken 14 = .ok (.bipush 6, 2) := by decide +kernel
theorem dX12_entryToken_16 : decode cX12_entryToken 16 = .ok (.ireturn, 1) := by decide +kernel
theorem dX12_entryToken_17 : decode cX12_entryToken 17 = .ok (.aload_n 0, 1) := by decide +kernel
theorem dX12_entryToken_18 : decode cX12_entryToken 18 = .ok (.iload_n 1, 1) := by decide +kernel
theorem dX12_entryToken_19 : decode cX12_entryToken 19 = .ok (.iconst 0, 1) := by decide +kernel
theorem dX12_entryToken_20 : decode cX12_entryToken 20 = .ok (.invokevirtual 263, 3) := by decide +kernel
theorem dX12_entryToken_23 : decode cX12_entryToken 23 = .ok (.ireturn, 1) := by decide +kernel
theorem dX12_isOnce_0 : decode cX12_isOnce 0 = .ok (.aload_n 0, 1) := by decide +kernel
theorem dX12_isOnce_1 : decode cX12_isOnce 1 = .ok (.getfield 266, 3) := by decide +kernel
theorem dX12_isOnce_4 : decode cX12_isOnce 4 = .ok (.iload_n 1, 1) := by decide +kernel
theorem dX12_isOnce_5 : decode cX12_isOnce 5 = .ok (.invokestatic 108, 3) := by decide +kernel
theorem dX12_isOnce_8 : decode cX12_isOnce 8 = .ok (.ifCond .eq 12, 3) := by decide +kernel
theorem dX12_isOnce_11 : decode cX12_isOnce 11 = .ok (.aload_n 0, 1) := by decide +kernel
theorem dX12_isOnce_12 : decode cX12_isOnce 12 = .ok (.iconst 5, 1) := by decide +kernel
theorem dX12_isOnce_13 : decode cX12_isOnce 13 = .ok (.aload_n 0, 1) := by decide +kernel
theorem dX12_isOnce_14 : decode cX12_isOnce 14 = .ok (.getfield 118, 3) := by decide +kernel
theorem dX12_isOnce_17 : decode cX12_isOnce 17 = .ok (.invokevirtual 231, 3) := by decide +kernel
theorem dX12_isOnce_20 : decode cX12_isOnce 20 = .ok (.aload_n 0, 1) := by decide +kernel
theorem dX12_isOnce_21 : decode cX12_isOnce 21 = .ok (.getfield 225, 3) := by decide +kernel
theorem dX12_isOnce_24 : decode cX12_isOnce 24 = .ok (.ifCond .le 5, 3) := by decide +kernel
theorem dX12_isOnce_27 : decode cX12_isOnce 27 = .ok (.iconst 0, 1) := by decide +kernel
theorem dX12_isOnce_28 : decode cX12_isOnce 28 = .ok (.ireturn, 1) := by decide +kernel
theorem dX12_isOnce_29 : decode cX12_isOnce 29 = .ok (.aload_n 0, 1) := by decide +kernel
theorem dX12_isOnce_30 : decode cX12_isOnce 30 = .ok (.dup, 1) := by decide +kernel
theorem dX12_isOnce_31 : decode cX12_isOnce 31 = .ok (.getfield 266, 3) := by decide +kernel
theorem dX12_isOnce_34 : decode cX12_isOnce 34 = .ok (.iconst 1, 1) := by decide +kernel
theorem dX12_isOnce_35 : decode cX12_isOnce 35 = .ok (.iload_n 1, 1) := by decide +kernel
theorem dX12_isOnce_36 : decode cX12_isOnce 36 = .ok (.ishl, 1) := by decide +kernel
theorem dX12_isOnce_37 : decode cX12_isOnce 37 = .ok (.ior, 1) := by decide +kernel
theorem dX12_isOnce_38 : decode cX12_isOnce 38 = .ok (.putfield 266, 3) := by decide +kernel
theorem dX12_isOnce_41 : decode cX12_isOnce 41 = .ok (.aload_n 0, 1) := by decide +kernel
theorem dX12_isOnce_42 : decode cX12_isOnce 42 = .ok (.invokevirtual 235, 3) := by decide +kernel
theorem dX12_isOnce_45 : decode cX12_isOnce 45 = .ok (.iconst 1, 1) := by decide +kernel
theorem dX12_isOnce_46 : decode cX12_isOnce 46 = .ok (.ireturn, 1) := by decide +kernel
theorem dX12_readOnce_0 : decode cX12_readOnce 0 = .ok (.aload_n 0, 1) := by decide +kernel
theorem dX12_readOnce_1 : decode cX12_readOnce 1 = .ok (.iload_n 1, 1) := by decide +kernel
theorem dX12_readOnce_2 : decode cX12_readOnce 2 = .ok (.invokevirtual 269, 3) := by decide +kernel
theorem dX12_readOnce_5 : decode cX12_readOnce 5 = .ok (.ifCond .eq 19, 3) := by decide +kernel
theorem dX12_readOnce_8 : decode cX12_readOnce 8 = .ok (.aload_n 0, 1) := by decide +kernel
theorem dX12_readOnce_9 : decode cX12_readOnce 9 = .ok (.getfield 35, 3) := by decide +kernel
theorem dX12_readOnce_12 : decode cX12_readOnce 12 = .ok (.sipush 1636, 3) := by decide +kernel
theorem dX12_readOnce_15 : decode cX12_readOnce 15 = .ok (.iload_n 1, 1) := by decide +kernel
theorem dX12_readOnce_16 : decode cX12_readOnce 16 = .ok (.iadd, 1) := by decide +kernel
theorem dX12_readOnce_17 : decode cX12_readOnce 17 = .ok (.aload_n 0, 1) := by decide +kernel
theorem dX12_readOnce_18 : decode cX12_readOnce 18 = .ok (.iconst 0, 1) := by decide +kernel
theorem dX12_readOnce_19 : decode cX12_readOnce 19 = .ok (.iload_n 2, 1) := by decide +kernel
theorem dX12_readOnce_20 : decode cX12_readOnce 20 = .ok (.invokevirtual 245, 3) := by decide +kernel
theorem dX12_readOnce_23 : decode cX12_readOnce 23 = .ok (.iastore, 1) := by decide +kernel
theorem dX12_readOnce_24 : decode cX12_readOnce 24 = .ok (.return_, 1) := by decide +kernel
theorem dX12_readPark_0 : decode cX12_readPark 0 = .ok (.aload_n 0, 1) := by decide +kernel
theorem dX12_readPark_1 : decode cX12_readPark 1 = .ok (.iconst 3, 1) := by decide +kernel
theorem dX12_readPark_2 : decode cX12_readPark 2 = .ok (.invokevirtual 269, 3) := by decide +kernel
theorem dX12_readPark_5 : decode cX12_readPark 5 = .ok (.ifCond .ne 4, 3) := by decide +kernel
theorem dX12_readPark_8 : decode cX12_readPark 8 = .ok (.return_, 1) := by decide +kernel
theorem dX12_readPark_9 : decode cX12_readPark 9 = .ok (.aload_n 0, 1) := by decide +kernel
theorem dX12_readPark_10 : decode cX12_readPark 10 = .ok (.getfield 35, 3) := by decide +kernel
theorem dX12_readPark_13 : decode cX12_readPark 13 = .ok (.sipush 1632, 3) := by decide +kernel
theorem dX12_readPark_16 : decode cX12_readPark 16 = .ok (.aload_n 0, 1) := by decide +kernel
theorem dX12_readPark_17 : decode cX12_readPark 17 = .ok (.iconst 1, 1) := by decide +kernel
theorem dX12_readPark_18 : decode cX12_readPark 18 = .ok (.bipush 6, 2) := by decide +kernel
theorem dX12_readPark_20 : decode cX12_readPark 20 = .ok (.invokevirtual 245, 3) := by decide +kernel
theorem dX12_readPark_23 : decode cX12_readPark 23 = .ok (.iastore, 1) := by decide +kernel
theorem dX12_readPark_24 : decode cX12_readPark 24 = .ok (.aload_n 0, 1) := by decide +kernel
theorem dX12_readPark_25 : decode cX12_readPark 25 = .ok (.getfield 35, 3) := by decide +kernel
theorem dX12_readPark_28 : decode cX12_readPark 28 = .ok (.sipush 1633, 3) := by decide +kernel
theorem dX12_readPark_31 : decode cX12_readPark 31 = .ok (.aload_n 0, 1) := by decide +kernel
theorem dX12_readPark_32 : decode cX12_readPark 32 = .ok (.aload_n 0, 1) := by decide +kernel
theorem dX12_readPark_33 : decode cX12_readPark 33 = .ok (.invokevirtual 167, 3) := by decide +kernel
theorem dX12_readPark_36 : decode cX12_readPark 36 = .ok (.iconst 1, 1) := by decide +kernel
theorem dX12_readPark_37 : decode cX12_readPark 37 = .ok (.iconst 5, 1) := by decide +kernel
theorem dX12_readPark_38 : decode cX12_readPark 38 = .ok (.invokevirtual 272, 3) := by decide +kernel
theorem dX12_readPark_41 : decode cX12_readPark 41 = .ok (.iastore, 1) := by decide +kernel
theorem dX12_readPark_42 : decode cX12_readPark 42 = .ok (.return_, 1) := by decide +kernel
theorem dX12_readPond_0 : decode cX12_readPond 0 = .ok (.aload_n 0, 1) := by decide +kernel
theorem dX12_readPond_1 : decode cX12_readPond 1 = .ok (.getfield 266, 3) := by decide +kernel
theorem dX12_readPond_4 : decode cX12_readPond 4 = .ok (.iconst 3, 1) := by decide +kernel
theorem dX12_readPond_5 : decode cX12_readPond 5 = .ok (.invokestatic 108, 3) := by decide +kernel
theorem dX12_readPond_8 : decode cX12_readPond 8 = .ok (.ifCond .ne 7, 3) := by decide +kernel
theorem dX12_readPond_11 : decode cX12_readPond 11 = .ok (.aload_n 0, 1) := by decide +kernel
theorem dX12_readPond_12 : decode cX12_readPond 12 = .ok (.invokevirtual 238, 3) := by decide +kernel
theorem dX12_readPond_15 : decode cX12_readPond 15 = .ok (.aload_n 0, 1) := by decide +kernel
theorem dX12_readPond_16 : decode cX12_readPond 16 = .ok (.iconst 1, 1) := by decide +kernel
theorem dX12_readPond_17 : decode cX12_readPond 17 = .ok (.invokevirtual 241, 3) := by decide +kernel
theorem dX12_readPond_20 : decode cX12_readPond 20 = .ok (.aload_n 0, 1) := by decide +kernel
theorem dX12_readPond_21 : decode cX12_readPond 21 = .ok (.iconst 0, 1) := by decide +kernel
theorem dX12_readPond_22 : decode cX12_readPond 22 = .ok (.aload_n 0, 1) := by decide +kernel
theorem dX12_readPond_23 : decode cX12_readPond 23 = .ok (.getfield 35, 3) := by decide +kernel
theorem dX12_readPond_26 : decode cX12_readPond 26 = .ok (.sipush 1632, 3) := by decide +kernel
theorem dX12_readPond_29 : decode cX12_readPond 29 = .ok (.iaload, 1) := by decide +kernel
theorem dX12_readPond_30 : decode cX12_readPond 30 = .ok (.iconst 1, 1) := by decide +kernel
theorem dX12_readPond_31 : decode cX12_readPond 31 = .ok (.isub, 1) := by decide +kernel
theorem dX12_readPond_32 : decode cX12_readPond 32 = .ok (.invokevirtual 245, 3) := by decide +kernel
theorem dX12_readPond_35 : decode cX12_readPond 35 = .ok (.istore_n 1, 1) := by decide +kernel
theorem dX12_readPond_36 : decode cX12_readPond 36 = .ok (.aload_n 0, 1) := by decide +kernel
theorem dX12_readPond_37 : decode cX12_readPond 37 = .ok (.iconst 0, 1) := by decide +kernel
theorem dX12_readPond_38 : decode cX12_readPond 38 = .ok (.aload_n 0, 1) := by decide +kernel
theorem dX12_readPond_39 : decode cX12_readPond 39 = .ok (.getfield 35, 3) := by decide +kernel
theorem dX12_readPond_42 : decode cX12_readPond 42 = .ok (.sipush 1633, 3) := by decide +kernel
theorem dX12_readPond_45 : decode cX12_readPond 45 = .ok (.iaload, 1) := by decide +kernel
theorem dX12_readPond_46 : decode cX12_readPond 46 = .ok (.iconst 1, 1) := by decide +kernel
theorem dX12_readPond_47 : decode cX12_readPond 47 = .ok (.isub, 1) := by decide +kernel
theorem dX12_readPond_48 : decode cX12_readPond 48 = .ok (.invokevirtual 245, 3) := by decide +kernel
theorem dX12_readPond_51 : decode cX12_readPond 51 = .ok (.istore_n 2, 1) := by decide +kernel
theorem dX12_readPond_52 : decode cX12_readPond 52 = .ok (.aload_n 0, 1) := by decide +kernel
theorem dX12_readPond_53 : decode cX12_readPond 53 = .ok (.getfield 225, 3) := by decide +kernel
theorem dX12_readPond_56 : decode cX12_readPond 56 = .ok (.ifCond .ne 19, 3) := by decide +kernel
theorem dX12_readPond_59 : decode cX12_readPond 59 = .ok (.aload_n 0, 1) := by decide +kernel
theorem dX12_readPond_60 : decode cX12_readPond 60 = .ok (.getfield 35, 3) := by decide +kernel
theorem dX12_readPond_63 : decode cX12_readPond 63 = .ok (.sipush 1738, 3) := by decide +kernel
theorem dX12_readPond_66 : decode cX12_readPond 66 = .ok (.bipush 6, 2) := by decide +kernel
theorem dX12_readPond_68 : decode cX12_readPond 68 = .ok (.iload_n 2, 1) := by decide +kernel
theorem dX12_readPond_69 : decode cX12_readPond 69 = .ok (.imul, 1) := by decide +kernel
theorem dX12_readPond_70 : decode cX12_readPond 70 = .ok (.iadd, 1) := by decide +kernel
theorem dX12_readPond_71 : decode cX12_readPond 71 = .ok (.iload_n 1, 1) := by decide +kernel
theorem dX12_readPond_72 : decode cX12_readPond 72 = .ok (.iadd, 1) := by decide +kernel
theorem dX12_readPond_73 : decode cX12_readPond 73 = .ok (.iconst 1, 1) := by decide +kernel
theorem dX12_readPond_74 : decode cX12_readPond 74 = .ok (.iastore, 1) := by decide +kernel
theorem dX12_readPond_75 : decode cX12_readPond 75 = .ok (.return_, 1) := by decide +kernel
theorem dX12_readTune_0 : decode cX12_readTune 0 = .ok (.aload_n 0, 1) := by decide +kernel
theorem dX12_readTune_1 : decode cX12_readTune 1 = .ok (.iconst 0, 1) := by decide +kernel
theorem dX12_readTune_2 : decode cX12_readTune 2 = .ok (.invokevirtual 276, 3) := by decide +kernel
theorem dX12_readTune_5 : decode cX12_readTune 5 = .ok (.istore_n 1, 1) := by decide +kernel
theorem dX12_readTune_6 : decode cX12_readTune 6 = .ok (.aload_n 0, 1) := by decide +kernel
theorem dX12_readTune_7 : decode cX12_readTune 7 = .ok (.getfield 35, 3) := by decide +kernel
theorem dX12_readTune_10 : decode cX12_readTune 10 = .ok (.sipush 1642, 3) := by decide +kernel
theorem dX12_readTune_13 : decode cX12_readTune 13 = .ok (.iload_n 1, 1) := by decide +kernel
theorem dX12_readTune_14 : decode cX12_readTune 14 = .ok (.iadd, 1) := by decide +kernel
theorem dX12_readTune_15 : decode cX12_readTune 15 = .ok (.aload_n 0, 1) := by decide +kernel
theorem dX12_readTune_16 : decode cX12_readTune 16 = .ok (.aload_n 0, 1) := by decide +kernel
theorem dX12_readTune_17 : decode cX12_readTune 17 = .ok (.invokevirtual 185, 3) := by decide +kernel
theorem dX12_readTune_20 : decode cX12_readTune 20 = .ok (.iconst 0, 1) := by decide +kernel
theorem dX12_readTune_21 : decode cX12_readTune 21 = .ok (.bipush 20, 2) := by decide +kernel
theorem dX12_readTune_23 : decode cX12_readTune 23 = .ok (.invokevirtual 272, 3) := by decide +kernel
theorem dX12_readTune_26 : decode cX12_readTune 26 = .ok (.iastore, 1) := by decide +kernel
theorem dX12_readTune_27 : decode cX12_readTune 27 = .ok (.aload_n 0, 1) := by decide +kernel
theorem dX12_readTune_28 : decode cX12_readTune 28 = .ok (.getfield 35, 3) := by decide +kernel
theorem dX12_readTune_31 : decode cX12_readTune 31 = .ok (.sipush 1648, 3) := by decide +kernel
theorem dX12_readTune_34 : decode cX12_readTune 34 = .ok (.iload_n 1, 1) := by decide +kernel
theorem dX12_readTune_35 : decode cX12_readTune 35 = .ok (.iadd, 1) := by decide +kernel
theorem dX12_readTune_36 : decode cX12_readTune 36 = .ok (.aload_n 0, 1) := by decide +kernel
theorem dX12_readTune_37 : decode cX12_readTune 37 = .ok (.aload_n 0, 1) := by decide +kernel
theorem dX12_readTune_38 : decode cX12_readTune 38 = .ok (.invokevirtual 188, 3) := by decide +kernel
theorem dX12_readTune_41 : decode cX12_readTune 41 = .ok (.iconst 0, 1) := by decide +kernel
theorem dX12_readTune_42 : decode cX12_readTune 42 = .ok (.bipush 9, 2) := by decide +kernel
theorem dX12_readTune_44 : decode cX12_readTune 44 = .ok (.invokevirtual 272, 3) := by decide +kernel
theorem dX12_readTune_47 : decode cX12_readTune 47 = .ok (.iastore, 1) := by decide +kernel
theorem dX12_readTune_48 : decode cX12_readTune 48 = .ok (.aload_n 0, 1) := by decide +kernel
theorem dX12_readTune_49 : decode cX12_readTune 49 = .ok (.getfield 35, 3) := by decide +kernel
theorem dX12_readTune_52 : decode cX12_readTune 52 = .ok (.sipush 1654, 3) := by decide +kernel
theorem dX12_readTune_55 : decode cX12_readTune 55 = .ok (.iload_n 1, 1) := by decide +kernel
theorem dX12_readTune_56 : decode cX12_readTune 56 = .ok (.iadd, 1) := by decide +kernel
theorem dX12_readTune_57 : decode cX12_readTune 57 = .ok (.aload_n 0, 1) := by decide +kernel
theorem dX12_readTune_58 : decode cX12_readTune 58 = .ok (.getfield 225, 3) := by decide +kernel
theorem dX12_readTune_61 : decode cX12_readTune 61 = .ok (.ifCond .ne 21, 3) := by decide +kernel
theorem dX12_readTune_64 : decode cX12_readTune 64 = .ok (.aload_n 0, 1) := by decide +kernel
theorem dX12_readTune_65 : decode cX12_readTune 65 = .ok (.invokevirtual 191, 3) := by decide +kernel
theorem dX12_readTune_68 : decode cX12_readTune 68 = .ok (.ifCond .eq 14, 3) := by decide +kernel
theorem dX12_readTune_71 : decode cX12_readTune 71 = .ok (.aload_n 0, 1) := by decide +kernel
theorem dX12_readTune_72 : decode cX12_readTune 72 = .ok (.iconst 1, 1) := by decide +kernel
theorem dX12_readTune_73 : decode cX12_readTune 73 = .ok (.iconst 1, 1) := by decide +kernel
theorem dX12_readTune_74 : decode cX12_readTune 74 = .ok (.bipush 99, 2) := by decide +kernel
theorem dX12_readTune_76 : decode cX12_readTune 76 = .ok (.invokevirtual 272, 3) := by decide +kernel
theorem dX12_readTune_79 : decode cX12_readTune 79 = .ok (.goto 4, 3) := by decide +kernel
theorem dX12_readTune_82 : decode cX12_readTune 82 = .ok (.iconst 4, 1) := by decide +kernel
theorem dX12_readTune_83 : decode cX12_readTune 83 = .ok (.iastore, 1) := by decide +kernel
theorem dX12_readTune_84 : decode cX12_readTune 84 = .ok (.aload_n 0, 1) := by decide +kernel
theorem dX12_readTune_85 : decode cX12_readTune 85 = .ok (.getfield 225, 3) := by decide +kernel
theorem dX12_readTune_88 : decode cX12_readTune 88 = .ok (.ifCond .ne 15, 3) := by decide +kernel
theorem dX12_readTune_91 : decode cX12_readTune 91 = .ok (.aload_n 0, 1) := by decide +kernel
theorem dX12_readTune_92 : decode cX12_readTune 92 = .ok (.getfield 35, 3) := by decide +kernel
theorem dX12_readTune_95 : decode cX12_readTune 95 = .ok (.sipush 1634, 3) := by decide +kernel
theorem dX12_readTune_98 : decode cX12_readTune 98 = .ok (.dup2, 1) := by decide +kernel
theorem dX12_readTune_99 : decode cX12_readTune 99 = .ok (.iaload, 1) := by decide +kernel
theorem dX12_readTune_100 : decode cX12_readTune 100 = .ok (.iconst 1, 1) := by decide +kernel
theorem dX12_readTune_101 : decode cX12_readTune 101 = .ok (.iadd, 1) := by decide +kernel
theorem dX12_readTune_102 : decode cX12_readTune 102 = .ok (.iastore, 1) := by decide +kernel
theorem dX12_readTune_103 : decode cX12_readTune 103 = .ok (.return_, 1) := by decide +kernel
theorem dX12_bandAt_0 : decode cX12_bandAt 0 = .ok (.sipush 408, 3) := by decide +kernel
theorem dX12_bandAt_3 : decode cX12_bandAt 3 = .ok (.iload_n 1, 1) := by decide +kernel
theorem dX12_bandAt_4 : decode cX12_bandAt 4 = .ok (.imul, 1) := by decide +kernel
theorem dX12_bandAt_5 : decode cX12_bandAt 5 = .ok (.istore 4, 2) := by decide +kernel
theorem dX12_bandAt_7 : decode cX12_bandAt 7 = .ok (.iconst 0, 1) := by decide +kernel
theorem dX12_bandAt_8 : decode cX12_bandAt 8 = .ok (.istore 5, 2) := by decide +kernel
theorem dX12_bandAt_10 : decode cX12_bandAt 10 = .ok (.iload 5, 2) := by decide +kernel
theorem dX12_bandAt_12 : decode cX12_bandAt 12 = .ok (.aload_n 0, 1) := by decide +kernel
theorem dX12_bandAt_13 : decode cX12_bandAt 13 = .ok (.getfield 35, 3) := by decide +kernel
theorem dX12_bandAt_16 : decode cX12_bandAt 16 = .ok (.iload 4, 2) := by decide +kernel
theorem dX12_bandAt_18 : decode cX12_bandAt 18 = .ok (.iconst 3, 1) := by decide +kernel
theorem dX12_bandAt_19 : decode cX12_bandAt 19 = .ok (.iadd, 1) := by decide +kernel
theorem dX12_bandAt_20 : decode cX12_bandAt 20 = .ok (.iaload, 1) := by decide +kernel
theorem dX12_bandAt_21 : decode cX12_bandAt 21 = .ok (.if_icmp .ge 46, 3) := by decide +kernel
theorem dX12_bandAt_24 : decode cX12_bandAt 24 = .ok (.aload_n 0, 1) := by decide +kernel
theorem dX12_bandAt_25 : decode cX12_bandAt 25 = .ok (.getfield 35, 3) := by decide +kernel
theorem dX12_bandAt_28 : decode cX12_bandAt 28 = .ok (.iload 4, 2) := by decide +kernel
theorem dX12_bandAt_30 : decode cX12_bandAt 30 = .ok (.bipush 28, 2) := by decide +kernel
theorem dX12_bandAt_32 : decode cX12_bandAt 32 = .ok (.iadd, 1) := by decide +kernel
theorem dX12_bandAt_33 : decode cX12_bandAt 33 = .ok (.iload 5, 2) := by decide +kernel
theorem dX12_bandAt_35 : decode cX12_bandAt 35 = .ok (.iadd, 1) := by decide +kernel
theorem dX12_bandAt_36 : decode cX12_bandAt 36 = .ok (.iaload, 1) := by decide +kernel
theorem dX12_bandAt_37 : decode cX12_bandAt 37 = .ok (.iload_n 2, 1) := by decide +kernel
theorem dX12_bandAt_38 : decode cX12_bandAt 38 = .ok (.if_icmp .ne 23, 3) := by decide +kernel
theorem dX12_bandAt_41 : decode cX12_bandAt 41 = .ok (.aload_n 0, 1) := by decide +kernel
theorem dX12_bandAt_42 : decode cX12_bandAt 42 = .ok (.getfield 35, 3) := by decide +kernel
theorem dX12_bandAt_45 : decode cX12_bandAt 45 = .ok (.iload 4, 2) := by decide +kernel
theorem dX12_bandAt_47 : decode cX12_bandAt 47 = .ok (.bipush 34, 2) := by decide +kernel
theorem dX12_bandAt_49 : decode cX12_bandAt 49 = .ok (.iadd, 1) := by decide +kernel
theorem dX12_bandAt_50 : decode cX12_bandAt 50 = .ok (.iload 5, 2) := by decide +kernel
theorem dX12_bandAt_52 : decode cX12_bandAt 52 = .ok (.iadd, 1) := by decide +kernel
theorem dX12_bandAt_53 : decode cX12_bandAt 53 = .ok (.iaload, 1) := by decide +kernel
theorem dX12_bandAt_54 : decode cX12_bandAt 54 = .ok (.iload_n 3, 1) := by decide +kernel
theorem dX12_bandAt_55 : decode cX12_bandAt 55 = .ok (.if_icmp .ne 6, 3) := by decide +kernel
theorem dX12_bandAt_58 : decode cX12_bandAt 58 = .ok (.iload 5, 2) := by decide +kernel
theorem dX12_bandAt_60 : decode cX12_bandAt 60 = .ok (.ireturn, 1) := by decide +kernel
theorem dX12_bandAt_61 : decode cX12_bandAt 61 = .ok (.iinc 5 1, 3) := by decide +kernel
theorem dX12_bandAt_64 : decode cX12_bandAt 64 = .ok (.goto (-54), 3) := by decide +kernel
theorem dX12_bandAt_67 : decode cX12_bandAt 67 = .ok (.iconst (-1), 1) := by decide +kernel
theorem dX12_bandAt_68 : decode cX12_bandAt 68 = .ok (.ireturn, 1) := by decide +kernel
theorem dX12_readPlays_0 : decode cX12_readPlays 0 = .ok (.iconst 0, 1) := by decide +kernel
theorem dX12_readPlays_1 : decode cX12_readPlays 1 = .ok (.istore_n 2, 1) := by decide +kernel
theorem dX12_readPlays_2 : decode cX12_readPlays 2 = .ok (.aload_n 0, 1) := by decide +kernel
theorem dX12_readPlays_3 : decode cX12_readPlays 3 = .ok (.invokevirtual 235, 3) := by decide +kernel
theorem dX12_readPlays_6 : decode cX12_readPlays 6 = .ok (.aload_n 0, 1) := by decide +kernel
theorem dX12_readPlays_7 : decode cX12_readPlays 7 = .ok (.getfield 225, 3) := by decide +kernel
theorem dX12_readPlays_10 : decode cX12_readPlays 10 = .ok (.ifCond .ne 79, 3) := by decide +kernel
theorem dX12_readPlays_13 : decode cX12_readPlays 13 = .ok (.iload_n 2, 1) := by decide +kernel
theorem dX12_readPlays_14 : decode cX12_readPlays 14 = .ok (.ifCond .eq 11, 3) := by decide +kernel
theorem dX12_readPlays_17 : decode cX12_readPlays 17 = .ok (.aload_n 0, 1) := by decide +kernel
theorem dX12_readPlays_18 : decode cX12_readPlays 18 = .ok (.getfield 124, 3) := by decide +kernel
theorem dX12_readPlays_21 : decode cX12_readPlays 21 = .ok (.iconst 1, 1) := by decide +kernel
theorem dX12_readPlays_22 : decode cX12_readPlays 22 = .ok (.if_icmp .ne 67, 3) := by decide +kernel
theorem dX12_readPlays_25 : decode cX12_readPlays 25 = .ok (.aload_n 0, 1) := by decide +kernel
theorem dX12_readPlays_26 : decode cX12_readPlays 26 = .ok (.iconst 4, 1) := by decide +kernel
theorem dX12_readPlays_27 : decode cX12_readPlays 27 = .ok (.invokevirtual 279, 3) := by decide +kernel
theorem dX12_readPlays_30 : decode cX12_readPlays 30 = .ok (.istore_n 3, 1) := by decide +kernel
theorem dX12_readPlays_31 : decode cX12_readPlays 31 = .ok (.aload_n 0, 1) := by decide +kernel
theorem dX12_readPlays_32 : decode cX12_readPlays 32 = .ok (.getfield 225, 3) := by decide +kernel
theorem dX12_readPlays_35 : decode cX12_readPlays 35 = .ok (.ifCond .ne 19, 3) := by decide +kernel
theorem dX12_readPlays_38 : decode cX12_readPlays 38 = .ok (.iload_n 2, 1) := by decide +kernel
theorem dX12_readPlays_39 : decode cX12_readPlays 39 = .ok (.bipush 6, 2) := by decide +kernel
theorem dX12_readPlays_41 : decode cX12_readPlays 41 = .ok (.if_icmp .ne 13, 3) := by decide +kernel
theorem dX12_readPlays_44 : decode cX12_readPlays 44 = .ok (.aload_n 0, 1) := by decide +kernel
theorem dX12_readPlays_45 : decode cX12_readPlays 45 = .ok (.bipush 6, 2) := by decide +kernel
theorem dX12_readPlays_47 : decode cX12_readPlays 47 = .ok (.aload_n 0, 1) := by decide +kernel
theorem dX12_readPlays_48 : decode cX12_readPlays 48 = .ok (.getfield 118, 3) := by decide +kernel
theorem dX12_readPlays_51 : decode cX12_readPlays 51 = .ok (.invokevirtual 231, 3) := by decide +kernel
theorem dX12_readPlays_54 : decode cX12_readPlays 54 = .ok (.aload_n 0, 1) := by decide +kernel
theorem dX12_readPlays_55 : decode cX12_readPlays 55 = .ok (.iconst 1, 1) := by decide +kernel
theorem dX12_readPlays_56 : decode cX12_readPlays 56 = .ok (.invokevirtual 241, 3) := by decide +kernel
theorem dX12_readPlays_59 : decode cX12_readPlays 59 = .ok (.aload_n 0, 1) := by decide +kernel
theorem dX12_readPlays_60 : decode cX12_readPlays 60 = .ok (.getfield 225, 3) := by decide +kernel
theorem dX12_readPlays_63 : decode cX12_readPlays 63 = .ok (.ifCond .le 4, 3) := by decide +kernel
theorem dX12_readPlays_66 : decode cX12_readPlays 66 = .ok (.return_, 1) := by decide +kernel
theorem dX12_readPlays_67 : decode cX12_readPlays 67 = .ok (.aload_n 0, 1) := by decide +kernel
theorem dX12_readPlays_68 : decode cX12_readPlays 68 = .ok (.getfield 35, 3) := by decide +kernel
theorem dX12_readPlays_71 : decode cX12_readPlays 71 = .ok (.sipush 1702, 3) := by decide +kernel
theorem dX12_readPlays_74 : decode cX12_readPlays 74 = .ok (.bipush 6, 2) := by decide +kernel
theorem dX12_readPlays_76 : decode cX12_readPlays 76 = .ok (.iload_n 1, 1) := by decide +kernel
theorem dX12_readPlays_77 : decode cX12_readPlays 77 = .ok (.imul, 1) := by decide +kernel
theorem dX12_readPlays_78 : decode cX12_readPlays 78 = .ok (.iadd, 1) := by decide +kernel
theorem dX12_readPlays_79 : decode cX12_readPlays 79 = .ok (.iload_n 2, 1) := by decide +kernel
theorem dX12_readPlays_80 : decode cX12_readPlays 80 = .ok (.iadd, 1) := by decide +kernel
theorem dX12_readPlays_81 : decode cX12_readPlays 81 = .ok (.iload_n 3, 1) := by decide +kernel
theorem dX12_readPlays_82 : decode cX12_readPlays 82 = .ok (.iastore, 1) := by decide +kernel
theorem dX12_readPlays_83 : decode cX12_readPlays 83 = .ok (.iinc 2 1, 3) := by decide +kernel
theorem dX12_readPlays_86 : decode cX12_readPlays 86 = .ok (.goto (-80), 3) := by decide +kernel
theorem dX12_readPlays_89 : decode cX12_readPlays 89 = .ok (.aload_n 0, 1) := by decide +kernel
theorem dX12_readPlays_90 : decode cX12_readPlays 90 = .ok (.getfield 35, 3) := by decide +kernel
theorem dX12_readPlays_93 : decode cX12_readPlays 93 = .ok (.sipush 1696, 3) := by decide +kernel
theorem dX12_readPlays_96 : decode cX12_readPlays 96 = .ok (.iload_n 1, 1) := by decide +kernel
theorem dX12_readPlays_97 : decode cX12_readPlays 97 = .ok (.iadd, 1) := by decide +kernel
theorem dX12_readPlays_98 : decode cX12_readPlays 98 = .ok (.iload_n 2, 1) := by decide +kernel
theorem dX12_readPlays_99 : decode cX12_readPlays 99 = .ok (.iastore, 1) := by decide +kernel
theorem dX12_readPlays_100 : decode cX12_readPlays 100 = .ok (.return_, 1) := by decide +kernel
theorem dX12_readBand_0 : decode cX12_readBand 0 = .ok (.aload_n 0, 1) := by decide +kernel
theorem dX12_readBand_1 : decode cX12_readBand 1 = .ok (.getfield 266, 3) := by decide +kernel
theorem dX12_readBand_4 : decode cX12_readBand 4 = .ok (.iconst 3, 1) := by decide +kernel
theorem dX12_readBand_5 : decode cX12_readBand 5 = .ok (.invokestatic 108, 3) := by decide +kernel
theorem dX12_readBand_8 : decode cX12_readBand 8 = .ok (.ifCond .ne 7, 3) := by decide +kernel
theorem dX12_readBand_11 : decode cX12_readBand 11 = .ok (.aload_n 0, 1) := by decide +kernel
theorem dX12_readBand_12 : decode cX12_readBand 12 = .ok (.invokevirtual 238, 3) := by decide +kernel
theorem dX12_readBand_15 : decode cX12_readBand 15 = .ok (.aload_n 0, 1) := by decide +kernel
theorem dX12_readBand_16 : decode cX12_readBand 16 = .ok (.getfield 225, 3) := by decide +kernel
theorem dX12_readBand_19 : decode cX12_readBand 19 = .ok (.ifCond .le 7, 3) := by decide +kernel
theorem dX12_readBand_22 : decode cX12_readBand 22 = .ok (.iconst 0, 1) := by decide +kernel
theorem dX12_readBand_23 : decode cX12_readBand 23 = .ok (.goto 8, 3) := by decide +kernel
theorem dX12_readBand_26 : decode cX12_readBand 26 = .ok (.aload_n 0, 1) := by decide +kernel
theorem dX12_readBand_27 : decode cX12_readBand 27 = .ok (.iconst 1, 1) := by decide +kernel
theorem dX12_readBand_28 : decode cX12_readBand 28 = .ok (.invokevirtual 276, 3) := by decide +kernel
theorem dX12_readBand_31 : decode cX12_readBand 31 = .ok (.istore_n 1, 1) := by decide +kernel
theorem dX12_readBand_32 : decode cX12_readBand 32 = .ok (.aload_n 0, 1) := by decide +kernel
theorem dX12_readBand_33 : decode cX12_readBand 33 = .ok (.aload_n 0, 1) := by decide +kernel
theorem dX12_readBand_34 : decode cX12_readBand 34 = .ok (.invokevirtual 197, 3) := by decide +kernel
theorem dX12_readBand_37 : decode cX12_readBand 37 = .ok (.invokevirtual 241, 3) := by decide +kernel
theorem dX12_readBand_40 : decode cX12_readBand 40 = .ok (.aload_n 0, 1) := by decide +kernel
theorem dX12_readBand_41 : decode cX12_readBand 41 = .ok (.iconst 0, 1) := by decide +kernel
theorem dX12_readBand_42 : decode cX12_readBand 42 = .ok (.aload_n 0, 1) := by decide +kernel
theorem dX12_readBand_43 : decode cX12_readBand 43 = .ok (.getfield 35, 3) := by decide +kernel
theorem dX12_readBand_46 : decode cX12_readBand 46 = .ok (.sipush 1632, 3) := by decide +kernel
theorem dX12_readBand_49 : decode cX12_readBand 49 = .ok (.iaload, 1) := by decide +kernel
theorem dX12_readBand_50 : decode cX12_readBand 50 = .ok (.iconst 1, 1) := by decide +kernel
theorem dX12_readBand_51 : decode cX12_readBand 51 = .ok (.isub, 1) := by decide +kernel
theorem dX12_readBand_52 : decode cX12_readBand 52 = .ok (.invokevirtual 245, 3) := by decide +kernel
theorem dX12_readBand_55 : decode cX12_readBand 55 = .ok (.istore_n 2, 1) := by decide +kernel
theorem dX12_readBand_56 : decode cX12_readBand 56 = .ok (.aload_n 0, 1) := by decide +kernel
theorem dX12_readBand_57 : decode cX12_readBand 57 = .ok (.getfield 118, 3) := by decide +kernel
theorem dX12_readBand_60 : decode cX12_readBand 60 = .ok (.istore_n 3, 1) := by decide +kernel
theorem dX12_readBand_61 : decode cX12_readBand 61 = .ok (.aload_n 0, 1) := by decide +kernel
theorem dX12_readBand_62 : decode cX12_readBand 62 = .ok (.iconst 0, 1) := by decide +kernel
theorem dX12_readBand_63 : decode cX12_readBand 63 = .ok (.aload_n 0, 1) := by decide +kernel
theorem dX12_readBand_64 : decode cX12_readBand 64 = .ok (.getfield 35, 3) := by decide +kernel
theorem dX12_readBand_67 : decode cX12_readBand 67 = .ok (.sipush 1633, 3) := by decide +kernel
theorem dX12_readBand_70 : decode cX12_readBand 70 = .ok (.iaload, 1) := by decide +kernel
theorem dX12_readBand_71 : decode cX12_readBand 71 = .ok (.iconst 1, 1) := by decide +kernel
theorem dX12_readBand_72 : decode cX12_readBand 72 = .ok (.isub, 1) := by decide +kernel
theorem dX12_readBand_73 : decode cX12_readBand 73 = .ok (.invokevirtual 245, 3) := by decide +kernel
theorem dX12_readBand_76 : decode cX12_readBand 76 = .ok (.istore 4, 2) := by decide +kernel
theorem dX12_readBand_78 : decode cX12_readBand 78 = .ok (.aload_n 0, 1) := by decide +kernel
theorem dX12_readBand_79 : decode cX12_readBand 79 = .ok (.getfield 225, 3) := by decide +kernel
theorem dX12_readBand_82 : decode cX12_readBand 82 = .ok (.ifCond .ne 20, 3) := by decide +kernel
theorem dX12_readBand_85 : decode cX12_readBand 85 = .ok (.aload_n 0, 1) := by decide +kernel
theorem dX12_readBand_86 : decode cX12_readBand 86 = .ok (.iconst 4, 1) := by decide +kernel
theorem dX12_readBand_87 : decode cX12_readBand 87 = .ok (.iload_n 2, 1) := by decide +kernel
theorem dX12_readBand_88 : decode cX12_readBand 88 = .ok (.iload 4, 2) := by decide +kernel
theorem dX12_readBand_90 : decode cX12_readBand 90 = .ok (.invokevirtual 282, 3) := by decide +kernel
theorem dX12_readBand_93 : decode cX12_readBand 93 = .ok (.ifCond .lt 9, 3) := by decide +kernel
theorem dX12_readBand_96 : decode cX12_readBand 96 = .ok (.aload_n 0, 1) := by decide +kernel
theorem dX12_readBand_97 : decode cX12_readBand 97 = .ok (.iconst 5, 1) := by decide +kernel
theorem dX12_readBand_98 : decode cX12_readBand 98 = .ok (.iload_n 3, 1) := by decide +kernel
theorem dX12_readBand_99 : decode cX12_readBand 99 = .ok (.invokevirtual 231, 3) := by decide +kernel
theorem dX12_readBand_102 : decode cX12_readBand 102 = .ok (.aload_n 0, 1) := by decide +kernel
theorem dX12_readBand_103 : decode cX12_readBand 103 = .ok (.getfield 35, 3) := by decide +kernel
theorem dX12_readBand_106 : decode cX12_readBand 106 = .ok (.sipush 1660, 3) := by decide +kernel
theorem dX12_readBand_109 : decode cX12_readBand 109 = .ok (.iload_n 1, 1) := by decide +kernel
theorem dX12_readBand_110 : decode cX12_readBand 110 = .ok (.iadd, 1) := by decide +kernel
theorem dX12_readBand_111 : decode cX12_readBand 111 = .ok (.iload_n 2, 1) := by decide +kernel
theorem dX12_readBand_112 : decode cX12_readBand 112 = .ok (.iastore, 1) := by decide +kernel
theorem dX12_readBand_113 : decode cX12_readBand 113 = .ok (.aload_n 0, 1) := by decide +kernel
theorem dX12_readBand_114 : decode cX12_readBand 114 = .ok (.getfield 35, 3) := by decide +kernel
theorem dX12_readBand_117 : decode cX12_readBand 117 = .ok (.sipush 1666, 3) := by decide +kernel
theorem dX12_readBand_120 : decode cX12_readBand 120 = .ok (.iload_n 1, 1) := by decide +kernel
theorem dX12_readBand_121 : decode cX12_readBand 121 = .ok (.iadd, 1) := by decide +kernel
theorem dX12_readBand_122 : decode cX12_readBand 122 = .ok (.iload 4, 2) := by decide +kernel
theorem dX12_readBand_124 : decode cX12_readBand 124 = .ok (.iastore, 1) := by decide +kernel
theorem dX12_readBand_125 : decode cX12_readBand 125 = .ok (.aload_n 0, 1) := by decide +kernel
theorem dX12_readBand_126 : decode cX12_readBand 126 = .ok (.getfield 35, 3) := by decide +kernel
theorem dX12_readBand_129 : decode cX12_readBand 129 = .ok (.sipush 1672, 3) := by decide +kernel
theorem dX12_readBand_132 : decode cX12_readBand 132 = .ok (.iload_n 1, 1) := by decide +kernel
theorem dX12_readBand_133 : decode cX12_readBand 133 = .ok (.iadd, 1) := by decide +kernel
theorem dX12_readBand_134 : decode cX12_readBand 134 = .ok (.aload_n 0, 1) := by decide +kernel
theorem dX12_readBand_135 : decode cX12_readBand 135 = .ok (.aload_n 0, 1) := by decide +kernel
theorem dX12_readBand_136 : decode cX12_readBand 136 = .ok (.invokevirtual 200, 3) := by decide +kernel
theorem dX12_readBand_139 : decode cX12_readBand 139 = .ok (.iconst 0, 1) := by decide +kernel
theorem dX12_readBand_140 : decode cX12_readBand 140 = .ok (.bipush 20, 2) := by decide +kernel
theorem dX12_readBand_142 : decode cX12_readBand 142 = .ok (.invokevirtual 272, 3) := by decide +kernel
theorem dX12_readBand_145 : decode cX12_readBand 145 = .ok (.iastore, 1) := by decide +kernel
theorem dX12_readBand_146 : decode cX12_readBand 146 = .ok (.aload_n 0, 1) := by decide +kernel
theorem dX12_readBand_147 : decode cX12_readBand 147 = .ok (.getfield 35, 3) := by decide +kernel
theorem dX12_readBand_150 : decode cX12_readBand 150 = .ok (.sipush 1678, 3) := by decide +kernel
theorem dX12_readBand_153 : decode cX12_readBand 153 = .ok (.iload_n 1, 1) := by decide +kernel
theorem dX12_readBand_154 : decode cX12_readBand 154 = .ok (.iadd, 1) := by decide +kernel
theorem dX12_readBand_155 : decode cX12_readBand 155 = .ok (.aload_n 0, 1) := by decide +kernel
theorem dX12_readBand_156 : decode cX12_readBand 156 = .ok (.aload_n 0, 1) := by decide +kernel
theorem dX12_readBand_157 : decode cX12_readBand 157 = .ok (.invokevirtual 203, 3) := by decide +kernel
theorem dX12_readBand_160 : decode cX12_readBand 160 = .ok (.iconst 0, 1) := by decide +kernel
theorem dX12_readBand_161 : decode cX12_readBand 161 = .ok (.bipush 99, 2) := by decide +kernel
theorem dX12_readBand_163 : decode cX12_readBand 163 = .ok (.invokevirtual 272, 3) := by decide +kernel
theorem dX12_readBand_166 : decode cX12_readBand 166 = .ok (.iastore, 1) := by decide +kernel
theorem dX12_readBand_167 : decode cX12_readBand 167 = .ok (.aload_n 0, 1) := by decide +kernel
theorem dX12_readBand_168 : decode cX12_readBand 168 = .ok (.getfield 35, 3) := by decide +kernel
theorem dX12_readBand_171 : decode cX12_readBand 171 = .ok (.sipush 1684, 3) := by decide +kernel
theorem dX12_readBand_174 : decode cX12_readBand 174 = .ok (.iload_n 1, 1) := by decide +kernel
theorem dX12_readBand_175 : decode cX12_readBand 175 = .ok (.iadd, 1) := by decide +kernel
theorem dX12_readBand_176 : decode cX12_readBand 176 = .ok (.aload_n 0, 1) := by decide +kernel
theorem dX12_readBand_177 : decode cX12_readBand 177 = .ok (.getfield 35, 3) := by decide +kernel
theorem dX12_readBand_180 : decode cX12_readBand 180 = .ok (.sipush 1678, 3) := by decide +kernel
theorem dX12_readBand_183 : decode cX12_readBand 183 = .ok (.iload_n 1, 1) := by decide +kernel
theorem dX12_readBand_184 : decode cX12_readBand 184 = .ok (.iadd, 1) := by decide +kernel
theorem dX12_readBand_185 : decode cX12_readBand 185 = .ok (.iaload, 1) := by decide +kernel
theorem dX12_readBand_186 : decode cX12_readBand 186 = .ok (.iastore, 1) := by decide +kernel
theorem dX12_readBand_187 : decode cX12_readBand 187 = .ok (.aload_n 0, 1) := by decide +kernel
theorem dX12_readBand_188 : decode cX12_readBand 188 = .ok (.getfield 35, 3) := by decide +kernel
theorem dX12_readBand_191 : decode cX12_readBand 191 = .ok (.sipush 1696, 3) := by decide +kernel
theorem dX12_readBand_194 : decode cX12_readBand 194 = .ok (.iload_n 1, 1) := by decide +kernel
theorem dX12_readBand_195 : decode cX12_readBand 195 = .ok (.iadd, 1) := by decide +kernel
theorem dX12_readBand_196 : decode cX12_readBand 196 = .ok (.iconst 0, 1) := by decide +kernel
theorem dX12_readBand_197 : decode cX12_readBand 197 = .ok (.iastore, 1) := by decide +kernel
theorem dX12_readBand_198 : decode cX12_readBand 198 = .ok (.aload_n 0, 1) := by decide +kernel
theorem dX12_readBand_199 : decode cX12_readBand 199 = .ok (.getfield 225, 3) := by decide +kernel
theorem dX12_readBand_202 : decode cX12_readBand 202 = .ok (.ifCond .ne 15, 3) := by decide +kernel
theorem dX12_readBand_205 : decode cX12_readBand 205 = .ok (.aload_n 0, 1) := by decide +kernel
theorem dX12_readBand_206 : decode cX12_readBand 206 = .ok (.invokevirtual 206, 3) := by decide +kernel
theorem dX12_readBand_209 : decode cX12_readBand 209 = .ok (.ifCond .eq 8, 3) := by decide +kernel
theorem dX12_readBand_212 : decode cX12_readBand 212 = .ok (.aload_n 0, 1) := by decide +kernel
theorem dX12_readBand_213 : decode cX12_readBand 213 = .ok (.iload_n 1, 1) := by decide +kernel
theorem dX12_readBand_214 : decode cX12_readBand 214 = .ok (.invokevirtual 286, 3) := by decide +kernel
theorem dX12_readBand_217 : decode cX12_readBand 217 = .ok (.aload_n 0, 1) := by decide +kernel
theorem dX12_readBand_218 : decode cX12_readBand 218 = .ok (.getfield 225, 3) := by decide +kernel
theorem dX12_readBand_221 : decode cX12_readBand 221 = .ok (.ifCond .ne 15, 3) := by decide +kernel
theorem dX12_readBand_224 : decode cX12_readBand 224 = .ok (.aload_n 0, 1) := by decide +kernel
theorem dX12_readBand_225 : decode cX12_readBand 225 = .ok (.getfield 35, 3) := by decide +kernel
theorem dX12_readBand_228 : decode cX12_readBand 228 = .ok (.sipush 1635, 3) := by decide +kernel
theorem dX12_readBand_231 : decode cX12_readBand 231 = .ok (.dup2, 1) := by decide +kernel
theorem dX12_readBand_232 : decode cX12_readBand 232 = .ok (.iaload, 1) := by decide +kernel
theorem dX12_readBand_233 : decode cX12_readBand 233 = .ok (.iconst 1, 1) := by decide +kernel
theorem dX12_readBand_234 : decode cX12_readBand 234 = .ok (.iadd, 1) := by decide +kernel
theorem dX12_readBand_235 : decode cX12_readBand 235 = .ok (.iastore, 1) := by decide +kernel
theorem dX12_readBand_236 : decode cX12_readBand 236 = .ok (.return_, 1) := by decide +kernel
theorem dX12_readPart_0 : decode cX12_readPart 0 = .ok (.aload_n 0, 1) := by decide +kernel
theorem dX12_readPart_1 : decode cX12_readPart 1 = .ok (.invokevirtual 163, 3) := by decide +kernel
theorem dX12_readPart_4 : decode cX12_readPart 4 = .ok (.ifCond .eq 10, 3) := by decide +kernel
theorem dX12_readPart_7 : decode cX12_readPart 7 = .ok (.aload_n 0, 1) := by decide +kernel
theorem dX12_readPart_8 : decode cX12_readPart 8 = .ok (.invokevirtual 289, 3) := by decide +kernel
theorem dX12_readPart_11 : decode cX12_readPart 11 = .ok (.goto 100, 3) := by decide +kernel
theorem dX12_readPart_14 : decode cX12_readPart 14 = .ok (.aload_n 0, 1) := by decide +kernel
theorem dX12_readPart_15 : decode cX12_readPart 15 = .ok (.invokevirtual 170, 3) := by decide +kernel
theorem dX12_readPart_18 : decode cX12_readPart 18 = .ok (.ifCond .eq 13, 3) := by decide +kernel
theorem dX12_readPart_21 : decode cX12_readPart 21 = .ok (.aload_n 0, 1) := by decide +kernel
theorem dX12_readPart_22 : decode cX12_readPart 22 = .ok (.iconst 0, 1) := by decide +kernel
theorem dX12_readPart_23 : decode cX12_readPart 23 = .ok (.bipush 9, 2) := by decide +kernel
theorem dX12_readPart_25 : decode cX12_readPart 25 = .ok (.invokevirtual 292, 3) := by decide +kernel
theorem dX12_readPart_28 : decode cX12_readPart 28 = .ok (.goto 83, 3) := by decide +kernel
theorem dX12_readPart_31 : decode cX12_readPart 31 = .ok (.aload_n 0, 1) := by decide +kernel
theorem dX12_readPart_32 : decode cX12_readPart 32 = .ok (.invokevirtual 173, 3) := by decide +kernel
theorem dX12_readPart_35 : decode cX12_readPart 35 = .ok (.ifCond .eq 13, 3) := by decide +kernel
theorem dX12_readPart_38 : decode cX12_readPart 38 = .ok (.aload_n 0, 1) := by decide +kernel
theorem dX12_readPart_39 : decode cX12_readPart 39 = .ok (.iconst 1, 1) := by decide +kernel
theorem dX12_readPart_40 : decode cX12_readPart 40 = .ok (.bipush 9, 2) := by decide +kernel
theorem dX12_readPart_42 : decode cX12_readPart 42 = .ok (.invokevirtual 292, 3) := by decide +kernel
theorem dX12_readPart_45 : decode cX12_readPart 45 = .ok (.goto 66, 3) := by decide +kernel
theorem dX12_readPart_48 : decode cX12_readPart 48 = .ok (.aload_n 0, 1) := by decide +kernel
theorem dX12_readPart_49 : decode cX12_readPart 49 = .ok (.invokevirtual 176, 3) := by decide +kernel
theorem dX12_readPart_52 : decode cX12_readPart 52 = .ok (.ifCond .eq 13, 3) := by decide +kernel
theorem dX12_readPart_55 : decode cX12_readPart 55 = .ok (.aload_n 0, 1) := by decide +kernel
theorem dX12_readPart_56 : decode cX12_readPart 56 = .ok (.iconst 2, 1) := by decide +kernel
theorem dX12_readPart_57 : decode cX12_readPart 57 = .ok (.bipush 16, 2) := by decide +kernel
theorem dX12_readPart_59 : decode cX12_readPart 59 = .ok (.invokevirtual 292, 3) := by decide +kernel
theorem dX12_readPart_62 : decode cX12_readPart 62 = .ok (.goto 49, 3) := by decide +kernel
theorem dX12_readPart_65 : decode cX12_readPart 65 = .ok (.aload_n 0, 1) := by decide +kernel
theorem dX12_readPart_66 : decode cX12_readPart 66 = .ok (.invokevirtual 179, 3) := by decide +kernel
theorem dX12_readPart_69 : decode cX12_readPart 69 = .ok (.ifCond .eq 10, 3) := by decide +kernel
theorem dX12_readPart_72 : decode cX12_readPart 72 = .ok (.aload_n 0, 1) := by decide +kernel
theorem dX12_readPart_73 : decode cX12_readPart 73 = .ok (.invokevirtual 295, 3) := by decide +kernel
theorem dX12_readPart_76 : decode cX12_readPart 76 = .ok (.goto 35, 3) := by decide +kernel
theorem dX12_readPart_79 : decode cX12_readPart 79 = .ok (.aload_n 0, 1) := by decide +kernel
theorem dX12_readPart_80 : decode cX12_readPart 80 = .ok (.invokevirtual 182, 3) := by decide +kernel
theorem dX12_readPart_83 : decode cX12_readPart 83 = .ok (.ifCond .eq 10, 3) := by decide +kernel
theorem dX12_readPart_86 : decode cX12_readPart 86 = .ok (.aload_n 0, 1) := by decide +kernel
theorem dX12_readPart_87 : decode cX12_readPart 87 = .ok (.invokevirtual 298, 3) := by decide +kernel
theorem dX12_readPart_90 : decode cX12_readPart 90 = .ok (.goto 21, 3) := by decide +kernel
theorem dX12_readPart_93 : decode cX12_readPart 93 = .ok (.aload_n 0, 1) := by decide +kernel
theorem dX12_readPart_94 : decode cX12_readPart 94 = .ok (.invokevirtual 194, 3) := by decide +kernel
theorem dX12_readPart_97 : decode cX12_readPart 97 = .ok (.ifCond .eq 10, 3) := by decide +kernel
theorem dX12_readPart_100 : decode cX12_readPart 100 = .ok (.aload_n 0, 1) := by decide +kernel
theorem dX12_readPart_101 : decode cX12_readPart 101 = .ok (.invokevirtual 301, 3) := by decide +kernel
theorem dX12_readPart_104 : decode cX12_readPart 104 = .ok (.goto 7, 3) := by decide +kernel
theorem dX12_readPart_107 : decode cX12_readPart 107 = .ok (.aload_n 0, 1) := by decide +kernel
theorem dX12_readPart_108 : decode cX12_readPart 108 = .ok (.invokevirtual 238, 3) := by decide +kernel
theorem dX12_readPart_111 : decode cX12_readPart 111 = .ok (.return_, 1) := by decide +kernel
theorem dX12_park_0 : decode cX12_park 0 = .ok (.aload_n 0, 1) := by decide +kernel
theorem dX12_park_1 : decode cX12_park 1 = .ok (.iconst 0, 1) := by decide +kernel
theorem dX12_park_2 : decode cX12_park 2 = .ok (.putfield 69, 3) := by decide +kernel
theorem dX12_park_5 : decode cX12_park 5 = .ok (.aload_n 0, 1) := by decide +kernel
theorem dX12_park_6 : decode cX12_park 6 = .ok (.iconst 0, 1) := by decide +kernel
theorem dX12_park_7 : decode cX12_park 7 = .ok (.putfield 72, 3) := by decide +kernel
theorem dX12_park_10 : decode cX12_park 10 = .ok (.aload_n 0, 1) := by decide +kernel
theorem dX12_park_11 : decode cX12_park 11 = .ok (.iload_n 1, 1) := by decide +kernel
theorem dX12_park_12 : decode cX12_park 12 = .ok (.sipush 900, 3) := by decide +kernel
theorem dX12_park_15 : decode cX12_park 15 = .ok (.invokevirtual 304, 3) := by decide +kernel
theorem dX12_park_18 : decode cX12_park 18 = .ok (.ifCond .ne 5, 3) := by decide +kernel
theorem dX12_park_21 : decode cX12_park 21 = .ok (.iconst (-1), 1) := by decide +kernel
theorem dX12_park_22 : decode cX12_park 22 = .ok (.ireturn, 1) := by decide +kernel
theorem dX12_park_23 : decode cX12_park 23 = .ok (.aload_n 0, 1) := by decide +kernel
theorem dX12_park_24 : decode cX12_park 24 = .ok (.iconst 4, 1) := by decide +kernel
theorem dX12_park_25 : decode cX12_park 25 = .ok (.invokevirtual 65, 3) := by decide +kernel
theorem dX12_park_28 : decode cX12_park 28 = .ok (.aload_n 0, 1) := by decide +kernel
theorem dX12_park_29 : decode cX12_park 29 = .ok (.iconst 0, 1) := by decide +kernel
theorem dX12_park_30 : decode cX12_park 30 = .ok (.putfield 266, 3) := by decide +kernel
theorem dX12_park_33 : decode cX12_park 33 = .ok (.aload_n 0, 1) := by decide +kernel
theorem dX12_park_34 : decode cX12_park 34 = .ok (.getfield 225, 3) := by decide +kernel
theorem dX12_park_37 : decode cX12_park 37 = .ok (.ifCond .ne 27, 3) := by decide +kernel
theorem dX12_park_40 : decode cX12_park 40 = .ok (.aload_n 0, 1) := by decide +kernel
theorem dX12_park_41 : decode cX12_park 41 = .ok (.getfield 124, 3) := by decide +kernel
theorem dX12_park_44 : decode cX12_park 44 = .ok (.ifCond .eq 20, 3) := by decide +kernel
theorem dX12_park_47 : decode cX12_park 47 = .ok (.aload_n 0, 1) := by decide +kernel
theorem dX12_park_48 : decode cX12_park 48 = .ok (.invokevirtual 307, 3) := by decide +kernel
theorem dX12_park_51 : decode cX12_park 51 = .ok (.aload_n 0, 1) := by decide +kernel
theorem dX12_park_52 : decode cX12_park 52 = .ok (.aload_n 0, 1) := by decide +kernel
theorem dX12_park_53 : decode cX12_park 53 = .ok (.bipush 59, 2) := by decide +kernel
theorem dX12_park_55 : decode cX12_park 55 = .ok (.invokevirtual 310, 3) := by decide +kernel
theorem dX12_park_58 : decode cX12_park 58 = .ok (.invokevirtual 241, 3) := by decide +kernel
theorem dX12_park_61 : decode cX12_park 61 = .ok (.goto (-28), 3) := by decide +kernel
theorem dX12_park_64 : decode cX12_park 64 = .ok (.aload_n 0, 1) := by decide +kernel
theorem dX12_park_65 : decode cX12_park 65 = .ok (.invokevirtual 313, 3) := by decide +kernel
theorem dX12_park_68 : decode cX12_park 68 = .ok (.ifCond .ne 5, 3) := by decide +kernel
theorem dX12_park_71 : decode cX12_park 71 = .ok (.iconst (-1), 1) := by decide +kernel
theorem dX12_park_72 : decode cX12_park 72 = .ok (.ireturn, 1) := by decide +kernel
theorem dX12_park_73 : decode cX12_park 73 = .ok (.aload_n 0, 1) := by decide +kernel
theorem dX12_park_74 : decode cX12_park 74 = .ok (.iconst 4, 1) := by decide +kernel
theorem dX12_park_75 : decode cX12_park 75 = .ok (.iconst 0, 1) := by decide +kernel
theorem dX12_park_76 : decode cX12_park 76 = .ok (.invokevirtual 316, 3) := by decide +kernel
theorem dX12_park_79 : decode cX12_park 79 = .ok (.aload_n 0, 1) := by decide +kernel
theorem dX12_park_80 : decode cX12_park 80 = .ok (.getfield 35, 3) := by decide +kernel
theorem dX12_park_83 : decode cX12_park 83 = .ok (.iconst 3, 1) := by decide +kernel
theorem dX12_park_84 : decode cX12_park 84 = .ok (.iaload, 1) := by decide +kernel
theorem dX12_park_85 : decode cX12_park 85 = .ok (.ireturn, 1) := by decide +kernel
theorem dX12_readTest_0 : decode cX12_readTest 0 = .ok (.aload_n 0, 1) := by decide +kernel
theorem dX12_readTest_1 : decode cX12_readTest 1 = .ok (.invokevirtual 216, 3) := by decide +kernel
theorem dX12_readTest_4 : decode cX12_readTest 4 = .ok (.istore_n 2, 1) := by decide +kernel
theorem dX12_readTest_5 : decode cX12_readTest 5 = .ok (.aload_n 0, 1) := by decide +kernel
theorem dX12_readTest_6 : decode cX12_readTest 6 = .ok (.iload_n 2, 1) := by decide +kernel
theorem dX12_readTest_7 : decode cX12_readTest 7 = .ok (.ifCond .lt 7, 3) := by decide +kernel
theorem dX12_readTest_10 : decode cX12_readTest 10 = .ok (.iconst 1, 1) := by decide +kernel
theorem dX12_readTest_11 : decode cX12_readTest 11 = .ok (.goto 4, 3) := by decide +kernel
theorem dX12_readTest_14 : decode cX12_readTest 14 = .ok (.iconst 0, 1) := by decide +kernel
theorem dX12_readTest_15 : decode cX12_readTest 15 = .ok (.invokevirtual 241, 3) := by decide +kernel
theorem dX12_readTest_18 : decode cX12_readTest 18 = .ok (.aload_n 0, 1) := by decide +kernel
theorem dX12_readTest_19 : decode cX12_readTest 19 = .ok (.getfield 35, 3) := by decide +kernel
theorem dX12_readTest_22 : decode cX12_readTest 22 = .ok (.iload_n 1, 1) := by decide +kernel
theorem dX12_readTest_23 : decode cX12_readTest 23 = .ok (.bipush 6, 2) := by decide +kernel
theorem dX12_readTest_25 : decode cX12_readTest 25 = .ok (.iadd, 1) := by decide +kernel
theorem dX12_readTest_26 : decode cX12_readTest 26 = .ok (.iload_n 2, 1) := by decide +kernel
theorem dX12_readTest_27 : decode cX12_readTest 27 = .ok (.iastore, 1) := by decide +kernel
theorem dX12_readTest_28 : decode cX12_readTest 28 = .ok (.aload_n 0, 1) := by decide +kernel
theorem dX12_readTest_29 : decode cX12_readTest 29 = .ok (.getfield 225, 3) := by decide +kernel
theorem dX12_readTest_32 : decode cX12_readTest 32 = .ok (.ifCond .gt 8, 3) := by decide +kernel
theorem dX12_readTest_35 : decode cX12_readTest 35 = .ok (.iload_n 2, 1) := by decide +kernel
theorem dX12_readTest_36 : decode cX12_readTest 36 = .ok (.iconst 2, 1) := by decide +kernel
theorem dX12_readTest_37 : decode cX12_readTest 37 = .ok (.if_icmp .ne 4, 3) := by decide +kernel
theorem dX12_readTest_40 : decode cX12_readTest 40 = .ok (.return_, 1) := by decide +kernel
theorem dX12_readTest_41 : decode cX12_readTest 41 = .ok (.aload_n 0, 1) := by decide +kernel
theorem dX12_readTest_42 : decode cX12_readTest 42 = .ok (.getfield 35, 3) := by decide +kernel
theorem dX12_readTest_45 : decode cX12_readTest 45 = .ok (.iload_n 1, 1) := by decide +kernel
theorem dX12_readTest_46 : decode cX12_readTest 46 = .ok (.iconst 1, 1) := by decide +kernel
theorem dX12_readTest_47 : decode cX12_readTest 47 = .ok (.iadd, 1) := by decide +kernel
theorem dX12_readTest_48 : decode cX12_readTest 48 = .ok (.aload_n 0, 1) := by decide +kernel
theorem dX12_readTest_49 : decode cX12_readTest 49 = .ok (.iconst 0, 1) := by decide +kernel
theorem dX12_readTest_50 : decode cX12_readTest 50 = .ok (.iconst 1, 1) := by decide +kernel
theorem dX12_readTest_51 : decode cX12_readTest 51 = .ok (.invokevirtual 319, 3) := by decide +kernel
theorem dX12_readTest_54 : decode cX12_readTest 54 = .ok (.iastore, 1) := by decide +kernel
theorem dX12_readTest_55 : decode cX12_readTest 55 = .ok (.aload_n 0, 1) := by decide +kernel
theorem dX12_readTest_56 : decode cX12_readTest 56 = .ok (.getfield 225, 3) := by decide +kernel
theorem dX12_readTest_59 : decode cX12_readTest 59 = .ok (.ifCond .gt 8, 3) := by decide +kernel
theorem dX12_readTest_62 : decode cX12_readTest 62 = .ok (.iload_n 2, 1) := by decide +kernel
theorem dX12_readTest_63 : decode cX12_readTest 63 = .ok (.iconst 1, 1) := by decide +kernel
theorem dX12_readTest_64 : decode cX12_readTest 64 = .ok (.if_icmp .ne 4, 3) := by decide +kernel
theorem dX12_readTest_67 : decode cX12_readTest 67 = .ok (.return_, 1) := by decide +kernel
theorem dX12_readTest_68 : decode cX12_readTest 68 = .ok (.aload_n 0, 1) := by decide +kernel
theorem dX12_readTest_69 : decode cX12_readTest 69 = .ok (.getfield 35, 3) := by decide +kernel
theorem dX12_readTest_72 : decode cX12_readTest 72 = .ok (.iload_n 1, 1) := by decide +kernel
theorem dX12_readTest_73 : decode cX12_readTest 73 = .ok (.bipush 7, 2) := by decide +kernel
theorem dX12_readTest_75 : decode cX12_readTest 75 = .ok (.iadd, 1) := by decide +kernel
theorem dX12_readTest_76 : decode cX12_readTest 76 = .ok (.aload_n 0, 1) := by decide +kernel
theorem dX12_readTest_77 : decode cX12_readTest 77 = .ok (.getfield 124, 3) := by decide +kernel
theorem dX12_readTest_80 : decode cX12_readTest 80 = .ok (.iconst 3, 1) := by decide +kernel
theorem dX12_readTest_81 : decode cX12_readTest 81 = .ok (.if_icmp .ne 10, 3) := by decide +kernel
theorem dX12_readTest_84 : decode cX12_readTest 84 = .ok (.aload_n 0, 1) := by decide +kernel
theorem dX12_readTest_85 : decode cX12_readTest 85 = .ok (.getfield 143, 3) := by decide +kernel
theorem dX12_readTest_88 : decode cX12_readTest 88 = .ok (.goto 4, 3) := by decide +kernel
theorem dX12_readTest_91 : decode cX12_readTest 91 = .ok (.iconst 0, 1) := by decide +kernel
theorem dX12_readTest_92 : decode cX12_readTest 92 = .ok (.iastore, 1) := by decide +kernel
theorem dX12_readTest_93 : decode cX12_readTest 93 = .ok (.aload_n 0, 1) := by decide +kernel
theorem dX12_readTest_94 : decode cX12_readTest 94 = .ok (.aload_n 0, 1) := by decide +kernel
theorem dX12_readTest_95 : decode cX12_readTest 95 = .ok (.bipush 60, 2) := by decide +kernel
theorem dX12_readTest_97 : decode cX12_readTest 97 = .ok (.invokevirtual 310, 3) := by decide +kernel
theorem dX12_readTest_100 : decode cX12_readTest 100 = .ok (.ifCond .ne 21, 3) := by decide +kernel
theorem dX12_readTest_103 : decode cX12_readTest 103 = .ok (.aload_n 0, 1) := by decide +kernel
theorem dX12_readTest_104 : decode cX12_readTest 104 = .ok (.bipush 62, 2) := by decide +kernel
theorem dX12_readTest_106 : decode cX12_readTest 106 = .ok (.invokevirtual 310, 3) := by decide +kernel
theorem dX12_readTest_109 : decode cX12_readTest 109 = .ok (.ifCond .ne 12, 3) := by decide +kernel
theorem dX12_readTest_112 : decode cX12_readTest 112 = .ok (.aload_n 0, 1) := by decide +kernel
theorem dX12_readTest_113 : decode cX12_readTest 113 = .ok (.bipush 61, 2) := by decide +kernel
theorem dX12_readTest_115 : decode cX12_readTest 115 = .ok (.invokevirtual 310, 3) := by decide +kernel
theorem dX12_readTest_118 : decode cX12_readTest 118 = .ok (.ifCond .eq 7, 3) := by decide +kernel
theorem dX12_readTest_121 : decode cX12_readTest 121 = .ok (.iconst 1, 1) := by decide +kernel
theorem dX12_readTest_122 : decode cX12_readTest 122 = .ok (.goto 4, 3) := by decide +kernel
theorem dX12_readTest_125 : decode cX12_readTest 125 = .ok (.iconst 0, 1) := by decide +kernel
theorem dX12_readTest_126 : decode cX12_readTest 126 = .ok (.invokevirtual 241, 3) := by decide +kernel
theorem dX12_readTest_129 : decode cX12_readTest 129 = .ok (.aload_n 0, 1) := by decide +kernel
theorem dX12_readTest_130 : decode cX12_readTest 130 = .ok (.getfield 35, 3) := by decide +kernel
theorem dX12_readTest_133 : decode cX12_readTest 133 = .ok (.iload_n 1, 1) := by decide +kernel
theorem dX12_readTest_134 : decode cX12_readTest 134 = .ok (.iconst 2, 1) := by decide +kernel
theorem dX12_readTest_135 : decode cX12_readTest 135 = .ok (.iadd, 1) := by decide +kernel
theorem dX12_readTest_136 : decode cX12_readTest 136 = .ok (.aload_n 0, 1) := by decide +kernel
theorem dX12_readTest_137 : decode cX12_readTest 137 = .ok (.iconst 0, 1) := by decide +kernel
theorem dX12_readTest_138 : decode cX12_readTest 138 = .ok (.bipush 30, 2) := by decide +kernel
theorem dX12_readTest_140 : decode cX12_readTest 140 = .ok (.invokevirtual 245, 3) := by decide +kernel
theorem dX12_readTest_143 : decode cX12_readTest 143 = .ok (.iastore, 1) := by decide +kernel
theorem dX12_readTest_144 : decode cX12_readTest 144 = .ok (.return_, 1) := by decide +kernel
theorem dX12_readSet_0 : decode cX12_readSet 0 = .ok (.aload_n 0, 1) := by decide +kernel
theorem dX12_readSet_1 : decode cX12_readSet 1 = .ok (.getfield 35, 3) := by decide +kernel
theorem dX12_readSet_4 : decode cX12_readSet 4 = .ok (.iload_n 1, 1) := by decide +kernel
theorem dX12_readSet_5 : decode cX12_readSet 5 = .ok (.iconst 1, 1) := by decide +kernel
theorem dX12_readSet_6 : decode cX12_readSet 6 = .ok (.iadd, 1) := by decide +kernel
theorem dX12_readSet_7 : decode cX12_readSet 7 = .ok (.aload_n 0, 1) := by decide +kernel
theorem dX12_readSet_8 : decode cX12_readSet 8 = .ok (.iconst 0, 1) := by decide +kernel
theorem dX12_readSet_9 : decode cX12_readSet 9 = .ok (.iconst 1, 1) := by decide +kernel
theorem dX12_readSet_10 : decode cX12_readSet 10 = .ok (.invokevirtual 319, 3) := by decide +kernel
theorem dX12_readSet_13 : decode cX12_readSet 13 = .ok (.iastore, 1) := by decide +kernel
theorem dX12_readSet_14 : decode cX12_readSet 14 = .ok (.aload_n 0, 1) := by decide +kernel
theorem dX12_readSet_15 : decode cX12_readSet 15 = .ok (.getfield 35, 3) := by decide +kernel
theorem dX12_readSet_18 : decode cX12_readSet 18 = .ok (.iload_n 1, 1) := by decide +kernel
theorem dX12_readSet_19 : decode cX12_readSet 19 = .ok (.iconst 2, 1) := by decide +kernel
theorem dX12_readSet_20 : decode cX12_readSet 20 = .ok (.iadd, 1) := by decide +kernel
theorem dX12_readSet_21 : decode cX12_readSet 21 = .ok (.aload_n 0, 1) := by decide +kernel
theorem dX12_readSet_22 : decode cX12_readSet 22 = .ok (.iconst 0, 1) := by decide +kernel
theorem dX12_readSet_23 : decode cX12_readSet 23 = .ok (.iconst 5, 1) := by decide +kernel
theorem dX12_readSet_24 : decode cX12_readSet 24 = .ok (.invokevirtual 245, 3) := by decide +kernel
theorem dX12_readSet_27 : decode cX12_readSet 27 = .ok (.iastore, 1) := by decide +kernel
theorem dX12_readSet_28 : decode cX12_readSet 28 = .ok (.aload_n 0, 1) := by decide +kernel
theorem dX12_readSet_29 : decode cX12_readSet 29 = .ok (.getfield 35, 3) := by decide +kernel
theorem dX12_readSet_32 : decode cX12_readSet 32 = .ok (.iload_n 1, 1) := by decide +kernel
theorem dX12_readSet_33 : decode cX12_readSet 33 = .ok (.iconst 3, 1) := by decide +kernel
theorem dX12_readSet_34 : decode cX12_readSet 34 = .ok (.iadd, 1) := by decide +kernel
theorem dX12_readSet_35 : decode cX12_readSet 35 = .ok (.aload_n 0, 1) := by decide +kernel
theorem dX12_readSet_36 : decode cX12_readSet 36 = .ok (.iconst 0, 1) := by decide +kernel
theorem dX12_readSet_37 : decode cX12_readSet 37 = .ok (.invokevirtual 279, 3) := by decide +kernel
theorem dX12_readSet_40 : decode cX12_readSet 40 = .ok (.iastore, 1) := by decide +kernel
theorem dX12_readSet_41 : decode cX12_readSet 41 = .ok (.aload_n 0, 1) := by decide +kernel
theorem dX12_readSet_42 : decode cX12_readSet 42 = .ok (.iconst 1, 1) := by decide +kernel
theorem dX12_readSet_43 : decode cX12_readSet 43 = .ok (.invokevirtual 241, 3) := by decide +kernel
theorem dX12_readSet_46 : decode cX12_readSet 46 = .ok (.return_, 1) := by decide +kernel
theorem dX12_readRest_0 : decode cX12_readRest 0 = .ok (.aload_n 0, 1) := by decide +kernel
theorem dX12_readRest_1 : decode cX12_readRest 1 = .ok (.getfield 35, 3) := by decide +kernel
theorem dX12_readRest_4 : decode cX12_readRest 4 = .ok (.iload_n 1, 1) := by decide +kernel
theorem dX12_readRest_5 : decode cX12_readRest 5 = .ok (.iaload, 1) := by decide +kernel
theorem dX12_readRest_6 : decode cX12_readRest 6 = .ok (.istore_n 2, 1) := by decide +kernel
theorem dX12_readRest_7 : decode cX12_readRest 7 = .ok (.iload_n 2, 1) := by decide +kernel
theorem dX12_readRest_8 : decode cX12_readRest 8 = .ok (.ifCond .ne 21, 3) := by decide +kernel
theorem dX12_readRest_11 : decode cX12_readRest 11 = .ok (.aload_n 0, 1) := by decide +kernel
theorem dX12_readRest_12 : decode cX12_readRest 12 = .ok (.getfield 35, 3) := by decide +kernel
theorem dX12_readRest_15 : decode cX12_readRest 15 = .ok (.iload_n 1, 1) := by decide +kernel
theorem dX12_readRest_16 : decode cX12_readRest 16 = .ok (.iconst 1, 1) := by decide +kernel
theorem dX12_readRest_17 : decode cX12_readRest 17 = .ok (.iadd, 1) := by decide +kernel
theorem dX12_readRest_18 : decode cX12_readRest 18 = .ok (.aload_n 0, 1) := by decide +kernel
theorem dX12_readRest_19 : decode cX12_readRest 19 = .ok (.iconst 1, 1) := by decide +kernel
theorem dX12_readRest_20 : decode cX12_readRest 20 = .ok (.bipush 20, 2) := by decide +kernel
theorem dX12_readRest_22 : decode cX12_readRest 22 = .ok (.invokevirtual 245, 3) := by decide +kernel
theorem dX12_readRest_25 : decode cX12_readRest 25 = .ok (.iastore, 1) := by decide +kernel
theorem dX12_readRest_26 : decode cX12_readRest 26 = .ok (.goto 73, 3) := by decide +kernel
theorem dX12_readRest_29 : decode cX12_readRest 29 = .ok (.iload_n 2, 1) := by decide +kernel
theorem dX12_readRest_30 : decode cX12_readRest 30 = .ok (.iconst 1, 1) := by decide +kernel
theorem dX12_readRest_31 : decode cX12_readRest 31 = .ok (.if_icmp .ne 20, 3) := by decide +kernel
theorem dX12_readRest_34 : decode cX12_readRest 34 = .ok (.aload_n 0, 1) := by decide +kernel
theorem dX12_readRest_35 : decode cX12_readRest 35 = .ok (.getfield 35, 3) := by decide +kernel
theorem dX12_readRest_38 : decode cX12_readRest 38 = .ok (.iload_n 1, 1) := by decide +kernel
theorem dX12_readRest_39 : decode cX12_readRest 39 = .ok (.iconst 1, 1) := by decide +kernel
theorem dX12_readRest_40 : decode cX12_readRest 40 = .ok (.iadd, 1) := by decide +kernel
theorem dX12_readRest_41 : decode cX12_readRest 41 = .ok (.aload_n 0, 1) := by decide +kernel
theorem dX12_readRest_42 : decode cX12_readRest 42 = .ok (.iconst 0, 1) := by decide +kernel
theorem dX12_readRest_43 : decode cX12_readRest 43 = .ok (.iconst 3, 1) := by decide +kernel
theorem dX12_readRest_44 : decode cX12_readRest 44 = .ok (.invokevirtual 245, 3) := by decide +kernel
theorem dX12_readRest_47 : decode cX12_readRest 47 = .ok (.iastore, 1) := by decide +kernel
theorem dX12_readRest_48 : decode cX12_readRest 48 = .ok (.goto 51, 3) := by decide +kernel
theorem dX12_readRest_51 : decode cX12_readRest 51 = .ok (.iload_n 2, 1) := by decide +kernel
theorem dX12_readRest_52 : decode cX12_readRest 52 = .ok (.bipush 8, 2) := by decide +kernel
theorem dX12_readRest_54 : decode cX12_readRest 54 = .ok (.if_icmp .ne 21, 3) := by decide +kernel
theorem dX12_readRest_57 : decode cX12_readRest 57 = .ok (.aload_n 0, 1) := by decide +kernel
theorem dX12_readRest_58 : decode cX12_readRest 58 = .ok (.getfield 35, 3) := by decide +kernel
theorem dX12_readRest_61 : decode cX12_readRest 61 = .ok (.iload_n 1, 1) := by decide +kernel
theorem dX12_readRest_62 : decode cX12_readRest 62 = .ok (.iconst 1, 1) := by decide +kernel
theorem dX12_readRest_63 : decode cX12_readRest 63 = .ok (.iadd, 1) := by decide +kernel
theorem dX12_readRest_64 : decode cX12_readRest 64 = .ok (.aload_n 0, 1) := by decide +kernel
theorem dX12_readRest_65 : decode cX12_readRest 65 = .ok (.iconst 1, 1) := by decide +kernel
theorem dX12_readRest_66 : decode cX12_readRest 66 = .ok (.bipush 99, 2) := by decide +kernel
theorem dX12_readRest_68 : decode cX12_readRest 68 = .ok (.invokevirtual 245, 3) := by decide +kernel
theorem dX12_readRest_71 : decode cX12_readRest 71 = .ok (.iastore, 1) := by decide +kernel
theorem dX12_readRest_72 : decode cX12_readRest 72 = .ok (.goto 27, 3) := by decide +kernel
theorem dX12_readRest_75 : decode cX12_readRest 75 = .ok (.iload_n 2, 1) := by decide +kernel
theorem dX12_readRest_76 : decode cX12_readRest 76 = .ok (.iconst 5, 1) := by decide +kernel
theorem dX12_readRest_77 : decode cX12_readRest 77 = .ok (.if_icmp .ne 11, 3) := by decide +kernel
theorem dX12_readRest_80 : decode cX12_readRest 80 = .ok (.aload_n 0, 1) := by decide +kernel
theorem dX12_readRest_81 : decode cX12_readRest 81 = .ok (.iload_n 1, 1) := by decide +kernel
theorem dX12_readRest_82 : decode cX12_readRest 82 = .ok (.invokevirtual 322, 3) := by decide +kernel
theorem dX12_readRest_85 : decode cX12_readRest 85 = .ok (.goto 14, 3) := by decide +kernel
theorem dX12_readRest_88 : decode cX12_readRest 88 = .ok (.iload_n 2, 1) := by decide +kernel
theorem dX12_readRest_89 : decode cX12_readRest 89 = .ok (.bipush 7, 2) := by decide +kernel
theorem dX12_readRest_91 : decode cX12_readRest 91 = .ok (.if_icmp .ne 8, 3) := by decide +kernel
theorem dX12_readRest_94 : decode cX12_readRest 94 = .ok (.aload_n 0, 1) := by decide +kernel
theorem dX12_readRest_95 : decode cX12_readRest 95 = .ok (.iload_n 1, 1) := by decide +kernel
theorem dX12_readRest_96 : decode cX12_readRest 96 = .ok (.invokevirtual 325, 3) := by decide +kernel
theorem dX12_readRest_99 : decode cX12_readRest 99 = .ok (.return_, 1) := by decide +kernel
theorem dX12_readStep_0 : decode cX12_readStep 0 = .ok (.aload_n 0, 1) := by decide +kernel
theorem dX12_readStep_1 : decode cX12_readStep 1 = .ok (.invokevirtual 212, 3) := by decide +kernel
theorem dX12_readStep_4 : decode cX12_readStep 4 = .ok (.istore_n 2, 1) := by decide +kernel
theorem dX12_readStep_5 : decode cX12_readStep 5 = .ok (.iload_n 2, 1) := by decide +kernel
theorem dX12_readStep_6 : decode cX12_readStep 6 = .ok (.bipush 7, 2) := by decide +kernel
theorem dX12_readStep_8 : decode cX12_readStep 8 = .ok (.if_icmp .eq 9, 3) := by decide +kernel
theorem dX12_readStep_11 : decode cX12_readStep 11 = .ok (.iload_n 2, 1) := by decide +kernel
theorem dX12_readStep_12 : decode cX12_readStep 12 = .ok (.bipush 8, 2) := by decide +kernel
theorem dX12_readStep_14 : decode cX12_readStep 14 = .ok (.if_icmp .ne 7, 3) := by decide +kernel
theorem dX12_readStep_17 : decode cX12_readStep 17 = .ok (.iconst 1, 1) := by decide +kernel
theorem dX12_readStep_18 : decode cX12_readStep 18 = .ok (.goto 4, 3) := by decide +kernel
theorem dX12_readStep_21 : decode cX12_readStep 21 = .ok (.iconst 0, 1) := by decide +kernel
theorem dX12_readStep_22 : decode cX12_readStep 22 = .ok (.istore_n 3, 1) := by decide +kernel
theorem dX12_readStep_23 : decode cX12_readStep 23 = .ok (.iload_n 2, 1) := by decide +kernel
theorem dX12_readStep_24 : decode cX12_readStep 24 = .ok (.ifCond .ge 7, 3) := by decide +kernel
theorem dX12_readStep_27 : decode cX12_readStep 27 = .ok (.aload_n 0, 1) := by decide +kernel
theorem dX12_readStep_28 : decode cX12_readStep 28 = .ok (.invokevirtual 238, 3) := by decide +kernel
theorem dX12_readStep_31 : decode cX12_readStep 31 = .ok (.aload_n 0, 1) := by decide +kernel
theorem dX12_readStep_32 : decode cX12_readStep 32 = .ok (.getfield 225, 3) := by decide +kernel
theorem dX12_readStep_35 : decode cX12_readStep 35 = .ok (.ifCond .ne 22, 3) := by decide +kernel
theorem dX12_readStep_38 : decode cX12_readStep 38 = .ok (.aload_n 0, 1) := by decide +kernel
theorem dX12_readStep_39 : decode cX12_readStep 39 = .ok (.getfield 328, 3) := by decide +kernel
theorem dX12_readStep_42 : decode cX12_readStep 42 = .ok (.bipush 30, 2) := by decide +kernel
theorem dX12_readStep_44 : decode cX12_readStep 44 = .ok (.if_icmp .ne 13, 3) := by decide +kernel
theorem dX12_readStep_47 : decode cX12_readStep 47 = .ok (.aload_n 0, 1) := by decide +kernel
theorem dX12_readStep_48 : decode cX12_readStep 48 = .ok (.bipush 6, 2) := by decide +kernel
theorem dX12_readStep_50 : decode cX12_readStep 50 = .ok (.aload_n 0, 1) := by decide +kernel
theorem dX12_readStep_51 : decode cX12_readStep 51 = .ok (.getfield 118, 3) := by decide +kernel
theorem dX12_readStep_54 : decode cX12_readStep 54 = .ok (.invokevirtual 231, 3) := by decide +kernel
theorem dX12_readStep_57 : decode cX12_readStep 57 = .ok (.aload_n 0, 1) := by decide +kernel
theorem dX12_readStep_58 : decode cX12_readStep 58 = .ok (.getfield 225, 3) := by decide +kernel
theorem dX12_readStep_61 : decode cX12_readStep 61 = .ok (.ifCond .ne 22, 3) := by decide +kernel
theorem dX12_readStep_64 : decode cX12_readStep 64 = .ok (.iload_n 3, 1) := by decide +kernel
theorem dX12_readStep_65 : decode cX12_readStep 65 = .ok (.ifCond .eq 18, 3) := by decide +kernel
theorem dX12_readStep_68 : decode cX12_readStep 68 = .ok (.iload_n 1, 1) := by decide +kernel
theorem dX12_readStep_69 : decode cX12_readStep 69 = .ok (.iconst 3, 1) := by decide +kernel
theorem dX12_readStep_70 : decode cX12_readStep 70 = .ok (.if_icmp .ne 13, 3) := by decide +kernel
theorem dX12_readStep_73 : decode cX12_readStep 73 = .ok (.aload_n 0, 1) := by decide +kernel
theorem dX12_readStep_74 : decode cX12_readStep 74 = .ok (.bipush 7, 2) := by decide +kernel
theorem dX12_readStep_76 : decode cX12_readStep 76 = .ok (.aload_n 0, 1) := by decide +kernel
theorem dX12_readStep_77 : decode cX12_readStep 77 = .ok (.getfield 118, 3) := by decide +kernel
theorem dX12_readStep_80 : decode cX12_readStep 80 = .ok (.invokevirtual 231, 3) := by decide +kernel
theorem dX12_readStep_83 : decode cX12_readStep 83 = .ok (.aload_n 0, 1) := by decide +kernel
theorem dX12_readStep_84 : decode cX12_readStep 84 = .ok (.getfield 225, 3) := by decide +kernel
theorem dX12_readStep_87 : decode cX12_readStep 87 = .ok (.ifCond .le 4, 3) := by decide +kernel
theorem dX12_readStep_90 : decode cX12_readStep 90 = .ok (.return_, 1) := by decide +kernel
theorem dX12_readStep_91 : decode cX12_readStep 91 = .ok (.sipush 1770, 3) := by decide +kernel
theorem dX12_readStep_94 : decode cX12_readStep 94 = .ok (.bipush 9, 2) := by decide +kernel
theorem dX12_readStep_96 : decode cX12_readStep 96 = .ok (.aload_n 0, 1) := by decide +kernel
theorem dX12_readStep_97 : decode cX12_readStep 97 = .ok (.getfield 328, 3) := by decide +kernel
theorem dX12_readStep_100 : decode cX12_readStep 100 = .ok (.imul, 1) := by decide +kernel
theorem dX12_readStep_101 : decode cX12_readStep 101 = .ok (.iadd, 1) := by decide +kernel
theorem dX12_readStep_102 : decode cX12_readStep 102 = .ok (.istore 4, 2) := by decide +kernel
theorem dX12_readStep_104 : decode cX12_readStep 104 = .ok (.aload_n 0, 1) := by decide +kernel
theorem dX12_readStep_105 : decode cX12_readStep 105 = .ok (.dup, 1) := by decide +kernel
theorem dX12_readStep_106 : decode cX12_readStep 106 = .ok (.getfield 328, 3) := by decide +kernel
theorem dX12_readStep_109 : decode cX12_readStep 109 = .ok (.iconst 1, 1) := by decide +kernel
theorem dX12_readStep_110 : decode cX12_readStep 110 = .ok (.iadd, 1) := by decide +kernel
theorem dX12_readStep_111 : decode cX12_readStep 111 = .ok (.putfield 328, 3) := by decide +kernel
theorem dX12_readStep_114 : decode cX12_readStep 114 = .ok (.aload_n 0, 1) := by decide +kernel
theorem dX12_readStep_115 : decode cX12_readStep 115 = .ok (.invokevirtual 235, 3) := by decide +kernel
theorem dX12_readStep_118 : decode cX12_readStep 118 = .ok (.aload_n 0, 1) := by decide +kernel
theorem dX12_readStep_119 : decode cX12_readStep 119 = .ok (.getfield 35, 3) := by decide +kernel
theorem dX12_readStep_122 : decode cX12_readStep 122 = .ok (.iload 4, 2) := by decide +kernel
theorem dX12_readStep_124 : decode cX12_readStep 124 = .ok (.iload_n 2, 1) := by decide +kernel
theorem dX12_readStep_125 : decode cX12_readStep 125 = .ok (.iastore, 1) := by decide +kernel
theorem dX12_readStep_126 : decode cX12_readStep 126 = .ok (.aload_n 0, 1) := by decide +kernel
theorem dX12_readStep_127 : decode cX12_readStep 127 = .ok (.iload 4, 2) := by decide +kernel
theorem dX12_readStep_129 : decode cX12_readStep 129 = .ok (.invokevirtual 331, 3) := by decide +kernel
theorem dX12_readStep_132 : decode cX12_readStep 132 = .ok (.aload_n 0, 1) := by decide +kernel
theorem dX12_readStep_133 : decode cX12_readStep 133 = .ok (.aload_n 0, 1) := by decide +kernel
theorem dX12_readStep_134 : decode cX12_readStep 134 = .ok (.bipush 59, 2) := by decide +kernel
theorem dX12_readStep_136 : decode cX12_readStep 136 = .ok (.invokevirtual 310, 3) := by decide +kernel
theorem dX12_readStep_139 : decode cX12_readStep 139 = .ok (.invokevirtual 241, 3) := by decide +kernel
theorem dX12_readStep_142 : decode cX12_readStep 142 = .ok (.iload_n 3, 1) := by decide +kernel
theorem dX12_readStep_143 : decode cX12_readStep 143 = .ok (.ifCond .eq 27, 3) := by decide +kernel
theorem dX12_readStep_146 : decode cX12_readStep 146 = .ok (.aload_n 0, 1) := by decide +kernel
theorem dX12_readStep_147 : decode cX12_readStep 147 = .ok (.getfield 225, 3) := by decide +kernel
theorem dX12_readStep_150 : decode cX12_readStep 150 = .ok (.ifCond .ne 20, 3) := by decide +kernel
theorem dX12_readStep_153 : decode cX12_readStep 153 = .ok (.aload_n 0, 1) := by decide +kernel
theorem dX12_readStep_154 : decode cX12_readStep 154 = .ok (.invokevirtual 219, 3) := by decide +kernel
theorem dX12_readStep_157 : decode cX12_readStep 157 = .ok (.ifCond .ne 13, 3) := by decide +kernel
theorem dX12_readStep_160 : decode cX12_readStep 160 = .ok (.aload_n 0, 1) := by decide +kernel
theorem dX12_readStep_161 : decode cX12_readStep 161 = .ok (.iload_n 1, 1) := by decide +kernel
theorem dX12_readStep_162 : decode cX12_readStep 162 = .ok (.iconst 1, 1) := by decide +kernel
theorem dX12_readStep_163 : decode cX12_readStep 163 = .ok (.iadd, 1) := by decide +kernel
theorem dX12_readStep_164 : decode cX12_readStep 164 = .ok (.invokevirtual 334, 3) := by decide +kernel
theorem dX12_readStep_167 : decode cX12_readStep 167 = .ok (.goto (-25), 3) := by decide +kernel
theorem dX12_readStep_170 : decode cX12_readStep 170 = .ok (.iload_n 3, 1) := by decide +kernel
theorem dX12_readStep_171 : decode cX12_readStep 171 = .ok (.ifCond .eq 21, 3) := by decide +kernel
theorem dX12_readStep_174 : decode cX12_readStep 174 = .ok (.aload_n 0, 1) := by decide +kernel
theorem dX12_readStep_175 : decode cX12_readStep 175 = .ok (.aload_n 0, 1) := by decide +kernel
theorem dX12_readStep_176 : decode cX12_readStep 176 = .ok (.invokevirtual 219, 3) := by decide +kernel
theorem dX12_readStep_179 : decode cX12_readStep 179 = .ok (.invokevirtual 241, 3) := by decide +kernel
theorem dX12_readStep_182 : decode cX12_readStep 182 = .ok (.aload_n 0, 1) := by decide +kernel
theorem dX12_readStep_183 : decode cX12_readStep 183 = .ok (.aload_n 0, 1) := by decide +kernel
theorem dX12_readStep_184 : decode cX12_readStep 184 = .ok (.bipush 59, 2) := by decide +kernel
theorem dX12_readStep_186 : decode cX12_readStep 186 = .ok (.invokevirtual 310, 3) := by decide +kernel
theorem dX12_readStep_189 : decode cX12_readStep 189 = .ok (.invokevirtual 241, 3) := by decide +kernel
theorem dX12_readStep_192 : decode cX12_readStep 192 = .ok (.aload_n 0, 1) := by decide +kernel
theorem dX12_readStep_193 : decode cX12_readStep 193 = .ok (.getfield 35, 3) := by decide +kernel
theorem dX12_readStep_196 : decode cX12_readStep 196 = .ok (.iload 4, 2) := by decide +kernel
theorem dX12_readStep_198 : decode cX12_readStep 198 = .ok (.bipush 8, 2) := by decide +kernel
theorem dX12_readStep_200 : decode cX12_readStep 200 = .ok (.iadd, 1) := by decide +kernel
