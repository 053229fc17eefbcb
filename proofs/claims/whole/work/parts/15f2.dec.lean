theorem dX11_together_105 : decode cX11_together 105 = .ok (.goto 9, 3) := by decide +kernel
theorem dX11_together_108 : decode cX11_together 108 = .ok (.aload_n 0, 1) := by decide +kernel
theorem dX11_together_109 : decode cX11_together 109 = .ok (.iload 5, 2) := by decide +kernel
theorem dX11_together_111 : decode cX11_together 111 = .ok (.invokevirtual 174, 3) := by decide +kernel
theorem dX11_together_114 : decode cX11_together 114 = .ok (.ireturn, 1) := by decide +kernel
theorem dX11_fits_0 : decode cX11_fits 0 = .ok (.aload_n 0, 1) := by decide +kernel
theorem dX11_fits_1 : decode cX11_fits 1 = .ok (.iload_n 1, 1) := by decide +kernel
theorem dX11_fits_2 : decode cX11_fits 2 = .ok (.iload_n 2, 1) := by decide +kernel
theorem dX11_fits_3 : decode cX11_fits 3 = .ok (.iload_n 3, 1) := by decide +kernel
theorem dX11_fits_4 : decode cX11_fits 4 = .ok (.invokevirtual 415, 3) := by decide +kernel
theorem dX11_fits_7 : decode cX11_fits 7 = .ok (.istore 4, 2) := by decide +kernel
theorem dX11_fits_9 : decode cX11_fits 9 = .ok (.iload 4, 2) := by decide +kernel
theorem dX11_fits_11 : decode cX11_fits 11 = .ok (.ifCond .eq 10, 3) := by decide +kernel
theorem dX11_fits_14 : decode cX11_fits 14 = .ok (.aload_n 0, 1) := by decide +kernel
theorem dX11_fits_15 : decode cX11_fits 15 = .ok (.iload 4, 2) := by decide +kernel
theorem dX11_fits_17 : decode cX11_fits 17 = .ok (.invokevirtual 120, 3) := by decide +kernel
theorem dX11_fits_20 : decode cX11_fits 20 = .ok (.ireturn, 1) := by decide +kernel
theorem dX11_fits_21 : decode cX11_fits 21 = .ok (.iconst 0, 1) := by decide +kernel
theorem dX11_fits_22 : decode cX11_fits 22 = .ok (.istore 5, 2) := by decide +kernel
theorem dX11_fits_24 : decode cX11_fits 24 = .ok (.iconst 0, 1) := by decide +kernel
theorem dX11_fits_25 : decode cX11_fits 25 = .ok (.istore 6, 2) := by decide +kernel
theorem dX11_fits_27 : decode cX11_fits 27 = .ok (.iload 6, 2) := by decide +kernel
theorem dX11_fits_29 : decode cX11_fits 29 = .ok (.aload_n 0, 1) := by decide +kernel
theorem dX11_fits_30 : decode cX11_fits 30 = .ok (.getfield 25, 3) := by decide +kernel
theorem dX11_fits_33 : decode cX11_fits 33 = .ok (.getfield 40, 3) := by decide +kernel
theorem dX11_fits_36 : decode cX11_fits 36 = .ok (.getfield 255, 3) := by decide +kernel
theorem dX11_fits_39 : decode cX11_fits 39 = .ok (.iload_n 1, 1) := by decide +kernel
theorem dX11_fits_40 : decode cX11_fits 40 = .ok (.aaload, 1) := by decide +kernel
theorem dX11_fits_41 : decode cX11_fits 41 = .ok (.getfield 273, 3) := by decide +kernel
theorem dX11_fits_44 : decode cX11_fits 44 = .ok (.if_icmp .gt 38, 3) := by decide +kernel
theorem dX11_fits_47 : decode cX11_fits 47 = .ok (.aload_n 0, 1) := by decide +kernel
theorem dX11_fits_48 : decode cX11_fits 48 = .ok (.getfield 25, 3) := by decide +kernel
theorem dX11_fits_51 : decode cX11_fits 51 = .ok (.getfield 40, 3) := by decide +kernel
theorem dX11_fits_54 : decode cX11_fits 54 = .ok (.iload_n 1, 1) := by decide +kernel
theorem dX11_fits_55 : decode cX11_fits 55 = .ok (.iload 6, 2) := by decide +kernel
theorem dX11_fits_57 : decode cX11_fits 57 = .ok (.aload_n 0, 1) := by decide +kernel
theorem dX11_fits_58 : decode cX11_fits 58 = .ok (.getfield 11, 3) := by decide +kernel
theorem dX11_fits_61 : decode cX11_fits 61 = .ok (.iload_n 2, 1) := by decide +kernel
theorem dX11_fits_62 : decode cX11_fits 62 = .ok (.aaload, 1) := by decide +kernel
theorem dX11_fits_63 : decode cX11_fits 63 = .ok (.getfield 138, 3) := by decide +kernel
theorem dX11_fits_66 : decode cX11_fits 66 = .ok (.iload_n 3, 1) := by decide +kernel
theorem dX11_fits_67 : decode cX11_fits 67 = .ok (.invokevirtual 418, 3) := by decide +kernel
theorem dX11_fits_70 : decode cX11_fits 70 = .ok (.ifCond .eq 6, 3) := by decide +kernel
theorem dX11_fits_73 : decode cX11_fits 73 = .ok (.iinc 5 1, 3) := by decide +kernel
theorem dX11_fits_76 : decode cX11_fits 76 = .ok (.iinc 6 1, 3) := by decide +kernel
theorem dX11_fits_79 : decode cX11_fits 79 = .ok (.goto (-52), 3) := by decide +kernel
theorem dX11_fits_82 : decode cX11_fits 82 = .ok (.aload_n 0, 1) := by decide +kernel
theorem dX11_fits_83 : decode cX11_fits 83 = .ok (.iload 5, 2) := by decide +kernel
theorem dX11_fits_85 : decode cX11_fits 85 = .ok (.invokevirtual 174, 3) := by decide +kernel
theorem dX11_fits_88 : decode cX11_fits 88 = .ok (.ireturn, 1) := by decide +kernel
theorem dX11_fitsAt_0 : decode cX11_fitsAt 0 = .ok (.aload_n 0, 1) := by decide +kernel
theorem dX11_fitsAt_1 : decode cX11_fitsAt 1 = .ok (.iload_n 1, 1) := by decide +kernel
theorem dX11_fitsAt_2 : decode cX11_fitsAt 2 = .ok (.iload_n 2, 1) := by decide +kernel
theorem dX11_fitsAt_3 : decode cX11_fitsAt 3 = .ok (.iload_n 3, 1) := by decide +kernel
theorem dX11_fitsAt_4 : decode cX11_fitsAt 4 = .ok (.invokevirtual 415, 3) := by decide +kernel
theorem dX11_fitsAt_7 : decode cX11_fitsAt 7 = .ok (.istore 5, 2) := by decide +kernel
theorem dX11_fitsAt_9 : decode cX11_fitsAt 9 = .ok (.iload 5, 2) := by decide +kernel
theorem dX11_fitsAt_11 : decode cX11_fitsAt 11 = .ok (.ifCond .ne 17, 3) := by decide +kernel
theorem dX11_fitsAt_14 : decode cX11_fitsAt 14 = .ok (.iload 4, 2) := by decide +kernel
theorem dX11_fitsAt_16 : decode cX11_fitsAt 16 = .ok (.ifCond .eq 12, 3) := by decide +kernel
theorem dX11_fitsAt_19 : decode cX11_fitsAt 19 = .ok (.iload 4, 2) := by decide +kernel
theorem dX11_fitsAt_21 : decode cX11_fitsAt 21 = .ok (.iconst 1, 1) := by decide +kernel
theorem dX11_fitsAt_22 : decode cX11_fitsAt 22 = .ok (.if_icmp .eq 6, 3) := by decide +kernel
theorem dX11_fitsAt_25 : decode cX11_fitsAt 25 = .ok (.iconst 5, 1) := by decide +kernel
theorem dX11_fitsAt_26 : decode cX11_fitsAt 26 = .ok (.istore 5, 2) := by decide +kernel
theorem dX11_fitsAt_28 : decode cX11_fitsAt 28 = .ok (.iload 5, 2) := by decide +kernel
theorem dX11_fitsAt_30 : decode cX11_fitsAt 30 = .ok (.ifCond .eq 10, 3) := by decide +kernel
theorem dX11_fitsAt_33 : decode cX11_fitsAt 33 = .ok (.aload_n 0, 1) := by decide +kernel
theorem dX11_fitsAt_34 : decode cX11_fitsAt 34 = .ok (.iload 5, 2) := by decide +kernel
theorem dX11_fitsAt_36 : decode cX11_fitsAt 36 = .ok (.invokevirtual 120, 3) := by decide +kernel
theorem dX11_fitsAt_39 : decode cX11_fitsAt 39 = .ok (.ireturn, 1) := by decide +kernel
theorem dX11_fitsAt_40 : decode cX11_fitsAt 40 = .ok (.iconst (-1), 1) := by decide +kernel
theorem dX11_fitsAt_41 : decode cX11_fitsAt 41 = .ok (.istore 6, 2) := by decide +kernel
theorem dX11_fitsAt_43 : decode cX11_fitsAt 43 = .ok (.iconst 0, 1) := by decide +kernel
theorem dX11_fitsAt_44 : decode cX11_fitsAt 44 = .ok (.istore 7, 2) := by decide +kernel
theorem dX11_fitsAt_46 : decode cX11_fitsAt 46 = .ok (.iload 7, 2) := by decide +kernel
theorem dX11_fitsAt_48 : decode cX11_fitsAt 48 = .ok (.aload_n 0, 1) := by decide +kernel
theorem dX11_fitsAt_49 : decode cX11_fitsAt 49 = .ok (.getfield 25, 3) := by decide +kernel
theorem dX11_fitsAt_52 : decode cX11_fitsAt 52 = .ok (.getfield 40, 3) := by decide +kernel
theorem dX11_fitsAt_55 : decode cX11_fitsAt 55 = .ok (.getfield 255, 3) := by decide +kernel
theorem dX11_fitsAt_58 : decode cX11_fitsAt 58 = .ok (.iload_n 1, 1) := by decide +kernel
theorem dX11_fitsAt_59 : decode cX11_fitsAt 59 = .ok (.aaload, 1) := by decide +kernel
theorem dX11_fitsAt_60 : decode cX11_fitsAt 60 = .ok (.getfield 273, 3) := by decide +kernel
theorem dX11_fitsAt_63 : decode cX11_fitsAt 63 = .ok (.if_icmp .gt 63, 3) := by decide +kernel
theorem dX11_fitsAt_66 : decode cX11_fitsAt 66 = .ok (.iload 4, 2) := by decide +kernel
theorem dX11_fitsAt_68 : decode cX11_fitsAt 68 = .ok (.iconst 1, 1) := by decide +kernel
theorem dX11_fitsAt_69 : decode cX11_fitsAt 69 = .ok (.if_icmp .eq 9, 3) := by decide +kernel
theorem dX11_fitsAt_72 : decode cX11_fitsAt 72 = .ok (.iload 6, 2) := by decide +kernel
theorem dX11_fitsAt_74 : decode cX11_fitsAt 74 = .ok (.iconst (-1), 1) := by decide +kernel
theorem dX11_fitsAt_75 : decode cX11_fitsAt 75 = .ok (.if_icmp .ne 7, 3) := by decide +kernel
theorem dX11_fitsAt_78 : decode cX11_fitsAt 78 = .ok (.iconst 1, 1) := by decide +kernel
theorem dX11_fitsAt_79 : decode cX11_fitsAt 79 = .ok (.goto 4, 3) := by decide +kernel
theorem dX11_fitsAt_82 : decode cX11_fitsAt 82 = .ok (.iconst 0, 1) := by decide +kernel
theorem dX11_fitsAt_83 : decode cX11_fitsAt 83 = .ok (.istore 8, 2) := by decide +kernel
theorem dX11_fitsAt_85 : decode cX11_fitsAt 85 = .ok (.iload 8, 2) := by decide +kernel
theorem dX11_fitsAt_87 : decode cX11_fitsAt 87 = .ok (.ifCond .eq 33, 3) := by decide +kernel
theorem dX11_fitsAt_90 : decode cX11_fitsAt 90 = .ok (.aload_n 0, 1) := by decide +kernel
theorem dX11_fitsAt_91 : decode cX11_fitsAt 91 = .ok (.getfield 25, 3) := by decide +kernel
theorem dX11_fitsAt_94 : decode cX11_fitsAt 94 = .ok (.getfield 40, 3) := by decide +kernel
theorem dX11_fitsAt_97 : decode cX11_fitsAt 97 = .ok (.iload_n 1, 1) := by decide +kernel
theorem dX11_fitsAt_98 : decode cX11_fitsAt 98 = .ok (.iload 7, 2) := by decide +kernel
theorem dX11_fitsAt_100 : decode cX11_fitsAt 100 = .ok (.aload_n 0, 1) := by decide +kernel
theorem dX11_fitsAt_101 : decode cX11_fitsAt 101 = .ok (.getfield 11, 3) := by decide +kernel
theorem dX11_fitsAt_104 : decode cX11_fitsAt 104 = .ok (.iload_n 2, 1) := by decide +kernel
theorem dX11_fitsAt_105 : decode cX11_fitsAt 105 = .ok (.aaload, 1) := by decide +kernel
theorem dX11_fitsAt_106 : decode cX11_fitsAt 106 = .ok (.getfield 138, 3) := by decide +kernel
theorem dX11_fitsAt_109 : decode cX11_fitsAt 109 = .ok (.iload_n 3, 1) := by decide +kernel
theorem dX11_fitsAt_110 : decode cX11_fitsAt 110 = .ok (.invokevirtual 418, 3) := by decide +kernel
theorem dX11_fitsAt_113 : decode cX11_fitsAt 113 = .ok (.ifCond .eq 7, 3) := by decide +kernel
theorem dX11_fitsAt_116 : decode cX11_fitsAt 116 = .ok (.iload 7, 2) := by decide +kernel
theorem dX11_fitsAt_118 : decode cX11_fitsAt 118 = .ok (.istore 6, 2) := by decide +kernel
theorem dX11_fitsAt_120 : decode cX11_fitsAt 120 = .ok (.iinc 7 1, 3) := by decide +kernel
theorem dX11_fitsAt_123 : decode cX11_fitsAt 123 = .ok (.goto (-77), 3) := by decide +kernel
theorem dX11_fitsAt_126 : decode cX11_fitsAt 126 = .ok (.iload 6, 2) := by decide +kernel
theorem dX11_fitsAt_128 : decode cX11_fitsAt 128 = .ok (.iconst (-1), 1) := by decide +kernel
theorem dX11_fitsAt_129 : decode cX11_fitsAt 129 = .ok (.if_icmp .ne 12, 3) := by decide +kernel
theorem dX11_fitsAt_132 : decode cX11_fitsAt 132 = .ok (.aload_n 0, 1) := by decide +kernel
theorem dX11_fitsAt_133 : decode cX11_fitsAt 133 = .ok (.bipush 8, 2) := by decide +kernel
theorem dX11_fitsAt_135 : decode cX11_fitsAt 135 = .ok (.invokevirtual 120, 3) := by decide +kernel
theorem dX11_fitsAt_138 : decode cX11_fitsAt 138 = .ok (.goto 9, 3) := by decide +kernel
theorem dX11_fitsAt_141 : decode cX11_fitsAt 141 = .ok (.aload_n 0, 1) := by decide +kernel
theorem dX11_fitsAt_142 : decode cX11_fitsAt 142 = .ok (.iload 6, 2) := by decide +kernel
theorem dX11_fitsAt_144 : decode cX11_fitsAt 144 = .ok (.invokevirtual 174, 3) := by decide +kernel
theorem dX11_fitsAt_147 : decode cX11_fitsAt 147 = .ok (.ireturn, 1) := by decide +kernel
theorem dX11_quiet_0 : decode cX11_quiet 0 = .ok (.aload_n 0, 1) := by decide +kernel
theorem dX11_quiet_1 : decode cX11_quiet 1 = .ok (.getfield 25, 3) := by decide +kernel
theorem dX11_quiet_4 : decode cX11_quiet 4 = .ok (.getfield 40, 3) := by decide +kernel
theorem dX11_quiet_7 : decode cX11_quiet 7 = .ok (.iload_n 1, 1) := by decide +kernel
theorem dX11_quiet_8 : decode cX11_quiet 8 = .ok (.iload_n 2, 1) := by decide +kernel
theorem dX11_quiet_9 : decode cX11_quiet 9 = .ok (.invokevirtual 285, 3) := by decide +kernel
theorem dX11_quiet_12 : decode cX11_quiet 12 = .ok (.istore 5, 2) := by decide +kernel
theorem dX11_quiet_14 : decode cX11_quiet 14 = .ok (.aload_n 0, 1) := by decide +kernel
theorem dX11_quiet_15 : decode cX11_quiet 15 = .ok (.getfield 25, 3) := by decide +kernel
theorem dX11_quiet_18 : decode cX11_quiet 18 = .ok (.getfield 40, 3) := by decide +kernel
theorem dX11_quiet_21 : decode cX11_quiet 21 = .ok (.iload_n 3, 1) := by decide +kernel
theorem dX11_quiet_22 : decode cX11_quiet 22 = .ok (.iload 4, 2) := by decide +kernel
theorem dX11_quiet_24 : decode cX11_quiet 24 = .ok (.invokevirtual 285, 3) := by decide +kernel
theorem dX11_quiet_27 : decode cX11_quiet 27 = .ok (.istore 6, 2) := by decide +kernel
theorem dX11_quiet_29 : decode cX11_quiet 29 = .ok (.iload 5, 2) := by decide +kernel
theorem dX11_quiet_31 : decode cX11_quiet 31 = .ok (.iconst (-1), 1) := by decide +kernel
theorem dX11_quiet_32 : decode cX11_quiet 32 = .ok (.if_icmp .eq 9, 3) := by decide +kernel
theorem dX11_quiet_35 : decode cX11_quiet 35 = .ok (.iload 6, 2) := by decide +kernel
theorem dX11_quiet_37 : decode cX11_quiet 37 = .ok (.iconst (-1), 1) := by decide +kernel
theorem dX11_quiet_38 : decode cX11_quiet 38 = .ok (.if_icmp .ne 9, 3) := by decide +kernel
theorem dX11_quiet_41 : decode cX11_quiet 41 = .ok (.aload_n 0, 1) := by decide +kernel
theorem dX11_quiet_42 : decode cX11_quiet 42 = .ok (.iconst 2, 1) := by decide +kernel
theorem dX11_quiet_43 : decode cX11_quiet 43 = .ok (.invokevirtual 120, 3) := by decide +kernel
theorem dX11_quiet_46 : decode cX11_quiet 46 = .ok (.ireturn, 1) := by decide +kernel
theorem dX11_quiet_47 : decode cX11_quiet 47 = .ok (.aload_n 0, 1) := by decide +kernel
theorem dX11_quiet_48 : decode cX11_quiet 48 = .ok (.aload_n 0, 1) := by decide +kernel
theorem dX11_quiet_49 : decode cX11_quiet 49 = .ok (.getfield 57, 3) := by decide +kernel
theorem dX11_quiet_52 : decode cX11_quiet 52 = .ok (.aload_n 0, 1) := by decide +kernel
theorem dX11_quiet_53 : decode cX11_quiet 53 = .ok (.getfield 25, 3) := by decide +kernel
theorem dX11_quiet_56 : decode cX11_quiet 56 = .ok (.iload 5, 2) := by decide +kernel
theorem dX11_quiet_58 : decode cX11_quiet 58 = .ok (.iload 6, 2) := by decide +kernel
theorem dX11_quiet_60 : decode cX11_quiet 60 = .ok (.invokevirtual 422, 3) := by decide +kernel
theorem dX11_quiet_63 : decode cX11_quiet 63 = .ok (.invokevirtual 174, 3) := by decide +kernel
theorem dX11_quiet_66 : decode cX11_quiet 66 = .ok (.ireturn, 1) := by decide +kernel
theorem dX11_quietSteps_0 : decode cX11_quietSteps 0 = .ok (.aload_n 0, 1) := by decide +kernel
theorem dX11_quietSteps_1 : decode cX11_quietSteps 1 = .ok (.getfield 25, 3) := by decide +kernel
theorem dX11_quietSteps_4 : decode cX11_quietSteps 4 = .ok (.getfield 40, 3) := by decide +kernel
theorem dX11_quietSteps_7 : decode cX11_quietSteps 7 = .ok (.iload_n 1, 1) := by decide +kernel
theorem dX11_quietSteps_8 : decode cX11_quietSteps 8 = .ok (.iload_n 2, 1) := by decide +kernel
theorem dX11_quietSteps_9 : decode cX11_quietSteps 9 = .ok (.invokevirtual 285, 3) := by decide +kernel
theorem dX11_quietSteps_12 : decode cX11_quietSteps 12 = .ok (.istore 5, 2) := by decide +kernel
theorem dX11_quietSteps_14 : decode cX11_quietSteps 14 = .ok (.aload_n 0, 1) := by decide +kernel
theorem dX11_quietSteps_15 : decode cX11_quietSteps 15 = .ok (.getfield 25, 3) := by decide +kernel
theorem dX11_quietSteps_18 : decode cX11_quietSteps 18 = .ok (.getfield 40, 3) := by decide +kernel
theorem dX11_quietSteps_21 : decode cX11_quietSteps 21 = .ok (.iload_n 3, 1) := by decide +kernel
theorem dX11_quietSteps_22 : decode cX11_quietSteps 22 = .ok (.iload 4, 2) := by decide +kernel
theorem dX11_quietSteps_24 : decode cX11_quietSteps 24 = .ok (.invokevirtual 285, 3) := by decide +kernel
theorem dX11_quietSteps_27 : decode cX11_quietSteps 27 = .ok (.istore 6, 2) := by decide +kernel
theorem dX11_quietSteps_29 : decode cX11_quietSteps 29 = .ok (.iload 5, 2) := by decide +kernel
theorem dX11_quietSteps_31 : decode cX11_quietSteps 31 = .ok (.iconst (-1), 1) := by decide +kernel
theorem dX11_quietSteps_32 : decode cX11_quietSteps 32 = .ok (.if_icmp .eq 9, 3) := by decide +kernel
theorem dX11_quietSteps_35 : decode cX11_quietSteps 35 = .ok (.iload 6, 2) := by decide +kernel
theorem dX11_quietSteps_37 : decode cX11_quietSteps 37 = .ok (.iconst (-1), 1) := by decide +kernel
theorem dX11_quietSteps_38 : decode cX11_quietSteps 38 = .ok (.if_icmp .ne 9, 3) := by decide +kernel
theorem dX11_quietSteps_41 : decode cX11_quietSteps 41 = .ok (.aload_n 0, 1) := by decide +kernel
theorem dX11_quietSteps_42 : decode cX11_quietSteps 42 = .ok (.iconst 2, 1) := by decide +kernel
theorem dX11_quietSteps_43 : decode cX11_quietSteps 43 = .ok (.invokevirtual 120, 3) := by decide +kernel
theorem dX11_quietSteps_46 : decode cX11_quietSteps 46 = .ok (.ireturn, 1) := by decide +kernel
theorem dX11_quietSteps_47 : decode cX11_quietSteps 47 = .ok (.aload_n 0, 1) := by decide +kernel
theorem dX11_quietSteps_48 : decode cX11_quietSteps 48 = .ok (.getfield 57, 3) := by decide +kernel
theorem dX11_quietSteps_51 : decode cX11_quietSteps 51 = .ok (.aload_n 0, 1) := by decide +kernel
theorem dX11_quietSteps_52 : decode cX11_quietSteps 52 = .ok (.getfield 25, 3) := by decide +kernel
theorem dX11_quietSteps_55 : decode cX11_quietSteps 55 = .ok (.iload 5, 2) := by decide +kernel
theorem dX11_quietSteps_57 : decode cX11_quietSteps 57 = .ok (.iload 6, 2) := by decide +kernel
theorem dX11_quietSteps_59 : decode cX11_quietSteps 59 = .ok (.invokevirtual 422, 3) := by decide +kernel
theorem dX11_quietSteps_62 : decode cX11_quietSteps 62 = .ok (.istore 7, 2) := by decide +kernel
theorem dX11_quietSteps_64 : decode cX11_quietSteps 64 = .ok (.aload_n 0, 1) := by decide +kernel
theorem dX11_quietSteps_65 : decode cX11_quietSteps 65 = .ok (.aload_n 0, 1) := by decide +kernel
theorem dX11_quietSteps_66 : decode cX11_quietSteps 66 = .ok (.getfield 57, 3) := by decide +kernel
theorem dX11_quietSteps_69 : decode cX11_quietSteps 69 = .ok (.aload_n 0, 1) := by decide +kernel
theorem dX11_quietSteps_70 : decode cX11_quietSteps 70 = .ok (.getfield 25, 3) := by decide +kernel
theorem dX11_quietSteps_73 : decode cX11_quietSteps 73 = .ok (.getfield 40, 3) := by decide +kernel
theorem dX11_quietSteps_76 : decode cX11_quietSteps 76 = .ok (.iload 5, 2) := by decide +kernel
theorem dX11_quietSteps_78 : decode cX11_quietSteps 78 = .ok (.iload 6, 2) := by decide +kernel
theorem dX11_quietSteps_80 : decode cX11_quietSteps 80 = .ok (.iload 7, 2) := by decide +kernel
theorem dX11_quietSteps_82 : decode cX11_quietSteps 82 = .ok (.invokevirtual 425, 3) := by decide +kernel
theorem dX11_quietSteps_85 : decode cX11_quietSteps 85 = .ok (.invokevirtual 174, 3) := by decide +kernel
theorem dX11_quietSteps_88 : decode cX11_quietSteps 88 = .ok (.ireturn, 1) := by decide +kernel
theorem dX11_wet_0 : decode cX11_wet 0 = .ok (.iload_n 1, 1) := by decide +kernel
theorem dX11_wet_1 : decode cX11_wet 1 = .ok (.ifCond .lt 19, 3) := by decide +kernel
theorem dX11_wet_4 : decode cX11_wet 4 = .ok (.iload_n 1, 1) := by decide +kernel
theorem dX11_wet_5 : decode cX11_wet 5 = .ok (.bipush 12, 2) := by decide +kernel
theorem dX11_wet_7 : decode cX11_wet 7 = .ok (.if_icmp .gt 13, 3) := by decide +kernel
theorem dX11_wet_10 : decode cX11_wet 10 = .ok (.iload_n 2, 1) := by decide +kernel
theorem dX11_wet_11 : decode cX11_wet 11 = .ok (.ifCond .lt 9, 3) := by decide +kernel
theorem dX11_wet_14 : decode cX11_wet 14 = .ok (.iload_n 2, 1) := by decide +kernel
theorem dX11_wet_15 : decode cX11_wet 15 = .ok (.bipush 12, 2) := by decide +kernel
theorem dX11_wet_17 : decode cX11_wet 17 = .ok (.if_icmp .le 9, 3) := by decide +kernel
theorem dX11_wet_20 : decode cX11_wet 20 = .ok (.aload_n 0, 1) := by decide +kernel
theorem dX11_wet_21 : decode cX11_wet 21 = .ok (.iconst 5, 1) := by decide +kernel
theorem dX11_wet_22 : decode cX11_wet 22 = .ok (.invokevirtual 101, 3) := by decide +kernel
theorem dX11_wet_25 : decode cX11_wet 25 = .ok (.ireturn, 1) := by decide +kernel
theorem dX11_wet_26 : decode cX11_wet 26 = .ok (.lconst 0, 1) := by decide +kernel
theorem dX11_wet_27 : decode cX11_wet 27 = .ok (.lstore_n 3, 1) := by decide +kernel
theorem dX11_wet_28 : decode cX11_wet 28 = .ok (.iload_n 2, 1) := by decide +kernel
theorem dX11_wet_29 : decode cX11_wet 29 = .ok (.istore 5, 2) := by decide +kernel
theorem dX11_wet_31 : decode cX11_wet 31 = .ok (.iload 5, 2) := by decide +kernel
theorem dX11_wet_33 : decode cX11_wet 33 = .ok (.iload_n 1, 1) := by decide +kernel
theorem dX11_wet_34 : decode cX11_wet 34 = .ok (.if_icmp .gt 61, 3) := by decide +kernel
theorem dX11_wet_37 : decode cX11_wet 37 = .ok (.aload_n 0, 1) := by decide +kernel
theorem dX11_wet_38 : decode cX11_wet 38 = .ok (.getfield 25, 3) := by decide +kernel
theorem dX11_wet_41 : decode cX11_wet 41 = .ok (.getfield 40, 3) := by decide +kernel
theorem dX11_wet_44 : decode cX11_wet 44 = .ok (.getfield 209, 3) := by decide +kernel
theorem dX11_wet_47 : decode cX11_wet 47 = .ok (.i2l, 1) := by decide +kernel
theorem dX11_wet_48 : decode cX11_wet 48 = .ok (.iload 5, 2) := by decide +kernel
theorem dX11_wet_50 : decode cX11_wet 50 = .ok (.invokestatic 429, 3) := by decide +kernel
theorem dX11_wet_53 : decode cX11_wet 53 = .ok (.bipush 16, 2) := by decide +kernel
theorem dX11_wet_55 : decode cX11_wet 55 = .ok (.aload_n 0, 1) := by decide +kernel
theorem dX11_wet_56 : decode cX11_wet 56 = .ok (.getfield 25, 3) := by decide +kernel
theorem dX11_wet_59 : decode cX11_wet 59 = .ok (.getfield 40, 3) := by decide +kernel
theorem dX11_wet_62 : decode cX11_wet 62 = .ok (.getfield 209, 3) := by decide +kernel
theorem dX11_wet_65 : decode cX11_wet 65 = .ok (.isub, 1) := by decide +kernel
theorem dX11_wet_66 : decode cX11_wet 66 = .ok (.i2l, 1) := by decide +kernel
theorem dX11_wet_67 : decode cX11_wet 67 = .ok (.iload_n 1, 1) := by decide +kernel
theorem dX11_wet_68 : decode cX11_wet 68 = .ok (.iload 5, 2) := by decide +kernel
theorem dX11_wet_70 : decode cX11_wet 70 = .ok (.isub, 1) := by decide +kernel
theorem dX11_wet_71 : decode cX11_wet 71 = .ok (.invokestatic 429, 3) := by decide +kernel
theorem dX11_wet_74 : decode cX11_wet 74 = .ok (.lmul, 1) := by decide +kernel
theorem dX11_wet_75 : decode cX11_wet 75 = .ok (.lstore 6, 2) := by decide +kernel
theorem dX11_wet_77 : decode cX11_wet 77 = .ok (.lload_n 3, 1) := by decide +kernel
theorem dX11_wet_78 : decode cX11_wet 78 = .ok (.iload_n 1, 1) := by decide +kernel
theorem dX11_wet_79 : decode cX11_wet 79 = .ok (.iload 5, 2) := by decide +kernel
theorem dX11_wet_81 : decode cX11_wet 81 = .ok (.invokestatic 433, 3) := by decide +kernel
theorem dX11_wet_84 : decode cX11_wet 84 = .ok (.lload 6, 2) := by decide +kernel
theorem dX11_wet_86 : decode cX11_wet 86 = .ok (.lmul, 1) := by decide +kernel
theorem dX11_wet_87 : decode cX11_wet 87 = .ok (.ladd, 1) := by decide +kernel
theorem dX11_wet_88 : decode cX11_wet 88 = .ok (.lstore_n 3, 1) := by decide +kernel
theorem dX11_wet_89 : decode cX11_wet 89 = .ok (.iinc 5 1, 3) := by decide +kernel
theorem dX11_wet_92 : decode cX11_wet 92 = .ok (.goto (-61), 3) := by decide +kernel
theorem dX11_wet_95 : decode cX11_wet 95 = .ok (.aload_n 0, 1) := by decide +kernel
theorem dX11_wet_96 : decode cX11_wet 96 = .ok (.lload_n 3, 1) := by decide +kernel
theorem dX11_wet_97 : decode cX11_wet 97 = .ok (.ldc2_w 437, 3) := by decide +kernel
theorem dX11_wet_100 : decode cX11_wet 100 = .ok (.iload_n 1, 1) := by decide +kernel
theorem dX11_wet_101 : decode cX11_wet 101 = .ok (.invokestatic 429, 3) := by decide +kernel
theorem dX11_wet_104 : decode cX11_wet 104 = .ok (.invokevirtual 345, 3) := by decide +kernel
theorem dX11_wet_107 : decode cX11_wet 107 = .ok (.ireturn, 1) := by decide +kernel
theorem dX11_live_0 : decode cX11_live 0 = .ok (.iload_n 1, 1) := by decide +kernel
theorem dX11_live_1 : decode cX11_live 1 = .ok (.ifCond .lt 10, 3) := by decide +kernel
theorem dX11_live_4 : decode cX11_live 4 = .ok (.iload_n 1, 1) := by decide +kernel
theorem dX11_live_5 : decode cX11_live 5 = .ok (.sipush 9999, 3) := by decide +kernel
theorem dX11_live_8 : decode cX11_live 8 = .ok (.if_icmp .le 9, 3) := by decide +kernel
theorem dX11_live_11 : decode cX11_live 11 = .ok (.aload_n 0, 1) := by decide +kernel
theorem dX11_live_12 : decode cX11_live 12 = .ok (.iconst 5, 1) := by decide +kernel
theorem dX11_live_13 : decode cX11_live 13 = .ok (.invokevirtual 120, 3) := by decide +kernel
theorem dX11_live_16 : decode cX11_live 16 = .ok (.ireturn, 1) := by decide +kernel
theorem dX11_live_17 : decode cX11_live 17 = .ok (.aload_n 0, 1) := by decide +kernel
theorem dX11_live_18 : decode cX11_live 18 = .ok (.getfield 25, 3) := by decide +kernel
theorem dX11_live_21 : decode cX11_live 21 = .ok (.getfield 40, 3) := by decide +kernel
theorem dX11_live_24 : decode cX11_live 24 = .ok (.getfield 180, 3) := by decide +kernel
theorem dX11_live_27 : decode cX11_live 27 = .ok (.getfield 439, 3) := by decide +kernel
theorem dX11_live_30 : decode cX11_live 30 = .ok (.ifCond .ne 10, 3) := by decide +kernel
theorem dX11_live_33 : decode cX11_live 33 = .ok (.aload_n 0, 1) := by decide +kernel
theorem dX11_live_34 : decode cX11_live 34 = .ok (.bipush 8, 2) := by decide +kernel
theorem dX11_live_36 : decode cX11_live 36 = .ok (.invokevirtual 120, 3) := by decide +kernel
theorem dX11_live_39 : decode cX11_live 39 = .ok (.ireturn, 1) := by decide +kernel
theorem dX11_live_40 : decode cX11_live 40 = .ok (.aload_n 0, 1) := by decide +kernel
theorem dX11_live_41 : decode cX11_live 41 = .ok (.getfield 25, 3) := by decide +kernel
theorem dX11_live_44 : decode cX11_live 44 = .ok (.iload_n 1, 1) := by decide +kernel
theorem dX11_live_45 : decode cX11_live 45 = .ok (.invokevirtual 440, 3) := by decide +kernel
theorem dX11_live_48 : decode cX11_live 48 = .ok (.aload_n 0, 1) := by decide +kernel
theorem dX11_live_49 : decode cX11_live 49 = .ok (.getfield 25, 3) := by decide +kernel
theorem dX11_live_52 : decode cX11_live 52 = .ok (.iconst 0, 1) := by decide +kernel
theorem dX11_live_53 : decode cX11_live 53 = .ok (.aload_n 0, 1) := by decide +kernel
theorem dX11_live_54 : decode cX11_live 54 = .ok (.getfield 25, 3) := by decide +kernel
theorem dX11_live_57 : decode cX11_live 57 = .ok (.getfield 40, 3) := by decide +kernel
theorem dX11_live_60 : decode cX11_live 60 = .ok (.getfield 180, 3) := by decide +kernel
theorem dX11_live_63 : decode cX11_live 63 = .ok (.getfield 191, 3) := by decide +kernel
theorem dX11_live_66 : decode cX11_live 66 = .ok (.iconst 0, 1) := by decide +kernel
theorem dX11_live_67 : decode cX11_live 67 = .ok (.invokestatic 443, 3) := by decide +kernel
theorem dX11_live_70 : decode cX11_live 70 = .ok (.aload_n 0, 1) := by decide +kernel
theorem dX11_live_71 : decode cX11_live 71 = .ok (.getfield 25, 3) := by decide +kernel
theorem dX11_live_74 : decode cX11_live 74 = .ok (.aload_n 0, 1) := by decide +kernel
theorem dX11_live_75 : decode cX11_live 75 = .ok (.getfield 67, 3) := by decide +kernel
theorem dX11_live_78 : decode cX11_live 78 = .ok (.invokevirtual 447, 3) := by decide +kernel
theorem dX11_live_81 : decode cX11_live 81 = .ok (.aload_n 0, 1) := by decide +kernel
theorem dX11_live_82 : decode cX11_live 82 = .ok (.iconst 1, 1) := by decide +kernel
theorem dX11_live_83 : decode cX11_live 83 = .ok (.putfield 71, 3) := by decide +kernel
theorem dX11_live_86 : decode cX11_live 86 = .ok (.aload_n 0, 1) := by decide +kernel
theorem dX11_live_87 : decode cX11_live 87 = .ok (.aload_n 0, 1) := by decide +kernel
theorem dX11_live_88 : decode cX11_live 88 = .ok (.getfield 25, 3) := by decide +kernel
theorem dX11_live_91 : decode cX11_live 91 = .ok (.getfield 451, 3) := by decide +kernel
theorem dX11_live_94 : decode cX11_live 94 = .ok (.invokevirtual 174, 3) := by decide +kernel
theorem dX11_live_97 : decode cX11_live 97 = .ok (.ireturn, 1) := by decide +kernel
theorem dX11_lived_0 : decode cX11_lived 0 = .ok (.iload_n 1, 1) := by decide +kernel
theorem dX11_lived_1 : decode cX11_lived 1 = .ok (.ifCond .lt 8, 3) := by decide +kernel
theorem dX11_lived_4 : decode cX11_lived 4 = .ok (.iload_n 1, 1) := by decide +kernel
theorem dX11_lived_5 : decode cX11_lived 5 = .ok (.iconst 5, 1) := by decide +kernel
theorem dX11_lived_6 : decode cX11_lived 6 = .ok (.if_icmp .lt 9, 3) := by decide +kernel
theorem dX11_lived_9 : decode cX11_lived 9 = .ok (.aload_n 0, 1) := by decide +kernel
theorem dX11_lived_10 : decode cX11_lived 10 = .ok (.iconst 5, 1) := by decide +kernel
theorem dX11_lived_11 : decode cX11_lived 11 = .ok (.invokevirtual 120, 3) := by decide +kernel
theorem dX11_lived_14 : decode cX11_lived 14 = .ok (.ireturn, 1) := by decide +kernel
theorem dX11_lived_15 : decode cX11_lived 15 = .ok (.aload_n 0, 1) := by decide +kernel
theorem dX11_lived_16 : decode cX11_lived 16 = .ok (.getfield 71, 3) := by decide +kernel
theorem dX11_lived_19 : decode cX11_lived 19 = .ok (.ifCond .ne 10, 3) := by decide +kernel
theorem dX11_lived_22 : decode cX11_lived 22 = .ok (.aload_n 0, 1) := by decide +kernel
theorem dX11_lived_23 : decode cX11_lived 23 = .ok (.bipush 8, 2) := by decide +kernel
theorem dX11_lived_25 : decode cX11_lived 25 = .ok (.invokevirtual 120, 3) := by decide +kernel
theorem dX11_lived_28 : decode cX11_lived 28 = .ok (.ireturn, 1) := by decide +kernel
theorem dX11_lived_29 : decode cX11_lived 29 = .ok (.aload_n 0, 1) := by decide +kernel
theorem dX11_lived_30 : decode cX11_lived 30 = .ok (.aload_n 0, 1) := by decide +kernel
theorem dX11_lived_31 : decode cX11_lived 31 = .ok (.getfield 67, 3) := by decide +kernel
theorem dX11_lived_34 : decode cX11_lived 34 = .ok (.iload_n 1, 1) := by decide +kernel
theorem dX11_lived_35 : decode cX11_lived 35 = .ok (.iaload, 1) := by decide +kernel
theorem dX11_lived_36 : decode cX11_lived 36 = .ok (.invokevirtual 174, 3) := by decide +kernel
theorem dX11_lived_39 : decode cX11_lived 39 = .ok (.ireturn, 1) := by decide +kernel
theorem dX11_mean_0 : decode cX11_mean 0 = .ok (.aload_n 0, 1) := by decide +kernel
theorem dX11_mean_1 : decode cX11_mean 1 = .ok (.getfield 25, 3) := by decide +kernel
theorem dX11_mean_4 : decode cX11_mean 4 = .ok (.getfield 40, 3) := by decide +kernel
theorem dX11_mean_7 : decode cX11_mean 7 = .ok (.iload_n 1, 1) := by decide +kernel
theorem dX11_mean_8 : decode cX11_mean 8 = .ok (.invokevirtual 252, 3) := by decide +kernel
theorem dX11_mean_11 : decode cX11_mean 11 = .ok (.ifCond .ne 9, 3) := by decide +kernel
theorem dX11_mean_14 : decode cX11_mean 14 = .ok (.aload_n 0, 1) := by decide +kernel
theorem dX11_mean_15 : decode cX11_mean 15 = .ok (.iconst 2, 1) := by decide +kernel
theorem dX11_mean_16 : decode cX11_mean 16 = .ok (.invokevirtual 101, 3) := by decide +kernel
theorem dX11_mean_19 : decode cX11_mean 19 = .ok (.ireturn, 1) := by decide +kernel
theorem dX11_mean_20 : decode cX11_mean 20 = .ok (.iload_n 3, 1) := by decide +kernel
theorem dX11_mean_21 : decode cX11_mean 21 = .ok (.iconst 1, 1) := by decide +kernel
theorem dX11_mean_22 : decode cX11_mean 22 = .ok (.if_icmp .lt 24, 3) := by decide +kernel
theorem dX11_mean_25 : decode cX11_mean 25 = .ok (.iload_n 3, 1) := by decide +kernel
theorem dX11_mean_26 : decode cX11_mean 26 = .ok (.bipush 20, 2) := by decide +kernel
theorem dX11_mean_28 : decode cX11_mean 28 = .ok (.if_icmp .gt 18, 3) := by decide +kernel
theorem dX11_mean_31 : decode cX11_mean 31 = .ok (.iload_n 2, 1) := by decide +kernel
theorem dX11_mean_32 : decode cX11_mean 32 = .ok (.ifCond .lt 14, 3) := by decide +kernel
theorem dX11_mean_35 : decode cX11_mean 35 = .ok (.iload_n 2, 1) := by decide +kernel
theorem dX11_mean_36 : decode cX11_mean 36 = .ok (.sipush 9999, 3) := by decide +kernel
theorem dX11_mean_39 : decode cX11_mean 39 = .ok (.iload_n 3, 1) := by decide +kernel
theorem dX11_mean_40 : decode cX11_mean 40 = .ok (.isub, 1) := by decide +kernel
theorem dX11_mean_41 : decode cX11_mean 41 = .ok (.iconst 1, 1) := by decide +kernel
theorem dX11_mean_42 : decode cX11_mean 42 = .ok (.iadd, 1) := by decide +kernel
theorem dX11_mean_43 : decode cX11_mean 43 = .ok (.if_icmp .le 9, 3) := by decide +kernel
theorem dX11_mean_46 : decode cX11_mean 46 = .ok (.aload_n 0, 1) := by decide +kernel
theorem dX11_mean_47 : decode cX11_mean 47 = .ok (.iconst 5, 1) := by decide +kernel
theorem dX11_mean_48 : decode cX11_mean 48 = .ok (.invokevirtual 101, 3) := by decide +kernel
theorem dX11_mean_51 : decode cX11_mean 51 = .ok (.ireturn, 1) := by decide +kernel
theorem dX11_mean_52 : decode cX11_mean 52 = .ok (.aload_n 0, 1) := by decide +kernel
theorem dX11_mean_53 : decode cX11_mean 53 = .ok (.getfield 25, 3) := by decide +kernel
theorem dX11_mean_56 : decode cX11_mean 56 = .ok (.getfield 40, 3) := by decide +kernel
theorem dX11_mean_59 : decode cX11_mean 59 = .ok (.getfield 180, 3) := by decide +kernel
theorem dX11_mean_62 : decode cX11_mean 62 = .ok (.getfield 439, 3) := by decide +kernel
theorem dX11_mean_65 : decode cX11_mean 65 = .ok (.ifCond .ne 10, 3) := by decide +kernel
theorem dX11_mean_68 : decode cX11_mean 68 = .ok (.aload_n 0, 1) := by decide +kernel
theorem dX11_mean_69 : decode cX11_mean 69 = .ok (.bipush 8, 2) := by decide +kernel
theorem dX11_mean_71 : decode cX11_mean 71 = .ok (.invokevirtual 101, 3) := by decide +kernel
theorem dX11_mean_74 : decode cX11_mean 74 = .ok (.ireturn, 1) := by decide +kernel
theorem dX11_mean_75 : decode cX11_mean 75 = .ok (.lconst 0, 1) := by decide +kernel
theorem dX11_mean_76 : decode cX11_mean 76 = .ok (.lstore 4, 2) := by decide +kernel
theorem dX11_mean_78 : decode cX11_mean 78 = .ok (.iconst 0, 1) := by decide +kernel
theorem dX11_mean_79 : decode cX11_mean 79 = .ok (.istore 6, 2) := by decide +kernel
theorem dX11_mean_81 : decode cX11_mean 81 = .ok (.iload 6, 2) := by decide +kernel
theorem dX11_mean_83 : decode cX11_mean 83 = .ok (.iload_n 3, 1) := by decide +kernel
theorem dX11_mean_84 : decode cX11_mean 84 = .ok (.if_icmp .ge 68, 3) := by decide +kernel
theorem dX11_mean_87 : decode cX11_mean 87 = .ok (.aload_n 0, 1) := by decide +kernel
theorem dX11_mean_88 : decode cX11_mean 88 = .ok (.iconst 0, 1) := by decide +kernel
theorem dX11_mean_89 : decode cX11_mean 89 = .ok (.invokevirtual 358, 3) := by decide +kernel
theorem dX11_mean_92 : decode cX11_mean 92 = .ok (.aload_n 0, 1) := by decide +kernel
theorem dX11_mean_93 : decode cX11_mean 93 = .ok (.getfield 51, 3) := by decide +kernel
theorem dX11_mean_96 : decode cX11_mean 96 = .ok (.iload_n 2, 1) := by decide +kernel
theorem dX11_mean_97 : decode cX11_mean 97 = .ok (.iload 6, 2) := by decide +kernel
theorem dX11_mean_99 : decode cX11_mean 99 = .ok (.iadd, 1) := by decide +kernel
theorem dX11_mean_100 : decode cX11_mean 100 = .ok (.invokevirtual 440, 3) := by decide +kernel
theorem dX11_mean_103 : decode cX11_mean 103 = .ok (.aload_n 0, 1) := by decide +kernel
theorem dX11_mean_104 : decode cX11_mean 104 = .ok (.getfield 51, 3) := by decide +kernel
theorem dX11_mean_107 : decode cX11_mean 107 = .ok (.iconst 0, 1) := by decide +kernel
theorem dX11_mean_108 : decode cX11_mean 108 = .ok (.aload_n 0, 1) := by decide +kernel
theorem dX11_mean_109 : decode cX11_mean 109 = .ok (.getfield 51, 3) := by decide +kernel
theorem dX11_mean_112 : decode cX11_mean 112 = .ok (.getfield 40, 3) := by decide +kernel
theorem dX11_mean_115 : decode cX11_mean 115 = .ok (.getfield 180, 3) := by decide +kernel
theorem dX11_mean_118 : decode cX11_mean 118 = .ok (.getfield 191, 3) := by decide +kernel
theorem dX11_mean_121 : decode cX11_mean 121 = .ok (.iconst 0, 1) := by decide +kernel
theorem dX11_mean_122 : decode cX11_mean 122 = .ok (.invokestatic 443, 3) := by decide +kernel
theorem dX11_mean_125 : decode cX11_mean 125 = .ok (.lload 4, 2) := by decide +kernel
theorem dX11_mean_127 : decode cX11_mean 127 = .ok (.aload_n 0, 1) := by decide +kernel
theorem dX11_mean_128 : decode cX11_mean 128 = .ok (.getfield 51, 3) := by decide +kernel
theorem dX11_mean_131 : decode cX11_mean 131 = .ok (.getfield 40, 3) := by decide +kernel
theorem dX11_mean_134 : decode cX11_mean 134 = .ok (.getfield 255, 3) := by decide +kernel
theorem dX11_mean_137 : decode cX11_mean 137 = .ok (.iload_n 1, 1) := by decide +kernel
theorem dX11_mean_138 : decode cX11_mean 138 = .ok (.aaload, 1) := by decide +kernel
theorem dX11_mean_139 : decode cX11_mean 139 = .ok (.getfield 276, 3) := by decide +kernel
theorem dX11_mean_142 : decode cX11_mean 142 = .ok (.i2l, 1) := by decide +kernel
theorem dX11_mean_143 : decode cX11_mean 143 = .ok (.ladd, 1) := by decide +kernel
theorem dX11_mean_144 : decode cX11_mean 144 = .ok (.lstore 4, 2) := by decide +kernel
theorem dX11_mean_146 : decode cX11_mean 146 = .ok (.iinc 6 1, 3) := by decide +kernel
theorem dX11_mean_149 : decode cX11_mean 149 = .ok (.goto (-68), 3) := by decide +kernel
theorem dX11_mean_152 : decode cX11_mean 152 = .ok (.aload_n 0, 1) := by decide +kernel
theorem dX11_mean_153 : decode cX11_mean 153 = .ok (.lload 4, 2) := by decide +kernel
theorem dX11_mean_155 : decode cX11_mean 155 = .ok (.iload_n 3, 1) := by decide +kernel
theorem dX11_mean_156 : decode cX11_mean 156 = .ok (.i2l, 1) := by decide +kernel
theorem dX11_mean_157 : decode cX11_mean 157 = .ok (.invokevirtual 345, 3) := by decide +kernel
theorem dX11_mean_160 : decode cX11_mean 160 = .ok (.ireturn, 1) := by decide +kernel
theorem dX11_mark_0 : decode cX11_mark 0 = .ok (.aload_n 0, 1) := by decide +kernel
theorem dX11_mark_1 : decode cX11_mark 1 = .ok (.getfield 75, 3) := by decide +kernel
theorem dX11_mark_4 : decode cX11_mark 4 = .ok (.iconst 3, 1) := by decide +kernel
theorem dX11_mark_5 : decode cX11_mark 5 = .ok (.if_icmp .lt 10, 3) := by decide +kernel
theorem dX11_mark_8 : decode cX11_mark 8 = .ok (.aload_n 0, 1) := by decide +kernel
theorem dX11_mark_9 : decode cX11_mark 9 = .ok (.bipush 7, 2) := by decide +kernel
theorem dX11_mark_11 : decode cX11_mark 11 = .ok (.invokevirtual 120, 3) := by decide +kernel
theorem dX11_mark_14 : decode cX11_mark 14 = .ok (.ireturn, 1) := by decide +kernel
theorem dX11_mark_15 : decode cX11_mark 15 = .ok (.aload_n 0, 1) := by decide +kernel
theorem dX11_mark_16 : decode cX11_mark 16 = .ok (.getfield 63, 3) := by decide +kernel
theorem dX11_mark_19 : decode cX11_mark 19 = .ok (.aload_n 0, 1) := by decide +kernel
theorem dX11_mark_20 : decode cX11_mark 20 = .ok (.getfield 75, 3) := by decide +kernel
theorem dX11_mark_23 : decode cX11_mark 23 = .ok (.aaload, 1) := by decide +kernel
theorem dX11_mark_24 : decode cX11_mark 24 = .ok (.aload_n 0, 1) := by decide +kernel
theorem dX11_mark_25 : decode cX11_mark 25 = .ok (.getfield 25, 3) := by decide +kernel
theorem dX11_mark_28 : decode cX11_mark 28 = .ok (.getfield 40, 3) := by decide +kernel
theorem dX11_mark_31 : decode cX11_mark 31 = .ok (.invokevirtual 167, 3) := by decide +kernel
theorem dX11_mark_34 : decode cX11_mark 34 = .ok (.aload_n 0, 1) := by decide +kernel
theorem dX11_mark_35 : decode cX11_mark 35 = .ok (.dup, 1) := by decide +kernel
theorem dX11_mark_36 : decode cX11_mark 36 = .ok (.getfield 75, 3) := by decide +kernel
theorem dX11_mark_39 : decode cX11_mark 39 = .ok (.iconst 1, 1) := by decide +kernel
theorem dX11_mark_40 : decode cX11_mark 40 = .ok (.iadd, 1) := by decide +kernel
theorem dX11_mark_41 : decode cX11_mark 41 = .ok (.putfield 75, 3) := by decide +kernel
theorem dX11_mark_44 : decode cX11_mark 44 = .ok (.aload_n 0, 1) := by decide +kernel
theorem dX11_mark_45 : decode cX11_mark 45 = .ok (.aload_n 0, 1) := by decide +kernel
theorem dX11_mark_46 : decode cX11_mark 46 = .ok (.getfield 75, 3) := by decide +kernel
theorem dX11_mark_49 : decode cX11_mark 49 = .ok (.invokevirtual 174, 3) := by decide +kernel
theorem dX11_mark_52 : decode cX11_mark 52 = .ok (.ireturn, 1) := by decide +kernel
theorem dX11_back_0 : decode cX11_back 0 = .ok (.aload_n 0, 1) := by decide +kernel
theorem dX11_back_1 : decode cX11_back 1 = .ok (.getfield 75, 3) := by decide +kernel
theorem dX11_back_4 : decode cX11_back 4 = .ok (.ifCond .gt 10, 3) := by decide +kernel
theorem dX11_back_7 : decode cX11_back 7 = .ok (.aload_n 0, 1) := by decide +kernel
theorem dX11_back_8 : decode cX11_back 8 = .ok (.bipush 8, 2) := by decide +kernel
theorem dX11_back_10 : decode cX11_back 10 = .ok (.invokevirtual 120, 3) := by decide +kernel
theorem dX11_back_13 : decode cX11_back 13 = .ok (.ireturn, 1) := by decide +kernel
theorem dX11_back_14 : decode cX11_back 14 = .ok (.aload_n 0, 1) := by decide +kernel
theorem dX11_back_15 : decode cX11_back 15 = .ok (.dup, 1) := by decide +kernel
theorem dX11_back_16 : decode cX11_back 16 = .ok (.getfield 75, 3) := by decide +kernel
theorem dX11_back_19 : decode cX11_back 19 = .ok (.iconst 1, 1) := by decide +kernel
theorem dX11_back_20 : decode cX11_back 20 = .ok (.isub, 1) := by decide +kernel
theorem dX11_back_21 : decode cX11_back 21 = .ok (.putfield 75, 3) := by decide +kernel
theorem dX11_back_24 : decode cX11_back 24 = .ok (.aload_n 0, 1) := by decide +kernel
theorem dX11_back_25 : decode cX11_back 25 = .ok (.getfield 25, 3) := by decide +kernel
theorem dX11_back_28 : decode cX11_back 28 = .ok (.getfield 40, 3) := by decide +kernel
theorem dX11_back_31 : decode cX11_back 31 = .ok (.aload_n 0, 1) := by decide +kernel
theorem dX11_back_32 : decode cX11_back 32 = .ok (.getfield 63, 3) := by decide +kernel
theorem dX11_back_35 : decode cX11_back 35 = .ok (.aload_n 0, 1) := by decide +kernel
theorem dX11_back_36 : decode cX11_back 36 = .ok (.getfield 75, 3) := by decide +kernel
theorem dX11_back_39 : decode cX11_back 39 = .ok (.aaload, 1) := by decide +kernel
theorem dX11_back_40 : decode cX11_back 40 = .ok (.invokevirtual 167, 3) := by decide +kernel
theorem dX11_back_43 : decode cX11_back 43 = .ok (.aload_n 0, 1) := by decide +kernel
theorem dX11_back_44 : decode cX11_back 44 = .ok (.aload_n 0, 1) := by decide +kernel
theorem dX11_back_45 : decode cX11_back 45 = .ok (.getfield 75, 3) := by decide +kernel
theorem dX11_back_48 : decode cX11_back 48 = .ok (.invokevirtual 174, 3) := by decide +kernel
theorem dX11_back_51 : decode cX11_back 51 = .ok (.ireturn, 1) := by decide +kernel
theorem dX11_yes_0 : decode cX11_yes 0 = .ok (.aload_n 0, 1) := by decide +kernel
theorem dX11_yes_1 : decode cX11_yes 1 = .ok (.iconst 0, 1) := by decide +kernel
theorem dX11_yes_2 : decode cX11_yes 2 = .ok (.putfield 79, 3) := by decide +kernel
theorem dX11_yes_5 : decode cX11_yes 5 = .ok (.iload_n 1, 1) := by decide +kernel
theorem dX11_yes_6 : decode cX11_yes 6 = .ok (.ireturn, 1) := by decide +kernel
theorem dX11_no_0 : decode cX11_no 0 = .ok (.aload_n 0, 1) := by decide +kernel
theorem dX11_no_1 : decode cX11_no 1 = .ok (.iload_n 1, 1) := by decide +kernel
theorem dX11_no_2 : decode cX11_no 2 = .ok (.putfield 79, 3) := by decide +kernel
theorem dX11_no_5 : decode cX11_no 5 = .ok (.iconst (-1), 1) := by decide +kernel
theorem dX11_no_6 : decode cX11_no 6 = .ok (.ireturn, 1) := by decide +kernel
theorem dX11_agree_0 : decode cX11_agree 0 = .ok (.aload_n 0, 1) := by decide +kernel
theorem dX11_agree_1 : decode cX11_agree 1 = .ok (.iconst 0, 1) := by decide +kernel
theorem dX11_agree_2 : decode cX11_agree 2 = .ok (.putfield 79, 3) := by decide +kernel
theorem dX11_agree_5 : decode cX11_agree 5 = .ok (.iconst 1, 1) := by decide +kernel
theorem dX11_agree_6 : decode cX11_agree 6 = .ok (.ireturn, 1) := by decide +kernel
theorem dX11_refuse_0 : decode cX11_refuse 0 = .ok (.aload_n 0, 1) := by decide +kernel
theorem dX11_refuse_1 : decode cX11_refuse 1 = .ok (.iload_n 1, 1) := by decide +kernel
theorem dX11_refuse_2 : decode cX11_refuse 2 = .ok (.putfield 79, 3) := by decide +kernel
theorem dX11_refuse_5 : decode cX11_refuse 5 = .ok (.iconst 0, 1) := by decide +kernel
theorem dX11_refuse_6 : decode cX11_refuse 6 = .ok (.ireturn, 1) := by decide +kernel
theorem dX11_tellHolder_0 : decode cX11_tellHolder 0 = .ok (.iload_n 1, 1) := by decide +kernel
theorem dX11_tellHolder_1 : decode cX11_tellHolder 1 = .ok (.iconst (-1), 1) := by decide +kernel
theorem dX11_tellHolder_2 : decode cX11_tellHolder 2 = .ok (.if_icmp .ne 10, 3) := by decide +kernel
theorem dX11_tellHolder_5 : decode cX11_tellHolder 5 = .ok (.aload_n 0, 1) := by decide +kernel
theorem dX11_tellHolder_6 : decode cX11_tellHolder 6 = .ok (.bipush 8, 2) := by decide +kernel
theorem dX11_tellHolder_8 : decode cX11_tellHolder 8 = .ok (.invokevirtual 120, 3) := by decide +kernel
theorem dX11_tellHolder_11 : decode cX11_tellHolder 11 = .ok (.ireturn, 1) := by decide +kernel
theorem dX11_tellHolder_12 : decode cX11_tellHolder 12 = .ok (.iload_n 1, 1) := by decide +kernel
theorem dX11_tellHolder_13 : decode cX11_tellHolder 13 = .ok (.bipush (-2), 2) := by decide +kernel
theorem dX11_tellHolder_15 : decode cX11_tellHolder 15 = .ok (.if_icmp .ne 12, 3) := by decide +kernel
theorem dX11_tellHolder_18 : decode cX11_tellHolder 18 = .ok (.aload_n 0, 1) := by decide +kernel
theorem dX11_tellHolder_19 : decode cX11_tellHolder 19 = .ok (.bipush 9, 2) := by decide +kernel
theorem dX11_tellHolder_21 : decode cX11_tellHolder 21 = .ok (.invokevirtual 120, 3) := by decide +kernel
theorem dX11_tellHolder_24 : decode cX11_tellHolder 24 = .ok (.goto 8, 3) := by decide +kernel
theorem dX11_tellHolder_27 : decode cX11_tellHolder 27 = .ok (.aload_n 0, 1) := by decide +kernel
theorem dX11_tellHolder_28 : decode cX11_tellHolder 28 = .ok (.iload_n 1, 1) := by decide +kernel
theorem dX11_tellHolder_29 : decode cX11_tellHolder 29 = .ok (.invokevirtual 174, 3) := by decide +kernel
theorem dX11_tellHolder_32 : decode cX11_tellHolder 32 = .ok (.ireturn, 1) := by decide +kernel
theorem dX11_tellFraction_0 : decode cX11_tellFraction 0 = .ok (.lload_n 1, 1) := by decide +kernel
theorem dX11_tellFraction_1 : decode cX11_tellFraction 1 = .ok (.lload_n 3, 1) := by decide +kernel
theorem dX11_tellFraction_2 : decode cX11_tellFraction 2 = .ok (.invokestatic 454, 3) := by decide +kernel
theorem dX11_tellFraction_5 : decode cX11_tellFraction 5 = .ok (.lstore 5, 2) := by decide +kernel
theorem dX11_tellFraction_7 : decode cX11_tellFraction 7 = .ok (.lload 5, 2) := by decide +kernel
theorem dX11_tellFraction_9 : decode cX11_tellFraction 9 = .ok (.lconst 0, 1) := by decide +kernel
theorem dX11_tellFraction_10 : decode cX11_tellFraction 10 = .ok (.lcmp, 1) := by decide +kernel
theorem dX11_tellFraction_11 : decode cX11_tellFraction 11 = .ok (.ifCond .gt 10, 3) := by decide +kernel
theorem dX11_tellFraction_14 : decode cX11_tellFraction 14 = .ok (.aload_n 0, 1) := by decide +kernel
theorem dX11_tellFraction_15 : decode cX11_tellFraction 15 = .ok (.bipush 9, 2) := by decide +kernel
theorem dX11_tellFraction_17 : decode cX11_tellFraction 17 = .ok (.invokevirtual 101, 3) := by decide +kernel
theorem dX11_tellFraction_20 : decode cX11_tellFraction 20 = .ok (.ireturn, 1) := by decide +kernel
theorem dX11_tellFraction_21 : decode cX11_tellFraction 21 = .ok (.aload_n 0, 1) := by decide +kernel
theorem dX11_tellFraction_22 : decode cX11_tellFraction 22 = .ok (.lload_n 1, 1) := by decide +kernel
theorem dX11_tellFraction_23 : decode cX11_tellFraction 23 = .ok (.lload 5, 2) := by decide +kernel
theorem dX11_tellFraction_25 : decode cX11_tellFraction 25 = .ok (.ldiv, 1) := by decide +kernel
theorem dX11_tellFraction_26 : decode cX11_tellFraction 26 = .ok (.putfield 88, 3) := by decide +kernel
theorem dX11_tellFraction_29 : decode cX11_tellFraction 29 = .ok (.aload_n 0, 1) := by decide +kernel
theorem dX11_tellFraction_30 : decode cX11_tellFraction 30 = .ok (.lload_n 3, 1) := by decide +kernel
theorem dX11_tellFraction_31 : decode cX11_tellFraction 31 = .ok (.lload 5, 2) := by decide +kernel
theorem dX11_tellFraction_33 : decode cX11_tellFraction 33 = .ok (.ldiv, 1) := by decide +kernel
theorem dX11_tellFraction_34 : decode cX11_tellFraction 34 = .ok (.putfield 92, 3) := by decide +kernel
theorem dX11_tellFraction_37 : decode cX11_tellFraction 37 = .ok (.aload_n 0, 1) := by decide +kernel
theorem dX11_tellFraction_38 : decode cX11_tellFraction 38 = .ok (.invokevirtual 108, 3) := by decide +kernel
theorem dX11_tellFraction_41 : decode cX11_tellFraction 41 = .ok (.ireturn, 1) := by decide +kernel
theorem dX11_keepFault_0 : decode cX11_keepFault 0 = .ok (.aload_n 0, 1) := by decide +kernel
theorem dX11_keepFault_1 : decode cX11_keepFault 1 = .ok (.aload_n 0, 1) := by decide +kernel
theorem dX11_keepFault_2 : decode cX11_keepFault 2 = .ok (.getfield 18, 3) := by decide +kernel
theorem dX11_keepFault_5 : decode cX11_keepFault 5 = .ok (.getfield 458, 3) := by decide +kernel
theorem dX11_keepFault_8 : decode cX11_keepFault 8 = .ok (.putfield 82, 3) := by decide +kernel
theorem dX11_keepFault_11 : decode cX11_keepFault 11 = .ok (.aload_n 0, 1) := by decide +kernel
theorem dX11_keepFault_12 : decode cX11_keepFault 12 = .ok (.aload_n 0, 1) := by decide +kernel
theorem dX11_keepFault_13 : decode cX11_keepFault 13 = .ok (.getfield 18, 3) := by decide +kernel
theorem dX11_keepFault_16 : decode cX11_keepFault 16 = .ok (.getfield 461, 3) := by decide +kernel
theorem dX11_keepFault_19 : decode cX11_keepFault 19 = .ok (.putfield 85, 3) := by decide +kernel
theorem dX11_keepFault_22 : decode cX11_keepFault 22 = .ok (.aload_n 0, 1) := by decide +kernel
theorem dX11_keepFault_23 : decode cX11_keepFault 23 = .ok (.getfield 18, 3) := by decide +kernel
theorem dX11_keepFault_26 : decode cX11_keepFault 26 = .ok (.iconst 0, 1) := by decide +kernel
theorem dX11_keepFault_27 : decode cX11_keepFault 27 = .ok (.putfield 155, 3) := by decide +kernel
theorem dX11_keepFault_30 : decode cX11_keepFault 30 = .ok (.return_, 1) := by decide +kernel
theorem dX11_lookAhead_0 : decode cX11_lookAhead 0 = .ok (.aload_n 0, 1) := by decide +kernel
theorem dX11_lookAhead_1 : decode cX11_lookAhead 1 = .ok (.getfield 51, 3) := by decide +kernel
theorem dX11_lookAhead_4 : decode cX11_lookAhead 4 = .ok (.getfield 40, 3) := by decide +kernel
theorem dX11_lookAhead_7 : decode cX11_lookAhead 7 = .ok (.aload_n 0, 1) := by decide +kernel
theorem dX11_lookAhead_8 : decode cX11_lookAhead 8 = .ok (.getfield 25, 3) := by decide +kernel
theorem dX11_lookAhead_11 : decode cX11_lookAhead 11 = .ok (.getfield 40, 3) := by decide +kernel
theorem dX11_lookAhead_14 : decode cX11_lookAhead 14 = .ok (.invokevirtual 167, 3) := by decide +kernel
theorem dX11_lookAhead_17 : decode cX11_lookAhead 17 = .ok (.aload_n 0, 1) := by decide +kernel
theorem dX11_lookAhead_18 : decode cX11_lookAhead 18 = .ok (.getfield 51, 3) := by decide +kernel
theorem dX11_lookAhead_21 : decode cX11_lookAhead 21 = .ok (.iload_n 1, 1) := by decide +kernel
theorem dX11_lookAhead_22 : decode cX11_lookAhead 22 = .ok (.invokevirtual 292, 3) := by decide +kernel
theorem dX11_lookAhead_25 : decode cX11_lookAhead 25 = .ok (.pop, 1) := by decide +kernel
theorem dX11_lookAhead_26 : decode cX11_lookAhead 26 = .ok (.return_, 1) := by decide +kernel
theorem dX11_isTray_0 : decode cX11_isTray 0 = .ok (.iload_n 0, 1) := by decide +kernel
theorem dX11_isTray_1 : decode cX11_isTray 1 = .ok (.ifCond .lt 12, 3) := by decide +kernel
theorem dX11_isTray_4 : decode cX11_isTray 4 = .ok (.iload_n 0, 1) := by decide +kernel
theorem dX11_isTray_5 : decode cX11_isTray 5 = .ok (.iconst 4, 1) := by decide +kernel
theorem dX11_isTray_6 : decode cX11_isTray 6 = .ok (.if_icmp .ge 7, 3) := by decide +kernel
theorem dX11_isTray_9 : decode cX11_isTray 9 = .ok (.iconst 1, 1) := by decide +kernel
theorem dX11_isTray_10 : decode cX11_isTray 10 = .ok (.goto 4, 3) := by decide +kernel
theorem dX11_isTray_13 : decode cX11_isTray 13 = .ok (.iconst 0, 1) := by decide +kernel
theorem dX11_isTray_14 : decode cX11_isTray 14 = .ok (.ireturn, 1) := by decide +kernel
theorem dX11_isAhead_0 : decode cX11_isAhead 0 = .ok (.iload_n 0, 1) := by decide +kernel
theorem dX11_isAhead_1 : decode cX11_isAhead 1 = .ok (.ifCond .lt 14, 3) := by decide +kernel
theorem dX11_isAhead_4 : decode cX11_isAhead 4 = .ok (.iload_n 0, 1) := by decide +kernel
theorem dX11_isAhead_5 : decode cX11_isAhead 5 = .ok (.sipush 200, 3) := by decide +kernel
theorem dX11_isAhead_8 : decode cX11_isAhead 8 = .ok (.if_icmp .gt 7, 3) := by decide +kernel
theorem dX11_isAhead_11 : decode cX11_isAhead 11 = .ok (.iconst 1, 1) := by decide +kernel
theorem dX11_isAhead_12 : decode cX11_isAhead 12 = .ok (.goto 4, 3) := by decide +kernel
theorem dX11_isAhead_15 : decode cX11_isAhead 15 = .ok (.iconst 0, 1) := by decide +kernel
theorem dX11_isAhead_16 : decode cX11_isAhead 16 = .ok (.ireturn, 1) := by decide +kernel
theorem dX11_isLate_0 : decode cX11_isLate 0 = .ok (.iload_n 0, 1) := by decide +kernel
theorem dX11_isLate_1 : decode cX11_isLate 1 = .ok (.ifCond .lt 13, 3) := by decide +kernel
theorem dX11_isLate_4 : decode cX11_isLate 4 = .ok (.iload_n 0, 1) := by decide +kernel
theorem dX11_isLate_5 : decode cX11_isLate 5 = .ok (.bipush 99, 2) := by decide +kernel
theorem dX11_isLate_7 : decode cX11_isLate 7 = .ok (.if_icmp .gt 7, 3) := by decide +kernel
theorem dX11_isLate_10 : decode cX11_isLate 10 = .ok (.iconst 1, 1) := by decide +kernel
theorem dX11_isLate_11 : decode cX11_isLate 11 = .ok (.goto 4, 3) := by decide +kernel
theorem dX11_isLate_14 : decode cX11_isLate 14 = .ok (.iconst 0, 1) := by decide +kernel
theorem dX11_isLate_15 : decode cX11_isLate 15 = .ok (.ireturn, 1) := by decide +kernel
theorem dX11_wrongPlace_0 : decode cX11_wrongPlace 0 = .ok (.iload_n 1, 1) := by decide +kernel
theorem dX11_wrongPlace_1 : decode cX11_wrongPlace 1 = .ok (.invokestatic 97, 3) := by decide +kernel
theorem dX11_wrongPlace_4 : decode cX11_wrongPlace 4 = .ok (.ifCond .ne 5, 3) := by decide +kernel
theorem dX11_wrongPlace_7 : decode cX11_wrongPlace 7 = .ok (.iconst 1, 1) := by decide +kernel
theorem dX11_wrongPlace_8 : decode cX11_wrongPlace 8 = .ok (.ireturn, 1) := by decide +kernel
theorem dX11_wrongPlace_9 : decode cX11_wrongPlace 9 = .ok (.aload_n 0, 1) := by decide +kernel
theorem dX11_wrongPlace_10 : decode cX11_wrongPlace 10 = .ok (.getfield 11, 3) := by decide +kernel
theorem dX11_wrongPlace_13 : decode cX11_wrongPlace 13 = .ok (.iload_n 1, 1) := by decide +kernel
theorem dX11_wrongPlace_14 : decode cX11_wrongPlace 14 = .ok (.aaload, 1) := by decide +kernel
theorem dX11_wrongPlace_15 : decode cX11_wrongPlace 15 = .ok (.getfield 128, 3) := by decide +kernel
theorem dX11_wrongPlace_18 : decode cX11_wrongPlace 18 = .ok (.ifCond .ne 5, 3) := by decide +kernel
theorem dX11_wrongPlace_21 : decode cX11_wrongPlace 21 = .ok (.iconst 3, 1) := by decide +kernel
theorem dX11_wrongPlace_22 : decode cX11_wrongPlace 22 = .ok (.ireturn, 1) := by decide +kernel
theorem dX11_wrongPlace_23 : decode cX11_wrongPlace 23 = .ok (.aload_n 0, 1) := by decide +kernel
theorem dX11_wrongPlace_24 : decode cX11_wrongPlace 24 = .ok (.getfield 11, 3) := by decide +kernel
theorem dX11_wrongPlace_27 : decode cX11_wrongPlace 27 = .ok (.iload_n 1, 1) := by decide +kernel
theorem dX11_wrongPlace_28 : decode cX11_wrongPlace 28 = .ok (.aaload, 1) := by decide +kernel
theorem dX11_wrongPlace_29 : decode cX11_wrongPlace 29 = .ok (.iload_n 2, 1) := by decide +kernel
theorem dX11_wrongPlace_30 : decode cX11_wrongPlace 30 = .ok (.iconst 1, 1) := by decide +kernel
theorem dX11_wrongPlace_31 : decode cX11_wrongPlace 31 = .ok (.invokevirtual 134, 3) := by decide +kernel
theorem dX11_wrongPlace_34 : decode cX11_wrongPlace 34 = .ok (.ifCond .eq 7, 3) := by decide +kernel
theorem dX11_wrongPlace_37 : decode cX11_wrongPlace 37 = .ok (.iconst 0, 1) := by decide +kernel
theorem dX11_wrongPlace_38 : decode cX11_wrongPlace 38 = .ok (.goto 4, 3) := by decide +kernel
theorem dX11_wrongPlace_41 : decode cX11_wrongPlace 41 = .ok (.iconst 4, 1) := by decide +kernel
theorem dX11_wrongPlace_42 : decode cX11_wrongPlace 42 = .ok (.ireturn, 1) := by decide +kernel
theorem dX11_wrongHolding_0 : decode cX11_wrongHolding 0 = .ok (.aload_n 0, 1) := by decide +kernel
theorem dX11_wrongHolding_1 : decode cX11_wrongHolding 1 = .ok (.getfield 25, 3) := by decide +kernel
theorem dX11_wrongHolding_4 : decode cX11_wrongHolding 4 = .ok (.getfield 40, 3) := by decide +kernel
theorem dX11_wrongHolding_7 : decode cX11_wrongHolding 7 = .ok (.iload_n 1, 1) := by decide +kernel
theorem dX11_wrongHolding_8 : decode cX11_wrongHolding 8 = .ok (.invokevirtual 252, 3) := by decide +kernel
theorem dX11_wrongHolding_11 : decode cX11_wrongHolding 11 = .ok (.ifCond .eq 19, 3) := by decide +kernel
theorem dX11_wrongHolding_14 : decode cX11_wrongHolding 14 = .ok (.aload_n 0, 1) := by decide +kernel
theorem dX11_wrongHolding_15 : decode cX11_wrongHolding 15 = .ok (.getfield 25, 3) := by decide +kernel
theorem dX11_wrongHolding_18 : decode cX11_wrongHolding 18 = .ok (.getfield 40, 3) := by decide +kernel
theorem dX11_wrongHolding_21 : decode cX11_wrongHolding 21 = .ok (.iload_n 2, 1) := by decide +kernel
theorem dX11_wrongHolding_22 : decode cX11_wrongHolding 22 = .ok (.iload_n 3, 1) := by decide +kernel
theorem dX11_wrongHolding_23 : decode cX11_wrongHolding 23 = .ok (.invokevirtual 285, 3) := by decide +kernel
theorem dX11_wrongHolding_26 : decode cX11_wrongHolding 26 = .ok (.iconst (-1), 1) := by decide +kernel
theorem dX11_wrongHolding_27 : decode cX11_wrongHolding 27 = .ok (.if_icmp .ne 5, 3) := by decide +kernel
theorem dX11_wrongHolding_30 : decode cX11_wrongHolding 30 = .ok (.iconst 2, 1) := by decide +kernel
theorem dX11_wrongHolding_31 : decode cX11_wrongHolding 31 = .ok (.ireturn, 1) := by decide +kernel
theorem dX11_wrongHolding_32 : decode cX11_wrongHolding 32 = .ok (.iload 4, 2) := by decide +kernel
theorem dX11_wrongHolding_34 : decode cX11_wrongHolding 34 = .ok (.iconst 1, 1) := by decide +kernel
theorem dX11_wrongHolding_35 : decode cX11_wrongHolding 35 = .ok (.if_icmp .lt 9, 3) := by decide +kernel
theorem dX11_wrongHolding_38 : decode cX11_wrongHolding 38 = .ok (.iload 4, 2) := by decide +kernel
theorem dX11_wrongHolding_40 : decode cX11_wrongHolding 40 = .ok (.iconst 4, 1) := by decide +kernel
theorem dX11_wrongHolding_41 : decode cX11_wrongHolding 41 = .ok (.if_icmp .le 7, 3) := by decide +kernel
theorem dX11_wrongHolding_44 : decode cX11_wrongHolding 44 = .ok (.iconst 5, 1) := by decide +kernel
theorem dX11_wrongHolding_45 : decode cX11_wrongHolding 45 = .ok (.goto 4, 3) := by decide +kernel
theorem dX11_wrongHolding_48 : decode cX11_wrongHolding 48 = .ok (.iconst 0, 1) := by decide +kernel
theorem dX11_wrongHolding_49 : decode cX11_wrongHolding 49 = .ok (.ireturn, 1) := by decide +kernel
theorem dX11_wrongBest_0 : decode cX11_wrongBest 0 = .ok (.aload_n 0, 1) := by decide +kernel
theorem dX11_wrongBest_1 : decode cX11_wrongBest 1 = .ok (.getfield 25, 3) := by decide +kernel
theorem dX11_wrongBest_4 : decode cX11_wrongBest 4 = .ok (.getfield 40, 3) := by decide +kernel
theorem dX11_wrongBest_7 : decode cX11_wrongBest 7 = .ok (.iload_n 1, 1) := by decide +kernel
theorem dX11_wrongBest_8 : decode cX11_wrongBest 8 = .ok (.invokevirtual 252, 3) := by decide +kernel
theorem dX11_wrongBest_11 : decode cX11_wrongBest 11 = .ok (.ifCond .ne 5, 3) := by decide +kernel
theorem dX11_wrongBest_14 : decode cX11_wrongBest 14 = .ok (.iconst 2, 1) := by decide +kernel
theorem dX11_wrongBest_15 : decode cX11_wrongBest 15 = .ok (.ireturn, 1) := by decide +kernel
theorem dX11_wrongBest_16 : decode cX11_wrongBest 16 = .ok (.aload_n 0, 1) := by decide +kernel
theorem dX11_wrongBest_17 : decode cX11_wrongBest 17 = .ok (.getfield 25, 3) := by decide +kernel
theorem dX11_wrongBest_20 : decode cX11_wrongBest 20 = .ok (.getfield 40, 3) := by decide +kernel
theorem dX11_wrongBest_23 : decode cX11_wrongBest 23 = .ok (.getfield 200, 3) := by decide +kernel
theorem dX11_wrongBest_26 : decode cX11_wrongBest 26 = .ok (.ifCond .ne 8, 3) := by decide +kernel
theorem dX11_wrongBest_29 : decode cX11_wrongBest 29 = .ok (.bipush 8, 2) := by decide +kernel
theorem dX11_wrongBest_31 : decode cX11_wrongBest 31 = .ok (.goto 4, 3) := by decide +kernel
theorem dX11_wrongBest_34 : decode cX11_wrongBest 34 = .ok (.iconst 0, 1) := by decide +kernel
theorem dX11_wrongBest_35 : decode cX11_wrongBest 35 = .ok (.ireturn, 1) := by decide +kernel
theorem dX11_wrongGame_0 : decode cX11_wrongGame 0 = .ok (.aload_n 0, 1) := by decide +kernel
theorem dX11_wrongGame_1 : decode cX11_wrongGame 1 = .ok (.getfield 25, 3) := by decide +kernel
theorem dX11_wrongGame_4 : decode cX11_wrongGame 4 = .ok (.getfield 40, 3) := by decide +kernel
theorem dX11_wrongGame_7 : decode cX11_wrongGame 7 = .ok (.iload_n 1, 1) := by decide +kernel
theorem dX11_wrongGame_8 : decode cX11_wrongGame 8 = .ok (.invokevirtual 252, 3) := by decide +kernel
theorem dX11_wrongGame_11 : decode cX11_wrongGame 11 = .ok (.ifCond .eq 17, 3) := by decide +kernel
theorem dX11_wrongGame_14 : decode cX11_wrongGame 14 = .ok (.aload_n 0, 1) := by decide +kernel
theorem dX11_wrongGame_15 : decode cX11_wrongGame 15 = .ok (.getfield 25, 3) := by decide +kernel
theorem dX11_wrongGame_18 : decode cX11_wrongGame 18 = .ok (.getfield 40, 3) := by decide +kernel
theorem dX11_wrongGame_21 : decode cX11_wrongGame 21 = .ok (.iload_n 2, 1) := by decide +kernel
theorem dX11_wrongGame_22 : decode cX11_wrongGame 22 = .ok (.invokevirtual 252, 3) := by decide +kernel
theorem dX11_wrongGame_25 : decode cX11_wrongGame 25 = .ok (.ifCond .ne 5, 3) := by decide +kernel
theorem dX11_wrongGame_28 : decode cX11_wrongGame 28 = .ok (.iconst 2, 1) := by decide +kernel
theorem dX11_wrongGame_29 : decode cX11_wrongGame 29 = .ok (.ireturn, 1) := by decide +kernel
theorem dX11_wrongGame_30 : decode cX11_wrongGame 30 = .ok (.iload_n 1, 1) := by decide +kernel
theorem dX11_wrongGame_31 : decode cX11_wrongGame 31 = .ok (.iload_n 2, 1) := by decide +kernel
theorem dX11_wrongGame_32 : decode cX11_wrongGame 32 = .ok (.if_icmp .eq 12, 3) := by decide +kernel
theorem dX11_wrongGame_35 : decode cX11_wrongGame 35 = .ok (.iload_n 3, 1) := by decide +kernel
theorem dX11_wrongGame_36 : decode cX11_wrongGame 36 = .ok (.ifCond .lt 8, 3) := by decide +kernel
theorem dX11_wrongGame_39 : decode cX11_wrongGame 39 = .ok (.iload_n 3, 1) := by decide +kernel
theorem dX11_wrongGame_40 : decode cX11_wrongGame 40 = .ok (.iconst 3, 1) := by decide +kernel
theorem dX11_wrongGame_41 : decode cX11_wrongGame 41 = .ok (.if_icmp .le 7, 3) := by decide +kernel
theorem dX11_wrongGame_44 : decode cX11_wrongGame 44 = .ok (.iconst 5, 1) := by decide +kernel
theorem dX11_wrongGame_45 : decode cX11_wrongGame 45 = .ok (.goto 4, 3) := by decide +kernel
theorem dX11_wrongGame_48 : decode cX11_wrongGame 48 = .ok (.iconst 0, 1) := by decide +kernel
theorem dX11_wrongGame_49 : decode cX11_wrongGame 49 = .ok (.ireturn, 1) := by decide +kernel
theorem dX11_wrongFits_0 : decode cX11_wrongFits 0 = .ok (.iload_n 2, 1) := by decide +kernel
theorem dX11_wrongFits_1 : decode cX11_wrongFits 1 = .ok (.invokestatic 97, 3) := by decide +kernel
theorem dX11_wrongFits_4 : decode cX11_wrongFits 4 = .ok (.ifCond .ne 5, 3) := by decide +kernel
theorem dX11_wrongFits_7 : decode cX11_wrongFits 7 = .ok (.iconst 1, 1) := by decide +kernel
theorem dX11_wrongFits_8 : decode cX11_wrongFits 8 = .ok (.ireturn, 1) := by decide +kernel
theorem dX11_wrongFits_9 : decode cX11_wrongFits 9 = .ok (.aload_n 0, 1) := by decide +kernel
theorem dX11_wrongFits_10 : decode cX11_wrongFits 10 = .ok (.getfield 25, 3) := by decide +kernel
theorem dX11_wrongFits_13 : decode cX11_wrongFits 13 = .ok (.getfield 40, 3) := by decide +kernel
theorem dX11_wrongFits_16 : decode cX11_wrongFits 16 = .ok (.iload_n 1, 1) := by decide +kernel
theorem dX11_wrongFits_17 : decode cX11_wrongFits 17 = .ok (.invokevirtual 252, 3) := by decide +kernel
theorem dX11_wrongFits_20 : decode cX11_wrongFits 20 = .ok (.ifCond .ne 5, 3) := by decide +kernel
theorem dX11_wrongFits_23 : decode cX11_wrongFits 23 = .ok (.iconst 2, 1) := by decide +kernel
theorem dX11_wrongFits_24 : decode cX11_wrongFits 24 = .ok (.ireturn, 1) := by decide +kernel
theorem dX11_wrongFits_25 : decode cX11_wrongFits 25 = .ok (.aload_n 0, 1) := by decide +kernel
theorem dX11_wrongFits_26 : decode cX11_wrongFits 26 = .ok (.getfield 11, 3) := by decide +kernel
theorem dX11_wrongFits_29 : decode cX11_wrongFits 29 = .ok (.iload_n 2, 1) := by decide +kernel
theorem dX11_wrongFits_30 : decode cX11_wrongFits 30 = .ok (.aaload, 1) := by decide +kernel
theorem dX11_wrongFits_31 : decode cX11_wrongFits 31 = .ok (.astore 4, 2) := by decide +kernel
theorem dX11_wrongFits_33 : decode cX11_wrongFits 33 = .ok (.aload 4, 2) := by decide +kernel
theorem dX11_wrongFits_35 : decode cX11_wrongFits 35 = .ok (.getfield 128, 3) := by decide +kernel
theorem dX11_wrongFits_38 : decode cX11_wrongFits 38 = .ok (.ifCond .ne 5, 3) := by decide +kernel
theorem dX11_wrongFits_41 : decode cX11_wrongFits 41 = .ok (.iconst 3, 1) := by decide +kernel
theorem dX11_wrongFits_42 : decode cX11_wrongFits 42 = .ok (.ireturn, 1) := by decide +kernel
theorem dX11_wrongFits_43 : decode cX11_wrongFits 43 = .ok (.iload_n 3, 1) := by decide +kernel
theorem dX11_wrongFits_44 : decode cX11_wrongFits 44 = .ok (.aload 4, 2) := by decide +kernel
theorem dX11_wrongFits_46 : decode cX11_wrongFits 46 = .ok (.getfield 352, 3) := by decide +kernel
theorem dX11_wrongFits_49 : decode cX11_wrongFits 49 = .ok (.if_icmp .le 5, 3) := by decide +kernel
theorem dX11_wrongFits_52 : decode cX11_wrongFits 52 = .ok (.iconst 4, 1) := by decide +kernel
theorem dX11_wrongFits_53 : decode cX11_wrongFits 53 = .ok (.ireturn, 1) := by decide +kernel
theorem dX11_wrongFits_54 : decode cX11_wrongFits 54 = .ok (.iload_n 3, 1) := by decide +kernel
theorem dX11_wrongFits_55 : decode cX11_wrongFits 55 = .ok (.ifCond .lt 9, 3) := by decide +kernel
theorem dX11_wrongFits_58 : decode cX11_wrongFits 58 = .ok (.iload_n 3, 1) := by decide +kernel
theorem dX11_wrongFits_59 : decode cX11_wrongFits 59 = .ok (.bipush 24, 2) := by decide +kernel
theorem dX11_wrongFits_61 : decode cX11_wrongFits 61 = .ok (.if_icmp .le 5, 3) := by decide +kernel
theorem dX11_wrongFits_64 : decode cX11_wrongFits 64 = .ok (.iconst 5, 1) := by decide +kernel
theorem dX11_wrongFits_65 : decode cX11_wrongFits 65 = .ok (.ireturn, 1) := by decide +kernel
theorem dX11_wrongFits_66 : decode cX11_wrongFits 66 = .ok (.iconst 0, 1) := by decide +kernel
theorem dX11_wrongFits_67 : decode cX11_wrongFits 67 = .ok (.istore 5, 2) := by decide +kernel
theorem dX11_wrongFits_69 : decode cX11_wrongFits 69 = .ok (.iload 5, 2) := by decide +kernel
theorem dX11_wrongFits_71 : decode cX11_wrongFits 71 = .ok (.iload_n 3, 1) := by decide +kernel
theorem dX11_wrongFits_72 : decode cX11_wrongFits 72 = .ok (.if_icmp .ge 37, 3) := by decide +kernel
theorem dX11_wrongFits_75 : decode cX11_wrongFits 75 = .ok (.aload 4, 2) := by decide +kernel
theorem dX11_wrongFits_77 : decode cX11_wrongFits 77 = .ok (.getfield 138, 3) := by decide +kernel
theorem dX11_wrongFits_80 : decode cX11_wrongFits 80 = .ok (.iload 5, 2) := by decide +kernel
theorem dX11_wrongFits_82 : decode cX11_wrongFits 82 = .ok (.laload, 1) := by decide +kernel
theorem dX11_wrongFits_83 : decode cX11_wrongFits 83 = .ok (.lconst 0, 1) := by decide +kernel
theorem dX11_wrongFits_84 : decode cX11_wrongFits 84 = .ok (.lcmp, 1) := by decide +kernel
theorem dX11_wrongFits_85 : decode cX11_wrongFits 85 = .ok (.ifCond .eq 18, 3) := by decide +kernel
theorem dX11_wrongFits_88 : decode cX11_wrongFits 88 = .ok (.aload 4, 2) := by decide +kernel
theorem dX11_wrongFits_90 : decode cX11_wrongFits 90 = .ok (.getfield 138, 3) := by decide +kernel
theorem dX11_wrongFits_93 : decode cX11_wrongFits 93 = .ok (.iload 5, 2) := by decide +kernel
theorem dX11_wrongFits_95 : decode cX11_wrongFits 95 = .ok (.laload, 1) := by decide +kernel
theorem dX11_wrongFits_96 : decode cX11_wrongFits 96 = .ok (.lconst 1, 1) := by decide +kernel
theorem dX11_wrongFits_97 : decode cX11_wrongFits 97 = .ok (.lcmp, 1) := by decide +kernel
theorem dX11_wrongFits_98 : decode cX11_wrongFits 98 = .ok (.ifCond .eq 5, 3) := by decide +kernel
theorem dX11_wrongFits_101 : decode cX11_wrongFits 101 = .ok (.iconst 5, 1) := by decide +kernel
theorem dX11_wrongFits_102 : decode cX11_wrongFits 102 = .ok (.ireturn, 1) := by decide +kernel
theorem dX11_wrongFits_103 : decode cX11_wrongFits 103 = .ok (.iinc 5 1, 3) := by decide +kernel
theorem dX11_wrongFits_106 : decode cX11_wrongFits 106 = .ok (.goto (-37), 3) := by decide +kernel
theorem dX11_wrongFits_109 : decode cX11_wrongFits 109 = .ok (.iconst 0, 1) := by decide +kernel
theorem dX11_wrongFits_110 : decode cX11_wrongFits 110 = .ok (.ireturn, 1) := by decide +kernel
theorem dX11_firstBeat_0 : decode cX11_firstBeat 0 = .ok (.iload_n 2, 1) := by decide +kernel
theorem dX11_firstBeat_1 : decode cX11_firstBeat 1 = .ok (.ifCond .gt 5, 3) := by decide +kernel
theorem dX11_firstBeat_4 : decode cX11_firstBeat 4 = .ok (.iconst (-1), 1) := by decide +kernel
theorem dX11_firstBeat_5 : decode cX11_firstBeat 5 = .ok (.ireturn, 1) := by decide +kernel
theorem dX11_firstBeat_6 : decode cX11_firstBeat 6 = .ok (.iconst 0, 1) := by decide +kernel
theorem dX11_firstBeat_7 : decode cX11_firstBeat 7 = .ok (.istore 4, 2) := by decide +kernel
theorem dX11_firstBeat_9 : decode cX11_firstBeat 9 = .ok (.iload 4, 2) := by decide +kernel
theorem dX11_firstBeat_11 : decode cX11_firstBeat 11 = .ok (.sipush 199, 3) := by decide +kernel
theorem dX11_firstBeat_14 : decode cX11_firstBeat 14 = .ok (.if_icmp .gt 35, 3) := by decide +kernel
theorem dX11_firstBeat_17 : decode cX11_firstBeat 17 = .ok (.iload_n 1, 1) := by decide +kernel
theorem dX11_firstBeat_18 : decode cX11_firstBeat 18 = .ok (.iload 4, 2) := by decide +kernel
theorem dX11_firstBeat_20 : decode cX11_firstBeat 20 = .ok (.iload_n 0, 1) := by decide +kernel
theorem dX11_firstBeat_21 : decode cX11_firstBeat 21 = .ok (.imul, 1) := by decide +kernel
theorem dX11_firstBeat_22 : decode cX11_firstBeat 22 = .ok (.iadd, 1) := by decide +kernel
theorem dX11_firstBeat_23 : decode cX11_firstBeat 23 = .ok (.istore 5, 2) := by decide +kernel
theorem dX11_firstBeat_25 : decode cX11_firstBeat 25 = .ok (.iload 5, 2) := by decide +kernel
theorem dX11_firstBeat_27 : decode cX11_firstBeat 27 = .ok (.iload_n 3, 1) := by decide +kernel
theorem dX11_firstBeat_28 : decode cX11_firstBeat 28 = .ok (.if_icmp .lt 15, 3) := by decide +kernel
theorem dX11_firstBeat_31 : decode cX11_firstBeat 31 = .ok (.iload 5, 2) := by decide +kernel
theorem dX11_firstBeat_33 : decode cX11_firstBeat 33 = .ok (.iload_n 3, 1) := by decide +kernel
theorem dX11_firstBeat_34 : decode cX11_firstBeat 34 = .ok (.isub, 1) := by decide +kernel
theorem dX11_firstBeat_35 : decode cX11_firstBeat 35 = .ok (.iload_n 2, 1) := by decide +kernel
theorem dX11_firstBeat_36 : decode cX11_firstBeat 36 = .ok (.irem, 1) := by decide +kernel
theorem dX11_firstBeat_37 : decode cX11_firstBeat 37 = .ok (.ifCond .ne 6, 3) := by decide +kernel
theorem dX11_firstBeat_40 : decode cX11_firstBeat 40 = .ok (.iload 5, 2) := by decide +kernel
theorem dX11_firstBeat_42 : decode cX11_firstBeat 42 = .ok (.ireturn, 1) := by decide +kernel
theorem dX11_firstBeat_43 : decode cX11_firstBeat 43 = .ok (.iinc 4 1, 3) := by decide +kernel
theorem dX11_firstBeat_46 : decode cX11_firstBeat 46 = .ok (.goto (-37), 3) := by decide +kernel
theorem dX11_firstBeat_49 : decode cX11_firstBeat 49 = .ok (.iconst (-1), 1) := by decide +kernel
theorem dX11_firstBeat_50 : decode cX11_firstBeat 50 = .ok (.ireturn, 1) := by decide +kernel
theorem dX11_power_0 : decode cX11_power 0 = .ok (.lconst 1, 1) := by decide +kernel
theorem dX11_power_1 : decode cX11_power 1 = .ok (.lstore_n 3, 1) := by decide +kernel
theorem dX11_power_2 : decode cX11_power 2 = .ok (.iconst 0, 1) := by decide +kernel
theorem dX11_power_3 : decode cX11_power 3 = .ok (.istore 5, 2) := by decide +kernel
theorem dX11_power_5 : decode cX11_power 5 = .ok (.iload 5, 2) := by decide +kernel
theorem dX11_power_7 : decode cX11_power 7 = .ok (.iload_n 2, 1) := by decide +kernel
theorem dX11_power_8 : decode cX11_power 8 = .ok (.if_icmp .ge 13, 3) := by decide +kernel
theorem dX11_power_11 : decode cX11_power 11 = .ok (.lload_n 3, 1) := by decide +kernel
theorem dX11_power_12 : decode cX11_power 12 = .ok (.lload_n 0, 1) := by decide +kernel
theorem dX11_power_13 : decode cX11_power 13 = .ok (.lmul, 1) := by decide +kernel
theorem dX11_power_14 : decode cX11_power 14 = .ok (.lstore_n 3, 1) := by decide +kernel
theorem dX11_power_15 : decode cX11_power 15 = .ok (.iinc 5 1, 3) := by decide +kernel
theorem dX11_power_18 : decode cX11_power 18 = .ok (.goto (-13), 3) := by decide +kernel
theorem dX11_power_21 : decode cX11_power 21 = .ok (.lload_n 3, 1) := by decide +kernel
theorem dX11_power_22 : decode cX11_power 22 = .ok (.lreturn, 1) := by decide +kernel
theorem dX11_choose_0 : decode cX11_choose 0 = .ok (.lconst 1, 1) := by decide +kernel
theorem dX11_choose_1 : decode cX11_choose 1 = .ok (.lstore_n 2, 1) := by decide +kernel
theorem dX11_choose_2 : decode cX11_choose 2 = .ok (.iconst 1, 1) := by decide +kernel
theorem dX11_choose_3 : decode cX11_choose 3 = .ok (.istore 4, 2) := by decide +kernel
theorem dX11_choose_5 : decode cX11_choose 5 = .ok (.iload 4, 2) := by decide +kernel
theorem dX11_choose_7 : decode cX11_choose 7 = .ok (.iload_n 1, 1) := by decide +kernel
theorem dX11_choose_8 : decode cX11_choose 8 = .ok (.if_icmp .gt 23, 3) := by decide +kernel
theorem dX11_choose_11 : decode cX11_choose 11 = .ok (.lload_n 2, 1) := by decide +kernel
theorem dX11_choose_12 : decode cX11_choose 12 = .ok (.iload_n 0, 1) := by decide +kernel
theorem dX11_choose_13 : decode cX11_choose 13 = .ok (.iload 4, 2) := by decide +kernel
theorem dX11_choose_15 : decode cX11_choose 15 = .ok (.isub, 1) := by decide +kernel
theorem dX11_choose_16 : decode cX11_choose 16 = .ok (.iconst 1, 1) := by decide +kernel
theorem dX11_choose_17 : decode cX11_choose 17 = .ok (.iadd, 1) := by decide +kernel
theorem dX11_choose_18 : decode cX11_choose 18 = .ok (.i2l, 1) := by decide +kernel
theorem dX11_choose_19 : decode cX11_choose 19 = .ok (.lmul, 1) := by decide +kernel
theorem dX11_choose_20 : decode cX11_choose 20 = .ok (.iload 4, 2) := by decide +kernel
theorem dX11_choose_22 : decode cX11_choose 22 = .ok (.i2l, 1) := by decide +kernel
theorem dX11_choose_23 : decode cX11_choose 23 = .ok (.ldiv, 1) := by decide +kernel
theorem dX11_choose_24 : decode cX11_choose 24 = .ok (.lstore_n 2, 1) := by decide +kernel
theorem dX11_choose_25 : decode cX11_choose 25 = .ok (.iinc 4 1, 3) := by decide +kernel
theorem dX11_choose_28 : decode cX11_choose 28 = .ok (.goto (-23), 3) := by decide +kernel
theorem dX11_choose_31 : decode cX11_choose 31 = .ok (.lload_n 2, 1) := by decide +kernel
theorem dX11_choose_32 : decode cX11_choose 32 = .ok (.lreturn, 1) := by decide +kernel
theorem dX11_commonDivisor_0 : decode cX11_commonDivisor 0 = .ok (.lload_n 0, 1) := by decide +kernel
theorem dX11_commonDivisor_1 : decode cX11_commonDivisor 1 = .ok (.lstore 4, 2) := by decide +kernel
theorem dX11_commonDivisor_3 : decode cX11_commonDivisor 3 = .ok (.lload_n 2, 1) := by decide +kernel
theorem dX11_commonDivisor_4 : decode cX11_commonDivisor 4 = .ok (.lstore 6, 2) := by decide +kernel
theorem dX11_commonDivisor_6 : decode cX11_commonDivisor 6 = .ok (.iconst 0, 1) := by decide +kernel
theorem dX11_commonDivisor_7 : decode cX11_commonDivisor 7 = .ok (.istore 8, 2) := by decide +kernel
theorem dX11_commonDivisor_9 : decode cX11_commonDivisor 9 = .ok (.iload 8, 2) := by decide +kernel
theorem dX11_commonDivisor_11 : decode cX11_commonDivisor 11 = .ok (.bipush 100, 2) := by decide +kernel
theorem dX11_commonDivisor_13 : decode cX11_commonDivisor 13 = .ok (.if_icmp .ge 31, 3) := by decide +kernel
theorem dX11_commonDivisor_16 : decode cX11_commonDivisor 16 = .ok (.lload 6, 2) := by decide +kernel
theorem dX11_commonDivisor_18 : decode cX11_commonDivisor 18 = .ok (.lconst 0, 1) := by decide +kernel
theorem dX11_commonDivisor_19 : decode cX11_commonDivisor 19 = .ok (.lcmp, 1) := by decide +kernel
theorem dX11_commonDivisor_20 : decode cX11_commonDivisor 20 = .ok (.ifCond .eq 24, 3) := by decide +kernel
theorem dX11_commonDivisor_23 : decode cX11_commonDivisor 23 = .ok (.lload 4, 2) := by decide +kernel
theorem dX11_commonDivisor_25 : decode cX11_commonDivisor 25 = .ok (.lload 6, 2) := by decide +kernel
theorem dX11_commonDivisor_27 : decode cX11_commonDivisor 27 = .ok (.lrem, 1) := by decide +kernel
theorem dX11_commonDivisor_28 : decode cX11_commonDivisor 28 = .ok (.lstore 9, 2) := by decide +kernel
theorem dX11_commonDivisor_30 : decode cX11_commonDivisor 30 = .ok (.lload 6, 2) := by decide +kernel
theorem dX11_commonDivisor_32 : decode cX11_commonDivisor 32 = .ok (.lstore 4, 2) := by decide +kernel
theorem dX11_commonDivisor_34 : decode cX11_commonDivisor 34 = .ok (.lload 9, 2) := by decide +kernel
theorem dX11_commonDivisor_36 : decode cX11_commonDivisor 36 = .ok (.lstore 6, 2) := by decide +kernel
theorem dX11_commonDivisor_38 : decode cX11_commonDivisor 38 = .ok (.iinc 8 1, 3) := by decide +kernel
theorem dX11_commonDivisor_41 : decode cX11_commonDivisor 41 = .ok (.goto (-32), 3) := by decide +kernel
theorem dX11_commonDivisor_44 : decode cX11_commonDivisor 44 = .ok (.lload 4, 2) := by decide +kernel
theorem dX11_commonDivisor_46 : decode cX11_commonDivisor 46 = .ok (.lreturn, 1) := by decide +kernel
