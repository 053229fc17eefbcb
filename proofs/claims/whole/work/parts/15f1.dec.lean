theorem dX11_train_16 : decode cX11_train 16 = .ok (.invokevirtual 101, 3) := by decide +kernel
theorem dX11_train_19 : decode cX11_train 19 = .ok (.ireturn, 1) := by decide +kernel
theorem dX11_train_20 : decode cX11_train 20 = .ok (.iload_n 2, 1) := by decide +kernel
theorem dX11_train_21 : decode cX11_train 21 = .ok (.ifCond .lt 9, 3) := by decide +kernel
theorem dX11_train_24 : decode cX11_train 24 = .ok (.iload_n 2, 1) := by decide +kernel
theorem dX11_train_25 : decode cX11_train 25 = .ok (.bipush 20, 2) := by decide +kernel
theorem dX11_train_27 : decode cX11_train 27 = .ok (.if_icmp .le 9, 3) := by decide +kernel
theorem dX11_train_30 : decode cX11_train 30 = .ok (.aload_n 0, 1) := by decide +kernel
theorem dX11_train_31 : decode cX11_train 31 = .ok (.iconst 5, 1) := by decide +kernel
theorem dX11_train_32 : decode cX11_train 32 = .ok (.invokevirtual 101, 3) := by decide +kernel
theorem dX11_train_35 : decode cX11_train 35 = .ok (.ireturn, 1) := by decide +kernel
theorem dX11_train_36 : decode cX11_train 36 = .ok (.aload_n 0, 1) := by decide +kernel
theorem dX11_train_37 : decode cX11_train 37 = .ok (.getfield 25, 3) := by decide +kernel
theorem dX11_train_40 : decode cX11_train 40 = .ok (.getfield 40, 3) := by decide +kernel
theorem dX11_train_43 : decode cX11_train 43 = .ok (.getfield 255, 3) := by decide +kernel
theorem dX11_train_46 : decode cX11_train 46 = .ok (.iload_n 1, 1) := by decide +kernel
theorem dX11_train_47 : decode cX11_train 47 = .ok (.aaload, 1) := by decide +kernel
theorem dX11_train_48 : decode cX11_train 48 = .ok (.iload_n 2, 1) := by decide +kernel
theorem dX11_train_49 : decode cX11_train 49 = .ok (.putfield 267, 3) := by decide +kernel
theorem dX11_train_52 : decode cX11_train 52 = .ok (.aload_n 0, 1) := by decide +kernel
theorem dX11_train_53 : decode cX11_train 53 = .ok (.getfield 25, 3) := by decide +kernel
theorem dX11_train_56 : decode cX11_train 56 = .ok (.getfield 40, 3) := by decide +kernel
theorem dX11_train_59 : decode cX11_train 59 = .ok (.dup, 1) := by decide +kernel
theorem dX11_train_60 : decode cX11_train 60 = .ok (.getfield 317, 3) := by decide +kernel
theorem dX11_train_63 : decode cX11_train 63 = .ok (.iconst 1, 1) := by decide +kernel
theorem dX11_train_64 : decode cX11_train 64 = .ok (.iadd, 1) := by decide +kernel
theorem dX11_train_65 : decode cX11_train 65 = .ok (.putfield 317, 3) := by decide +kernel
theorem dX11_train_68 : decode cX11_train 68 = .ok (.aload_n 0, 1) := by decide +kernel
theorem dX11_train_69 : decode cX11_train 69 = .ok (.invokevirtual 108, 3) := by decide +kernel
theorem dX11_train_72 : decode cX11_train 72 = .ok (.ireturn, 1) := by decide +kernel
theorem dX11_soothe_0 : decode cX11_soothe 0 = .ok (.aload_n 0, 1) := by decide +kernel
theorem dX11_soothe_1 : decode cX11_soothe 1 = .ok (.getfield 25, 3) := by decide +kernel
theorem dX11_soothe_4 : decode cX11_soothe 4 = .ok (.getfield 40, 3) := by decide +kernel
theorem dX11_soothe_7 : decode cX11_soothe 7 = .ok (.iload_n 1, 1) := by decide +kernel
theorem dX11_soothe_8 : decode cX11_soothe 8 = .ok (.invokevirtual 252, 3) := by decide +kernel
theorem dX11_soothe_11 : decode cX11_soothe 11 = .ok (.ifCond .ne 9, 3) := by decide +kernel
theorem dX11_soothe_14 : decode cX11_soothe 14 = .ok (.aload_n 0, 1) := by decide +kernel
theorem dX11_soothe_15 : decode cX11_soothe 15 = .ok (.iconst 2, 1) := by decide +kernel
theorem dX11_soothe_16 : decode cX11_soothe 16 = .ok (.invokevirtual 101, 3) := by decide +kernel
theorem dX11_soothe_19 : decode cX11_soothe 19 = .ok (.ireturn, 1) := by decide +kernel
theorem dX11_soothe_20 : decode cX11_soothe 20 = .ok (.aload_n 0, 1) := by decide +kernel
theorem dX11_soothe_21 : decode cX11_soothe 21 = .ok (.getfield 25, 3) := by decide +kernel
theorem dX11_soothe_24 : decode cX11_soothe 24 = .ok (.getfield 40, 3) := by decide +kernel
theorem dX11_soothe_27 : decode cX11_soothe 27 = .ok (.getfield 255, 3) := by decide +kernel
theorem dX11_soothe_30 : decode cX11_soothe 30 = .ok (.iload_n 1, 1) := by decide +kernel
theorem dX11_soothe_31 : decode cX11_soothe 31 = .ok (.aaload, 1) := by decide +kernel
theorem dX11_soothe_32 : decode cX11_soothe 32 = .ok (.astore_n 3, 1) := by decide +kernel
theorem dX11_soothe_33 : decode cX11_soothe 33 = .ok (.iload_n 2, 1) := by decide +kernel
theorem dX11_soothe_34 : decode cX11_soothe 34 = .ok (.ifCond .lt 11, 3) := by decide +kernel
theorem dX11_soothe_37 : decode cX11_soothe 37 = .ok (.iload_n 2, 1) := by decide +kernel
theorem dX11_soothe_38 : decode cX11_soothe 38 = .ok (.aload_n 3, 1) := by decide +kernel
theorem dX11_soothe_39 : decode cX11_soothe 39 = .ok (.getfield 273, 3) := by decide +kernel
theorem dX11_soothe_42 : decode cX11_soothe 42 = .ok (.if_icmp .le 9, 3) := by decide +kernel
theorem dX11_soothe_45 : decode cX11_soothe 45 = .ok (.aload_n 0, 1) := by decide +kernel
theorem dX11_soothe_46 : decode cX11_soothe 46 = .ok (.iconst 5, 1) := by decide +kernel
theorem dX11_soothe_47 : decode cX11_soothe 47 = .ok (.invokevirtual 101, 3) := by decide +kernel
theorem dX11_soothe_50 : decode cX11_soothe 50 = .ok (.ireturn, 1) := by decide +kernel
theorem dX11_soothe_51 : decode cX11_soothe 51 = .ok (.aload_n 3, 1) := by decide +kernel
theorem dX11_soothe_52 : decode cX11_soothe 52 = .ok (.iload_n 2, 1) := by decide +kernel
theorem dX11_soothe_53 : decode cX11_soothe 53 = .ok (.putfield 270, 3) := by decide +kernel
theorem dX11_soothe_56 : decode cX11_soothe 56 = .ok (.aload_n 0, 1) := by decide +kernel
theorem dX11_soothe_57 : decode cX11_soothe 57 = .ok (.invokevirtual 108, 3) := by decide +kernel
theorem dX11_soothe_60 : decode cX11_soothe 60 = .ok (.ireturn, 1) := by decide +kernel
theorem dX11_rule_0 : decode cX11_rule 0 = .ok (.aload_n 0, 1) := by decide +kernel
theorem dX11_rule_1 : decode cX11_rule 1 = .ok (.getfield 25, 3) := by decide +kernel
theorem dX11_rule_4 : decode cX11_rule 4 = .ok (.getfield 40, 3) := by decide +kernel
theorem dX11_rule_7 : decode cX11_rule 7 = .ok (.iload_n 1, 1) := by decide +kernel
theorem dX11_rule_8 : decode cX11_rule 8 = .ok (.iload_n 2, 1) := by decide +kernel
theorem dX11_rule_9 : decode cX11_rule 9 = .ok (.invokevirtual 320, 3) := by decide +kernel
theorem dX11_rule_12 : decode cX11_rule 12 = .ok (.ifCond .ne 9, 3) := by decide +kernel
theorem dX11_rule_15 : decode cX11_rule 15 = .ok (.aload_n 0, 1) := by decide +kernel
theorem dX11_rule_16 : decode cX11_rule 16 = .ok (.iconst 5, 1) := by decide +kernel
theorem dX11_rule_17 : decode cX11_rule 17 = .ok (.invokevirtual 101, 3) := by decide +kernel
theorem dX11_rule_20 : decode cX11_rule 20 = .ok (.ireturn, 1) := by decide +kernel
theorem dX11_rule_21 : decode cX11_rule 21 = .ok (.aload_n 0, 1) := by decide +kernel
theorem dX11_rule_22 : decode cX11_rule 22 = .ok (.invokevirtual 108, 3) := by decide +kernel
theorem dX11_rule_25 : decode cX11_rule 25 = .ok (.ireturn, 1) := by decide +kernel
theorem dX11_dig_0 : decode cX11_dig 0 = .ok (.aload_n 0, 1) := by decide +kernel
theorem dX11_dig_1 : decode cX11_dig 1 = .ok (.getfield 25, 3) := by decide +kernel
theorem dX11_dig_4 : decode cX11_dig 4 = .ok (.getfield 40, 3) := by decide +kernel
theorem dX11_dig_7 : decode cX11_dig 7 = .ok (.iload_n 1, 1) := by decide +kernel
theorem dX11_dig_8 : decode cX11_dig 8 = .ok (.iload_n 2, 1) := by decide +kernel
theorem dX11_dig_9 : decode cX11_dig 9 = .ok (.invokevirtual 285, 3) := by decide +kernel
theorem dX11_dig_12 : decode cX11_dig 12 = .ok (.istore 4, 2) := by decide +kernel
theorem dX11_dig_14 : decode cX11_dig 14 = .ok (.iload 4, 2) := by decide +kernel
theorem dX11_dig_16 : decode cX11_dig 16 = .ok (.iconst (-1), 1) := by decide +kernel
theorem dX11_dig_17 : decode cX11_dig 17 = .ok (.if_icmp .ne 9, 3) := by decide +kernel
theorem dX11_dig_20 : decode cX11_dig 20 = .ok (.aload_n 0, 1) := by decide +kernel
theorem dX11_dig_21 : decode cX11_dig 21 = .ok (.iconst 2, 1) := by decide +kernel
theorem dX11_dig_22 : decode cX11_dig 22 = .ok (.invokevirtual 101, 3) := by decide +kernel
theorem dX11_dig_25 : decode cX11_dig 25 = .ok (.ireturn, 1) := by decide +kernel
theorem dX11_dig_26 : decode cX11_dig 26 = .ok (.aload_n 0, 1) := by decide +kernel
theorem dX11_dig_27 : decode cX11_dig 27 = .ok (.getfield 25, 3) := by decide +kernel
theorem dX11_dig_30 : decode cX11_dig 30 = .ok (.getfield 40, 3) := by decide +kernel
theorem dX11_dig_33 : decode cX11_dig 33 = .ok (.getfield 288, 3) := by decide +kernel
theorem dX11_dig_36 : decode cX11_dig 36 = .ok (.iload 4, 2) := by decide +kernel
theorem dX11_dig_38 : decode cX11_dig 38 = .ok (.baload, 1) := by decide +kernel
theorem dX11_dig_39 : decode cX11_dig 39 = .ok (.iload_n 3, 1) := by decide +kernel
theorem dX11_dig_40 : decode cX11_dig 40 = .ok (.if_icmp .ne 10, 3) := by decide +kernel
theorem dX11_dig_43 : decode cX11_dig 43 = .ok (.aload_n 0, 1) := by decide +kernel
theorem dX11_dig_44 : decode cX11_dig 44 = .ok (.bipush 9, 2) := by decide +kernel
theorem dX11_dig_46 : decode cX11_dig 46 = .ok (.invokevirtual 101, 3) := by decide +kernel
theorem dX11_dig_49 : decode cX11_dig 49 = .ok (.ireturn, 1) := by decide +kernel
theorem dX11_dig_50 : decode cX11_dig 50 = .ok (.aload_n 0, 1) := by decide +kernel
theorem dX11_dig_51 : decode cX11_dig 51 = .ok (.getfield 25, 3) := by decide +kernel
theorem dX11_dig_54 : decode cX11_dig 54 = .ok (.getfield 40, 3) := by decide +kernel
theorem dX11_dig_57 : decode cX11_dig 57 = .ok (.getfield 288, 3) := by decide +kernel
theorem dX11_dig_60 : decode cX11_dig 60 = .ok (.iload 4, 2) := by decide +kernel
theorem dX11_dig_62 : decode cX11_dig 62 = .ok (.iload_n 3, 1) := by decide +kernel
theorem dX11_dig_63 : decode cX11_dig 63 = .ok (.bastore, 1) := by decide +kernel
theorem dX11_dig_64 : decode cX11_dig 64 = .ok (.aload_n 0, 1) := by decide +kernel
theorem dX11_dig_65 : decode cX11_dig 65 = .ok (.getfield 25, 3) := by decide +kernel
theorem dX11_dig_68 : decode cX11_dig 68 = .ok (.getfield 40, 3) := by decide +kernel
theorem dX11_dig_71 : decode cX11_dig 71 = .ok (.dup, 1) := by decide +kernel
theorem dX11_dig_72 : decode cX11_dig 72 = .ok (.getfield 317, 3) := by decide +kernel
theorem dX11_dig_75 : decode cX11_dig 75 = .ok (.iconst 1, 1) := by decide +kernel
theorem dX11_dig_76 : decode cX11_dig 76 = .ok (.iadd, 1) := by decide +kernel
theorem dX11_dig_77 : decode cX11_dig 77 = .ok (.putfield 317, 3) := by decide +kernel
theorem dX11_dig_80 : decode cX11_dig 80 = .ok (.aload_n 0, 1) := by decide +kernel
theorem dX11_dig_81 : decode cX11_dig 81 = .ok (.invokevirtual 108, 3) := by decide +kernel
theorem dX11_dig_84 : decode cX11_dig 84 = .ok (.ireturn, 1) := by decide +kernel
theorem dX11_plays_0 : decode cX11_plays 0 = .ok (.aload_n 0, 1) := by decide +kernel
theorem dX11_plays_1 : decode cX11_plays 1 = .ok (.getfield 25, 3) := by decide +kernel
theorem dX11_plays_4 : decode cX11_plays 4 = .ok (.getfield 40, 3) := by decide +kernel
theorem dX11_plays_7 : decode cX11_plays 7 = .ok (.iload_n 1, 1) := by decide +kernel
theorem dX11_plays_8 : decode cX11_plays 8 = .ok (.invokevirtual 252, 3) := by decide +kernel
theorem dX11_plays_11 : decode cX11_plays 11 = .ok (.ifCond .ne 9, 3) := by decide +kernel
theorem dX11_plays_14 : decode cX11_plays 14 = .ok (.aload_n 0, 1) := by decide +kernel
theorem dX11_plays_15 : decode cX11_plays 15 = .ok (.iconst 2, 1) := by decide +kernel
theorem dX11_plays_16 : decode cX11_plays 16 = .ok (.invokevirtual 120, 3) := by decide +kernel
theorem dX11_plays_19 : decode cX11_plays 19 = .ok (.ireturn, 1) := by decide +kernel
theorem dX11_plays_20 : decode cX11_plays 20 = .ok (.aload_n 0, 1) := by decide +kernel
theorem dX11_plays_21 : decode cX11_plays 21 = .ok (.aload_n 0, 1) := by decide +kernel
theorem dX11_plays_22 : decode cX11_plays 22 = .ok (.getfield 25, 3) := by decide +kernel
theorem dX11_plays_25 : decode cX11_plays 25 = .ok (.iload_n 1, 1) := by decide +kernel
theorem dX11_plays_26 : decode cX11_plays 26 = .ok (.invokevirtual 323, 3) := by decide +kernel
theorem dX11_plays_29 : decode cX11_plays 29 = .ok (.invokevirtual 174, 3) := by decide +kernel
theorem dX11_plays_32 : decode cX11_plays 32 = .ok (.ireturn, 1) := by decide +kernel
theorem dX11_heard_0 : decode cX11_heard 0 = .ok (.aload_n 0, 1) := by decide +kernel
theorem dX11_heard_1 : decode cX11_heard 1 = .ok (.getfield 25, 3) := by decide +kernel
theorem dX11_heard_4 : decode cX11_heard 4 = .ok (.getfield 40, 3) := by decide +kernel
theorem dX11_heard_7 : decode cX11_heard 7 = .ok (.iload_n 3, 1) := by decide +kernel
theorem dX11_heard_8 : decode cX11_heard 8 = .ok (.iload 4, 2) := by decide +kernel
theorem dX11_heard_10 : decode cX11_heard 10 = .ok (.invokevirtual 285, 3) := by decide +kernel
theorem dX11_heard_13 : decode cX11_heard 13 = .ok (.istore 5, 2) := by decide +kernel
theorem dX11_heard_15 : decode cX11_heard 15 = .ok (.aload_n 0, 1) := by decide +kernel
theorem dX11_heard_16 : decode cX11_heard 16 = .ok (.getfield 25, 3) := by decide +kernel
theorem dX11_heard_19 : decode cX11_heard 19 = .ok (.getfield 40, 3) := by decide +kernel
theorem dX11_heard_22 : decode cX11_heard 22 = .ok (.iload_n 1, 1) := by decide +kernel
theorem dX11_heard_23 : decode cX11_heard 23 = .ok (.invokevirtual 252, 3) := by decide +kernel
theorem dX11_heard_26 : decode cX11_heard 26 = .ok (.ifCond .eq 23, 3) := by decide +kernel
theorem dX11_heard_29 : decode cX11_heard 29 = .ok (.aload_n 0, 1) := by decide +kernel
theorem dX11_heard_30 : decode cX11_heard 30 = .ok (.getfield 25, 3) := by decide +kernel
theorem dX11_heard_33 : decode cX11_heard 33 = .ok (.getfield 40, 3) := by decide +kernel
theorem dX11_heard_36 : decode cX11_heard 36 = .ok (.iload_n 2, 1) := by decide +kernel
theorem dX11_heard_37 : decode cX11_heard 37 = .ok (.invokevirtual 302, 3) := by decide +kernel
theorem dX11_heard_40 : decode cX11_heard 40 = .ok (.ifCond .eq 9, 3) := by decide +kernel
theorem dX11_heard_43 : decode cX11_heard 43 = .ok (.iload 5, 2) := by decide +kernel
theorem dX11_heard_45 : decode cX11_heard 45 = .ok (.iconst (-1), 1) := by decide +kernel
theorem dX11_heard_46 : decode cX11_heard 46 = .ok (.if_icmp .ne 9, 3) := by decide +kernel
theorem dX11_heard_49 : decode cX11_heard 49 = .ok (.aload_n 0, 1) := by decide +kernel
theorem dX11_heard_50 : decode cX11_heard 50 = .ok (.iconst 2, 1) := by decide +kernel
theorem dX11_heard_51 : decode cX11_heard 51 = .ok (.invokevirtual 120, 3) := by decide +kernel
theorem dX11_heard_54 : decode cX11_heard 54 = .ok (.ireturn, 1) := by decide +kernel
theorem dX11_heard_55 : decode cX11_heard 55 = .ok (.aload_n 0, 1) := by decide +kernel
theorem dX11_heard_56 : decode cX11_heard 56 = .ok (.aload_n 0, 1) := by decide +kernel
theorem dX11_heard_57 : decode cX11_heard 57 = .ok (.getfield 25, 3) := by decide +kernel
theorem dX11_heard_60 : decode cX11_heard 60 = .ok (.iload_n 1, 1) := by decide +kernel
theorem dX11_heard_61 : decode cX11_heard 61 = .ok (.iload_n 2, 1) := by decide +kernel
theorem dX11_heard_62 : decode cX11_heard 62 = .ok (.iload 5, 2) := by decide +kernel
theorem dX11_heard_64 : decode cX11_heard 64 = .ok (.invokevirtual 326, 3) := by decide +kernel
theorem dX11_heard_67 : decode cX11_heard 67 = .ok (.invokevirtual 174, 3) := by decide +kernel
theorem dX11_heard_70 : decode cX11_heard 70 = .ok (.ireturn, 1) := by decide +kernel
theorem dX11_loudest_0 : decode cX11_loudest 0 = .ok (.aload_n 0, 1) := by decide +kernel
theorem dX11_loudest_1 : decode cX11_loudest 1 = .ok (.getfield 25, 3) := by decide +kernel
theorem dX11_loudest_4 : decode cX11_loudest 4 = .ok (.getfield 40, 3) := by decide +kernel
theorem dX11_loudest_7 : decode cX11_loudest 7 = .ok (.iload_n 1, 1) := by decide +kernel
theorem dX11_loudest_8 : decode cX11_loudest 8 = .ok (.iload_n 2, 1) := by decide +kernel
theorem dX11_loudest_9 : decode cX11_loudest 9 = .ok (.invokevirtual 285, 3) := by decide +kernel
theorem dX11_loudest_12 : decode cX11_loudest 12 = .ok (.istore_n 3, 1) := by decide +kernel
theorem dX11_loudest_13 : decode cX11_loudest 13 = .ok (.iload_n 3, 1) := by decide +kernel
theorem dX11_loudest_14 : decode cX11_loudest 14 = .ok (.iconst (-1), 1) := by decide +kernel
theorem dX11_loudest_15 : decode cX11_loudest 15 = .ok (.if_icmp .ne 9, 3) := by decide +kernel
theorem dX11_loudest_18 : decode cX11_loudest 18 = .ok (.aload_n 0, 1) := by decide +kernel
theorem dX11_loudest_19 : decode cX11_loudest 19 = .ok (.iconst 2, 1) := by decide +kernel
theorem dX11_loudest_20 : decode cX11_loudest 20 = .ok (.invokevirtual 120, 3) := by decide +kernel
theorem dX11_loudest_23 : decode cX11_loudest 23 = .ok (.ireturn, 1) := by decide +kernel
theorem dX11_loudest_24 : decode cX11_loudest 24 = .ok (.aload_n 0, 1) := by decide +kernel
theorem dX11_loudest_25 : decode cX11_loudest 25 = .ok (.aload_n 0, 1) := by decide +kernel
theorem dX11_loudest_26 : decode cX11_loudest 26 = .ok (.getfield 25, 3) := by decide +kernel
theorem dX11_loudest_29 : decode cX11_loudest 29 = .ok (.iload_n 3, 1) := by decide +kernel
theorem dX11_loudest_30 : decode cX11_loudest 30 = .ok (.invokevirtual 330, 3) := by decide +kernel
theorem dX11_loudest_33 : decode cX11_loudest 33 = .ok (.invokevirtual 174, 3) := by decide +kernel
theorem dX11_loudest_36 : decode cX11_loudest 36 = .ok (.ireturn, 1) := by decide +kernel
theorem dX11_holder_0 : decode cX11_holder 0 = .ok (.aload_n 0, 1) := by decide +kernel
theorem dX11_holder_1 : decode cX11_holder 1 = .ok (.getfield 25, 3) := by decide +kernel
theorem dX11_holder_4 : decode cX11_holder 4 = .ok (.getfield 40, 3) := by decide +kernel
theorem dX11_holder_7 : decode cX11_holder 7 = .ok (.iload_n 1, 1) := by decide +kernel
theorem dX11_holder_8 : decode cX11_holder 8 = .ok (.iload_n 2, 1) := by decide +kernel
theorem dX11_holder_9 : decode cX11_holder 9 = .ok (.invokevirtual 285, 3) := by decide +kernel
theorem dX11_holder_12 : decode cX11_holder 12 = .ok (.istore_n 3, 1) := by decide +kernel
theorem dX11_holder_13 : decode cX11_holder 13 = .ok (.iload_n 3, 1) := by decide +kernel
theorem dX11_holder_14 : decode cX11_holder 14 = .ok (.iconst (-1), 1) := by decide +kernel
theorem dX11_holder_15 : decode cX11_holder 15 = .ok (.if_icmp .ne 9, 3) := by decide +kernel
theorem dX11_holder_18 : decode cX11_holder 18 = .ok (.aload_n 0, 1) := by decide +kernel
theorem dX11_holder_19 : decode cX11_holder 19 = .ok (.iconst 2, 1) := by decide +kernel
theorem dX11_holder_20 : decode cX11_holder 20 = .ok (.invokevirtual 120, 3) := by decide +kernel
theorem dX11_holder_23 : decode cX11_holder 23 = .ok (.ireturn, 1) := by decide +kernel
theorem dX11_holder_24 : decode cX11_holder 24 = .ok (.aload_n 0, 1) := by decide +kernel
theorem dX11_holder_25 : decode cX11_holder 25 = .ok (.aload_n 0, 1) := by decide +kernel
theorem dX11_holder_26 : decode cX11_holder 26 = .ok (.getfield 25, 3) := by decide +kernel
theorem dX11_holder_29 : decode cX11_holder 29 = .ok (.iload_n 3, 1) := by decide +kernel
theorem dX11_holder_30 : decode cX11_holder 30 = .ok (.invokevirtual 333, 3) := by decide +kernel
theorem dX11_holder_33 : decode cX11_holder 33 = .ok (.invokevirtual 336, 3) := by decide +kernel
theorem dX11_holder_36 : decode cX11_holder 36 = .ok (.ireturn, 1) := by decide +kernel
theorem dX11_lawns_0 : decode cX11_lawns 0 = .ok (.aload_n 0, 1) := by decide +kernel
theorem dX11_lawns_1 : decode cX11_lawns 1 = .ok (.getfield 25, 3) := by decide +kernel
theorem dX11_lawns_4 : decode cX11_lawns 4 = .ok (.getfield 40, 3) := by decide +kernel
theorem dX11_lawns_7 : decode cX11_lawns 7 = .ok (.iload_n 1, 1) := by decide +kernel
theorem dX11_lawns_8 : decode cX11_lawns 8 = .ok (.invokevirtual 252, 3) := by decide +kernel
theorem dX11_lawns_11 : decode cX11_lawns 11 = .ok (.ifCond .ne 9, 3) := by decide +kernel
theorem dX11_lawns_14 : decode cX11_lawns 14 = .ok (.aload_n 0, 1) := by decide +kernel
theorem dX11_lawns_15 : decode cX11_lawns 15 = .ok (.iconst 2, 1) := by decide +kernel
theorem dX11_lawns_16 : decode cX11_lawns 16 = .ok (.invokevirtual 120, 3) := by decide +kernel
theorem dX11_lawns_19 : decode cX11_lawns 19 = .ok (.ireturn, 1) := by decide +kernel
theorem dX11_lawns_20 : decode cX11_lawns 20 = .ok (.aload_n 0, 1) := by decide +kernel
theorem dX11_lawns_21 : decode cX11_lawns 21 = .ok (.aload_n 0, 1) := by decide +kernel
theorem dX11_lawns_22 : decode cX11_lawns 22 = .ok (.getfield 25, 3) := by decide +kernel
theorem dX11_lawns_25 : decode cX11_lawns 25 = .ok (.iload_n 1, 1) := by decide +kernel
theorem dX11_lawns_26 : decode cX11_lawns 26 = .ok (.invokevirtual 339, 3) := by decide +kernel
theorem dX11_lawns_29 : decode cX11_lawns 29 = .ok (.invokevirtual 174, 3) := by decide +kernel
theorem dX11_lawns_32 : decode cX11_lawns 32 = .ok (.ireturn, 1) := by decide +kernel
theorem dX11_ponds_0 : decode cX11_ponds 0 = .ok (.aload_n 0, 1) := by decide +kernel
theorem dX11_ponds_1 : decode cX11_ponds 1 = .ok (.getfield 25, 3) := by decide +kernel
theorem dX11_ponds_4 : decode cX11_ponds 4 = .ok (.getfield 40, 3) := by decide +kernel
theorem dX11_ponds_7 : decode cX11_ponds 7 = .ok (.iload_n 1, 1) := by decide +kernel
theorem dX11_ponds_8 : decode cX11_ponds 8 = .ok (.invokevirtual 252, 3) := by decide +kernel
theorem dX11_ponds_11 : decode cX11_ponds 11 = .ok (.ifCond .ne 9, 3) := by decide +kernel
theorem dX11_ponds_14 : decode cX11_ponds 14 = .ok (.aload_n 0, 1) := by decide +kernel
theorem dX11_ponds_15 : decode cX11_ponds 15 = .ok (.iconst 2, 1) := by decide +kernel
theorem dX11_ponds_16 : decode cX11_ponds 16 = .ok (.invokevirtual 101, 3) := by decide +kernel
theorem dX11_ponds_19 : decode cX11_ponds 19 = .ok (.ireturn, 1) := by decide +kernel
theorem dX11_ponds_20 : decode cX11_ponds 20 = .ok (.aload_n 0, 1) := by decide +kernel
theorem dX11_ponds_21 : decode cX11_ponds 21 = .ok (.getfield 25, 3) := by decide +kernel
theorem dX11_ponds_24 : decode cX11_ponds 24 = .ok (.getfield 40, 3) := by decide +kernel
theorem dX11_ponds_27 : decode cX11_ponds 27 = .ok (.invokevirtual 221, 3) := by decide +kernel
theorem dX11_ponds_30 : decode cX11_ponds 30 = .ok (.istore_n 2, 1) := by decide +kernel
theorem dX11_ponds_31 : decode cX11_ponds 31 = .ok (.iload_n 2, 1) := by decide +kernel
theorem dX11_ponds_32 : decode cX11_ponds 32 = .ok (.ifCond .ne 10, 3) := by decide +kernel
theorem dX11_ponds_35 : decode cX11_ponds 35 = .ok (.aload_n 0, 1) := by decide +kernel
theorem dX11_ponds_36 : decode cX11_ponds 36 = .ok (.bipush 8, 2) := by decide +kernel
theorem dX11_ponds_38 : decode cX11_ponds 38 = .ok (.invokevirtual 101, 3) := by decide +kernel
theorem dX11_ponds_41 : decode cX11_ponds 41 = .ok (.ireturn, 1) := by decide +kernel
theorem dX11_ponds_42 : decode cX11_ponds 42 = .ok (.aload_n 0, 1) := by decide +kernel
theorem dX11_ponds_43 : decode cX11_ponds 43 = .ok (.aload_n 0, 1) := by decide +kernel
theorem dX11_ponds_44 : decode cX11_ponds 44 = .ok (.getfield 25, 3) := by decide +kernel
theorem dX11_ponds_47 : decode cX11_ponds 47 = .ok (.iload_n 1, 1) := by decide +kernel
theorem dX11_ponds_48 : decode cX11_ponds 48 = .ok (.invokevirtual 342, 3) := by decide +kernel
theorem dX11_ponds_51 : decode cX11_ponds 51 = .ok (.i2l, 1) := by decide +kernel
theorem dX11_ponds_52 : decode cX11_ponds 52 = .ok (.iload_n 2, 1) := by decide +kernel
theorem dX11_ponds_53 : decode cX11_ponds 53 = .ok (.i2l, 1) := by decide +kernel
theorem dX11_ponds_54 : decode cX11_ponds 54 = .ok (.invokevirtual 345, 3) := by decide +kernel
theorem dX11_ponds_57 : decode cX11_ponds 57 = .ok (.ireturn, 1) := by decide +kernel
theorem dX11_copyHeld_0 : decode cX11_copyHeld 0 = .ok (.iload_n 1, 1) := by decide +kernel
theorem dX11_copyHeld_1 : decode cX11_copyHeld 1 = .ok (.invokestatic 97, 3) := by decide +kernel
theorem dX11_copyHeld_4 : decode cX11_copyHeld 4 = .ok (.ifCond .ne 9, 3) := by decide +kernel
theorem dX11_copyHeld_7 : decode cX11_copyHeld 7 = .ok (.aload_n 0, 1) := by decide +kernel
theorem dX11_copyHeld_8 : decode cX11_copyHeld 8 = .ok (.iconst 1, 1) := by decide +kernel
theorem dX11_copyHeld_9 : decode cX11_copyHeld 9 = .ok (.invokevirtual 120, 3) := by decide +kernel
theorem dX11_copyHeld_12 : decode cX11_copyHeld 12 = .ok (.ireturn, 1) := by decide +kernel
theorem dX11_copyHeld_13 : decode cX11_copyHeld 13 = .ok (.aload_n 0, 1) := by decide +kernel
theorem dX11_copyHeld_14 : decode cX11_copyHeld 14 = .ok (.getfield 11, 3) := by decide +kernel
theorem dX11_copyHeld_17 : decode cX11_copyHeld 17 = .ok (.iload_n 1, 1) := by decide +kernel
theorem dX11_copyHeld_18 : decode cX11_copyHeld 18 = .ok (.aaload, 1) := by decide +kernel
theorem dX11_copyHeld_19 : decode cX11_copyHeld 19 = .ok (.astore_n 2, 1) := by decide +kernel
theorem dX11_copyHeld_20 : decode cX11_copyHeld 20 = .ok (.aload_n 2, 1) := by decide +kernel
theorem dX11_copyHeld_21 : decode cX11_copyHeld 21 = .ok (.getfield 128, 3) := by decide +kernel
theorem dX11_copyHeld_24 : decode cX11_copyHeld 24 = .ok (.ifCond .ne 9, 3) := by decide +kernel
theorem dX11_copyHeld_27 : decode cX11_copyHeld 27 = .ok (.aload_n 0, 1) := by decide +kernel
theorem dX11_copyHeld_28 : decode cX11_copyHeld 28 = .ok (.iconst 3, 1) := by decide +kernel
theorem dX11_copyHeld_29 : decode cX11_copyHeld 29 = .ok (.invokevirtual 120, 3) := by decide +kernel
theorem dX11_copyHeld_32 : decode cX11_copyHeld 32 = .ok (.ireturn, 1) := by decide +kernel
theorem dX11_copyHeld_33 : decode cX11_copyHeld 33 = .ok (.aload_n 0, 1) := by decide +kernel
theorem dX11_copyHeld_34 : decode cX11_copyHeld 34 = .ok (.getfield 25, 3) := by decide +kernel
theorem dX11_copyHeld_37 : decode cX11_copyHeld 37 = .ok (.getfield 40, 3) := by decide +kernel
theorem dX11_copyHeld_40 : decode cX11_copyHeld 40 = .ok (.invokevirtual 349, 3) := by decide +kernel
theorem dX11_copyHeld_43 : decode cX11_copyHeld 43 = .ok (.istore_n 3, 1) := by decide +kernel
theorem dX11_copyHeld_44 : decode cX11_copyHeld 44 = .ok (.aload_n 2, 1) := by decide +kernel
theorem dX11_copyHeld_45 : decode cX11_copyHeld 45 = .ok (.getfield 352, 3) := by decide +kernel
theorem dX11_copyHeld_48 : decode cX11_copyHeld 48 = .ok (.iload_n 3, 1) := by decide +kernel
theorem dX11_copyHeld_49 : decode cX11_copyHeld 49 = .ok (.if_icmp .ge 9, 3) := by decide +kernel
theorem dX11_copyHeld_52 : decode cX11_copyHeld 52 = .ok (.aload_n 0, 1) := by decide +kernel
theorem dX11_copyHeld_53 : decode cX11_copyHeld 53 = .ok (.iconst 4, 1) := by decide +kernel
theorem dX11_copyHeld_54 : decode cX11_copyHeld 54 = .ok (.invokevirtual 120, 3) := by decide +kernel
theorem dX11_copyHeld_57 : decode cX11_copyHeld 57 = .ok (.ireturn, 1) := by decide +kernel
theorem dX11_copyHeld_58 : decode cX11_copyHeld 58 = .ok (.iconst 0, 1) := by decide +kernel
theorem dX11_copyHeld_59 : decode cX11_copyHeld 59 = .ok (.istore 4, 2) := by decide +kernel
theorem dX11_copyHeld_61 : decode cX11_copyHeld 61 = .ok (.iload 4, 2) := by decide +kernel
theorem dX11_copyHeld_63 : decode cX11_copyHeld 63 = .ok (.iload_n 3, 1) := by decide +kernel
theorem dX11_copyHeld_64 : decode cX11_copyHeld 64 = .ok (.if_icmp .ge 29, 3) := by decide +kernel
theorem dX11_copyHeld_67 : decode cX11_copyHeld 67 = .ok (.aload_n 2, 1) := by decide +kernel
theorem dX11_copyHeld_68 : decode cX11_copyHeld 68 = .ok (.iload 4, 2) := by decide +kernel
theorem dX11_copyHeld_70 : decode cX11_copyHeld 70 = .ok (.aload_n 0, 1) := by decide +kernel
theorem dX11_copyHeld_71 : decode cX11_copyHeld 71 = .ok (.getfield 25, 3) := by decide +kernel
theorem dX11_copyHeld_74 : decode cX11_copyHeld 74 = .ok (.iload 4, 2) := by decide +kernel
theorem dX11_copyHeld_76 : decode cX11_copyHeld 76 = .ok (.invokevirtual 333, 3) := by decide +kernel
theorem dX11_copyHeld_79 : decode cX11_copyHeld 79 = .ok (.iconst (-1), 1) := by decide +kernel
theorem dX11_copyHeld_80 : decode cX11_copyHeld 80 = .ok (.invokestatic 305, 3) := by decide +kernel
theorem dX11_copyHeld_83 : decode cX11_copyHeld 83 = .ok (.i2l, 1) := by decide +kernel
theorem dX11_copyHeld_84 : decode cX11_copyHeld 84 = .ok (.invokevirtual 116, 3) := by decide +kernel
theorem dX11_copyHeld_87 : decode cX11_copyHeld 87 = .ok (.iinc 4 1, 3) := by decide +kernel
theorem dX11_copyHeld_90 : decode cX11_copyHeld 90 = .ok (.goto (-29), 3) := by decide +kernel
theorem dX11_copyHeld_93 : decode cX11_copyHeld 93 = .ok (.aload_n 0, 1) := by decide +kernel
theorem dX11_copyHeld_94 : decode cX11_copyHeld 94 = .ok (.iload_n 3, 1) := by decide +kernel
theorem dX11_copyHeld_95 : decode cX11_copyHeld 95 = .ok (.invokevirtual 174, 3) := by decide +kernel
theorem dX11_copyHeld_98 : decode cX11_copyHeld 98 = .ok (.ireturn, 1) := by decide +kernel
theorem dX11_holderIn_0 : decode cX11_holderIn 0 = .ok (.aload_n 0, 1) := by decide +kernel
theorem dX11_holderIn_1 : decode cX11_holderIn 1 = .ok (.getfield 25, 3) := by decide +kernel
theorem dX11_holderIn_4 : decode cX11_holderIn 4 = .ok (.getfield 40, 3) := by decide +kernel
theorem dX11_holderIn_7 : decode cX11_holderIn 7 = .ok (.iload_n 1, 1) := by decide +kernel
theorem dX11_holderIn_8 : decode cX11_holderIn 8 = .ok (.iload_n 2, 1) := by decide +kernel
theorem dX11_holderIn_9 : decode cX11_holderIn 9 = .ok (.invokevirtual 285, 3) := by decide +kernel
theorem dX11_holderIn_12 : decode cX11_holderIn 12 = .ok (.istore 4, 2) := by decide +kernel
theorem dX11_holderIn_14 : decode cX11_holderIn 14 = .ok (.iload 4, 2) := by decide +kernel
theorem dX11_holderIn_16 : decode cX11_holderIn 16 = .ok (.iconst (-1), 1) := by decide +kernel
theorem dX11_holderIn_17 : decode cX11_holderIn 17 = .ok (.if_icmp .ne 9, 3) := by decide +kernel
theorem dX11_holderIn_20 : decode cX11_holderIn 20 = .ok (.aload_n 0, 1) := by decide +kernel
theorem dX11_holderIn_21 : decode cX11_holderIn 21 = .ok (.iconst 2, 1) := by decide +kernel
theorem dX11_holderIn_22 : decode cX11_holderIn 22 = .ok (.invokevirtual 120, 3) := by decide +kernel
theorem dX11_holderIn_25 : decode cX11_holderIn 25 = .ok (.ireturn, 1) := by decide +kernel
theorem dX11_holderIn_26 : decode cX11_holderIn 26 = .ok (.iload_n 3, 1) := by decide +kernel
theorem dX11_holderIn_27 : decode cX11_holderIn 27 = .ok (.invokestatic 355, 3) := by decide +kernel
theorem dX11_holderIn_30 : decode cX11_holderIn 30 = .ok (.ifCond .ne 9, 3) := by decide +kernel
theorem dX11_holderIn_33 : decode cX11_holderIn 33 = .ok (.aload_n 0, 1) := by decide +kernel
theorem dX11_holderIn_34 : decode cX11_holderIn 34 = .ok (.iconst 5, 1) := by decide +kernel
theorem dX11_holderIn_35 : decode cX11_holderIn 35 = .ok (.invokevirtual 120, 3) := by decide +kernel
theorem dX11_holderIn_38 : decode cX11_holderIn 38 = .ok (.ireturn, 1) := by decide +kernel
theorem dX11_holderIn_39 : decode cX11_holderIn 39 = .ok (.aload_n 0, 1) := by decide +kernel
theorem dX11_holderIn_40 : decode cX11_holderIn 40 = .ok (.iload_n 3, 1) := by decide +kernel
theorem dX11_holderIn_41 : decode cX11_holderIn 41 = .ok (.invokevirtual 358, 3) := by decide +kernel
theorem dX11_holderIn_44 : decode cX11_holderIn 44 = .ok (.aload_n 0, 1) := by decide +kernel
theorem dX11_holderIn_45 : decode cX11_holderIn 45 = .ok (.aload_n 0, 1) := by decide +kernel
theorem dX11_holderIn_46 : decode cX11_holderIn 46 = .ok (.getfield 51, 3) := by decide +kernel
theorem dX11_holderIn_49 : decode cX11_holderIn 49 = .ok (.iload 4, 2) := by decide +kernel
theorem dX11_holderIn_51 : decode cX11_holderIn 51 = .ok (.invokevirtual 333, 3) := by decide +kernel
theorem dX11_holderIn_54 : decode cX11_holderIn 54 = .ok (.invokevirtual 336, 3) := by decide +kernel
theorem dX11_holderIn_57 : decode cX11_holderIn 57 = .ok (.ireturn, 1) := by decide +kernel
theorem dX11_pointsIn_0 : decode cX11_pointsIn 0 = .ok (.aload_n 0, 1) := by decide +kernel
theorem dX11_pointsIn_1 : decode cX11_pointsIn 1 = .ok (.getfield 25, 3) := by decide +kernel
theorem dX11_pointsIn_4 : decode cX11_pointsIn 4 = .ok (.getfield 40, 3) := by decide +kernel
theorem dX11_pointsIn_7 : decode cX11_pointsIn 7 = .ok (.iload_n 1, 1) := by decide +kernel
theorem dX11_pointsIn_8 : decode cX11_pointsIn 8 = .ok (.invokevirtual 252, 3) := by decide +kernel
theorem dX11_pointsIn_11 : decode cX11_pointsIn 11 = .ok (.ifCond .ne 9, 3) := by decide +kernel
theorem dX11_pointsIn_14 : decode cX11_pointsIn 14 = .ok (.aload_n 0, 1) := by decide +kernel
theorem dX11_pointsIn_15 : decode cX11_pointsIn 15 = .ok (.iconst 2, 1) := by decide +kernel
theorem dX11_pointsIn_16 : decode cX11_pointsIn 16 = .ok (.invokevirtual 120, 3) := by decide +kernel
theorem dX11_pointsIn_19 : decode cX11_pointsIn 19 = .ok (.ireturn, 1) := by decide +kernel
theorem dX11_pointsIn_20 : decode cX11_pointsIn 20 = .ok (.iload_n 2, 1) := by decide +kernel
theorem dX11_pointsIn_21 : decode cX11_pointsIn 21 = .ok (.invokestatic 355, 3) := by decide +kernel
theorem dX11_pointsIn_24 : decode cX11_pointsIn 24 = .ok (.ifCond .ne 9, 3) := by decide +kernel
theorem dX11_pointsIn_27 : decode cX11_pointsIn 27 = .ok (.aload_n 0, 1) := by decide +kernel
theorem dX11_pointsIn_28 : decode cX11_pointsIn 28 = .ok (.iconst 5, 1) := by decide +kernel
theorem dX11_pointsIn_29 : decode cX11_pointsIn 29 = .ok (.invokevirtual 120, 3) := by decide +kernel
theorem dX11_pointsIn_32 : decode cX11_pointsIn 32 = .ok (.ireturn, 1) := by decide +kernel
theorem dX11_pointsIn_33 : decode cX11_pointsIn 33 = .ok (.aload_n 0, 1) := by decide +kernel
theorem dX11_pointsIn_34 : decode cX11_pointsIn 34 = .ok (.iload_n 2, 1) := by decide +kernel
theorem dX11_pointsIn_35 : decode cX11_pointsIn 35 = .ok (.invokevirtual 358, 3) := by decide +kernel
theorem dX11_pointsIn_38 : decode cX11_pointsIn 38 = .ok (.aload_n 0, 1) := by decide +kernel
theorem dX11_pointsIn_39 : decode cX11_pointsIn 39 = .ok (.aload_n 0, 1) := by decide +kernel
theorem dX11_pointsIn_40 : decode cX11_pointsIn 40 = .ok (.getfield 51, 3) := by decide +kernel
theorem dX11_pointsIn_43 : decode cX11_pointsIn 43 = .ok (.getfield 40, 3) := by decide +kernel
theorem dX11_pointsIn_46 : decode cX11_pointsIn 46 = .ok (.getfield 255, 3) := by decide +kernel
theorem dX11_pointsIn_49 : decode cX11_pointsIn 49 = .ok (.iload_n 1, 1) := by decide +kernel
theorem dX11_pointsIn_50 : decode cX11_pointsIn 50 = .ok (.aaload, 1) := by decide +kernel
theorem dX11_pointsIn_51 : decode cX11_pointsIn 51 = .ok (.getfield 276, 3) := by decide +kernel
theorem dX11_pointsIn_54 : decode cX11_pointsIn 54 = .ok (.invokevirtual 174, 3) := by decide +kernel
theorem dX11_pointsIn_57 : decode cX11_pointsIn 57 = .ok (.ireturn, 1) := by decide +kernel
theorem dX11_lipsIn_0 : decode cX11_lipsIn 0 = .ok (.aload_n 0, 1) := by decide +kernel
theorem dX11_lipsIn_1 : decode cX11_lipsIn 1 = .ok (.getfield 25, 3) := by decide +kernel
theorem dX11_lipsIn_4 : decode cX11_lipsIn 4 = .ok (.getfield 40, 3) := by decide +kernel
theorem dX11_lipsIn_7 : decode cX11_lipsIn 7 = .ok (.iload_n 1, 1) := by decide +kernel
theorem dX11_lipsIn_8 : decode cX11_lipsIn 8 = .ok (.invokevirtual 252, 3) := by decide +kernel
theorem dX11_lipsIn_11 : decode cX11_lipsIn 11 = .ok (.ifCond .ne 9, 3) := by decide +kernel
theorem dX11_lipsIn_14 : decode cX11_lipsIn 14 = .ok (.aload_n 0, 1) := by decide +kernel
theorem dX11_lipsIn_15 : decode cX11_lipsIn 15 = .ok (.iconst 2, 1) := by decide +kernel
theorem dX11_lipsIn_16 : decode cX11_lipsIn 16 = .ok (.invokevirtual 120, 3) := by decide +kernel
theorem dX11_lipsIn_19 : decode cX11_lipsIn 19 = .ok (.ireturn, 1) := by decide +kernel
theorem dX11_lipsIn_20 : decode cX11_lipsIn 20 = .ok (.iload_n 2, 1) := by decide +kernel
theorem dX11_lipsIn_21 : decode cX11_lipsIn 21 = .ok (.invokestatic 355, 3) := by decide +kernel
theorem dX11_lipsIn_24 : decode cX11_lipsIn 24 = .ok (.ifCond .ne 9, 3) := by decide +kernel
theorem dX11_lipsIn_27 : decode cX11_lipsIn 27 = .ok (.aload_n 0, 1) := by decide +kernel
theorem dX11_lipsIn_28 : decode cX11_lipsIn 28 = .ok (.iconst 5, 1) := by decide +kernel
theorem dX11_lipsIn_29 : decode cX11_lipsIn 29 = .ok (.invokevirtual 120, 3) := by decide +kernel
theorem dX11_lipsIn_32 : decode cX11_lipsIn 32 = .ok (.ireturn, 1) := by decide +kernel
theorem dX11_lipsIn_33 : decode cX11_lipsIn 33 = .ok (.aload_n 0, 1) := by decide +kernel
theorem dX11_lipsIn_34 : decode cX11_lipsIn 34 = .ok (.iload_n 2, 1) := by decide +kernel
theorem dX11_lipsIn_35 : decode cX11_lipsIn 35 = .ok (.invokevirtual 358, 3) := by decide +kernel
theorem dX11_lipsIn_38 : decode cX11_lipsIn 38 = .ok (.aload_n 0, 1) := by decide +kernel
theorem dX11_lipsIn_39 : decode cX11_lipsIn 39 = .ok (.aload_n 0, 1) := by decide +kernel
theorem dX11_lipsIn_40 : decode cX11_lipsIn 40 = .ok (.getfield 51, 3) := by decide +kernel
theorem dX11_lipsIn_43 : decode cX11_lipsIn 43 = .ok (.getfield 40, 3) := by decide +kernel
theorem dX11_lipsIn_46 : decode cX11_lipsIn 46 = .ok (.getfield 255, 3) := by decide +kernel
theorem dX11_lipsIn_49 : decode cX11_lipsIn 49 = .ok (.iload_n 1, 1) := by decide +kernel
theorem dX11_lipsIn_50 : decode cX11_lipsIn 50 = .ok (.aaload, 1) := by decide +kernel
theorem dX11_lipsIn_51 : decode cX11_lipsIn 51 = .ok (.getfield 270, 3) := by decide +kernel
theorem dX11_lipsIn_54 : decode cX11_lipsIn 54 = .ok (.invokevirtual 174, 3) := by decide +kernel
theorem dX11_lipsIn_57 : decode cX11_lipsIn 57 = .ok (.ireturn, 1) := by decide +kernel
theorem dX11_tiredIn_0 : decode cX11_tiredIn 0 = .ok (.aload_n 0, 1) := by decide +kernel
theorem dX11_tiredIn_1 : decode cX11_tiredIn 1 = .ok (.getfield 25, 3) := by decide +kernel
theorem dX11_tiredIn_4 : decode cX11_tiredIn 4 = .ok (.getfield 40, 3) := by decide +kernel
theorem dX11_tiredIn_7 : decode cX11_tiredIn 7 = .ok (.iload_n 1, 1) := by decide +kernel
theorem dX11_tiredIn_8 : decode cX11_tiredIn 8 = .ok (.invokevirtual 252, 3) := by decide +kernel
theorem dX11_tiredIn_11 : decode cX11_tiredIn 11 = .ok (.ifCond .ne 9, 3) := by decide +kernel
theorem dX11_tiredIn_14 : decode cX11_tiredIn 14 = .ok (.aload_n 0, 1) := by decide +kernel
theorem dX11_tiredIn_15 : decode cX11_tiredIn 15 = .ok (.iconst 2, 1) := by decide +kernel
theorem dX11_tiredIn_16 : decode cX11_tiredIn 16 = .ok (.invokevirtual 120, 3) := by decide +kernel
theorem dX11_tiredIn_19 : decode cX11_tiredIn 19 = .ok (.ireturn, 1) := by decide +kernel
theorem dX11_tiredIn_20 : decode cX11_tiredIn 20 = .ok (.aload_n 0, 1) := by decide +kernel
theorem dX11_tiredIn_21 : decode cX11_tiredIn 21 = .ok (.iconst 0, 1) := by decide +kernel
theorem dX11_tiredIn_22 : decode cX11_tiredIn 22 = .ok (.invokevirtual 358, 3) := by decide +kernel
theorem dX11_tiredIn_25 : decode cX11_tiredIn 25 = .ok (.iconst 0, 1) := by decide +kernel
theorem dX11_tiredIn_26 : decode cX11_tiredIn 26 = .ok (.istore_n 2, 1) := by decide +kernel
theorem dX11_tiredIn_27 : decode cX11_tiredIn 27 = .ok (.iload_n 2, 1) := by decide +kernel
theorem dX11_tiredIn_28 : decode cX11_tiredIn 28 = .ok (.sipush 200, 3) := by decide +kernel
theorem dX11_tiredIn_31 : decode cX11_tiredIn 31 = .ok (.if_icmp .gt 39, 3) := by decide +kernel
theorem dX11_tiredIn_34 : decode cX11_tiredIn 34 = .ok (.aload_n 0, 1) := by decide +kernel
theorem dX11_tiredIn_35 : decode cX11_tiredIn 35 = .ok (.getfield 51, 3) := by decide +kernel
theorem dX11_tiredIn_38 : decode cX11_tiredIn 38 = .ok (.invokevirtual 231, 3) := by decide +kernel
theorem dX11_tiredIn_41 : decode cX11_tiredIn 41 = .ok (.iload_n 1, 1) := by decide +kernel
theorem dX11_tiredIn_42 : decode cX11_tiredIn 42 = .ok (.ishr, 1) := by decide +kernel
theorem dX11_tiredIn_43 : decode cX11_tiredIn 43 = .ok (.iconst 1, 1) := by decide +kernel
theorem dX11_tiredIn_44 : decode cX11_tiredIn 44 = .ok (.iand, 1) := by decide +kernel
theorem dX11_tiredIn_45 : decode cX11_tiredIn 45 = .ok (.iconst 1, 1) := by decide +kernel
theorem dX11_tiredIn_46 : decode cX11_tiredIn 46 = .ok (.if_icmp .ne 9, 3) := by decide +kernel
theorem dX11_tiredIn_49 : decode cX11_tiredIn 49 = .ok (.aload_n 0, 1) := by decide +kernel
theorem dX11_tiredIn_50 : decode cX11_tiredIn 50 = .ok (.iload_n 2, 1) := by decide +kernel
theorem dX11_tiredIn_51 : decode cX11_tiredIn 51 = .ok (.invokevirtual 174, 3) := by decide +kernel
theorem dX11_tiredIn_54 : decode cX11_tiredIn 54 = .ok (.ireturn, 1) := by decide +kernel
theorem dX11_tiredIn_55 : decode cX11_tiredIn 55 = .ok (.aload_n 0, 1) := by decide +kernel
theorem dX11_tiredIn_56 : decode cX11_tiredIn 56 = .ok (.getfield 51, 3) := by decide +kernel
theorem dX11_tiredIn_59 : decode cX11_tiredIn 59 = .ok (.iconst 1, 1) := by decide +kernel
theorem dX11_tiredIn_60 : decode cX11_tiredIn 60 = .ok (.invokevirtual 292, 3) := by decide +kernel
theorem dX11_tiredIn_63 : decode cX11_tiredIn 63 = .ok (.pop, 1) := by decide +kernel
theorem dX11_tiredIn_64 : decode cX11_tiredIn 64 = .ok (.iinc 2 1, 3) := by decide +kernel
theorem dX11_tiredIn_67 : decode cX11_tiredIn 67 = .ok (.goto (-40), 3) := by decide +kernel
theorem dX11_tiredIn_70 : decode cX11_tiredIn 70 = .ok (.aload_n 0, 1) := by decide +kernel
theorem dX11_tiredIn_71 : decode cX11_tiredIn 71 = .ok (.bipush 8, 2) := by decide +kernel
theorem dX11_tiredIn_73 : decode cX11_tiredIn 73 = .ok (.invokevirtual 120, 3) := by decide +kernel
theorem dX11_tiredIn_76 : decode cX11_tiredIn 76 = .ok (.ireturn, 1) := by decide +kernel
theorem dX11_changesIn_0 : decode cX11_changesIn 0 = .ok (.aload_n 0, 1) := by decide +kernel
theorem dX11_changesIn_1 : decode cX11_changesIn 1 = .ok (.getfield 25, 3) := by decide +kernel
theorem dX11_changesIn_4 : decode cX11_changesIn 4 = .ok (.getfield 40, 3) := by decide +kernel
theorem dX11_changesIn_7 : decode cX11_changesIn 7 = .ok (.iload_n 1, 1) := by decide +kernel
theorem dX11_changesIn_8 : decode cX11_changesIn 8 = .ok (.iload_n 2, 1) := by decide +kernel
theorem dX11_changesIn_9 : decode cX11_changesIn 9 = .ok (.invokevirtual 285, 3) := by decide +kernel
theorem dX11_changesIn_12 : decode cX11_changesIn 12 = .ok (.istore_n 3, 1) := by decide +kernel
theorem dX11_changesIn_13 : decode cX11_changesIn 13 = .ok (.iload_n 3, 1) := by decide +kernel
theorem dX11_changesIn_14 : decode cX11_changesIn 14 = .ok (.iconst (-1), 1) := by decide +kernel
theorem dX11_changesIn_15 : decode cX11_changesIn 15 = .ok (.if_icmp .ne 9, 3) := by decide +kernel
theorem dX11_changesIn_18 : decode cX11_changesIn 18 = .ok (.aload_n 0, 1) := by decide +kernel
theorem dX11_changesIn_19 : decode cX11_changesIn 19 = .ok (.iconst 2, 1) := by decide +kernel
theorem dX11_changesIn_20 : decode cX11_changesIn 20 = .ok (.invokevirtual 120, 3) := by decide +kernel
theorem dX11_changesIn_23 : decode cX11_changesIn 23 = .ok (.ireturn, 1) := by decide +kernel
theorem dX11_changesIn_24 : decode cX11_changesIn 24 = .ok (.aload_n 0, 1) := by decide +kernel
theorem dX11_changesIn_25 : decode cX11_changesIn 25 = .ok (.getfield 25, 3) := by decide +kernel
theorem dX11_changesIn_28 : decode cX11_changesIn 28 = .ok (.iload_n 3, 1) := by decide +kernel
theorem dX11_changesIn_29 : decode cX11_changesIn 29 = .ok (.invokevirtual 333, 3) := by decide +kernel
theorem dX11_changesIn_32 : decode cX11_changesIn 32 = .ok (.iconst (-1), 1) := by decide +kernel
theorem dX11_changesIn_33 : decode cX11_changesIn 33 = .ok (.invokestatic 305, 3) := by decide +kernel
theorem dX11_changesIn_36 : decode cX11_changesIn 36 = .ok (.istore 4, 2) := by decide +kernel
theorem dX11_changesIn_38 : decode cX11_changesIn 38 = .ok (.aload_n 0, 1) := by decide +kernel
theorem dX11_changesIn_39 : decode cX11_changesIn 39 = .ok (.iconst 0, 1) := by decide +kernel
theorem dX11_changesIn_40 : decode cX11_changesIn 40 = .ok (.invokevirtual 358, 3) := by decide +kernel
theorem dX11_changesIn_43 : decode cX11_changesIn 43 = .ok (.iconst 1, 1) := by decide +kernel
theorem dX11_changesIn_44 : decode cX11_changesIn 44 = .ok (.istore 5, 2) := by decide +kernel
theorem dX11_changesIn_46 : decode cX11_changesIn 46 = .ok (.iload 5, 2) := by decide +kernel
theorem dX11_changesIn_48 : decode cX11_changesIn 48 = .ok (.sipush 200, 3) := by decide +kernel
theorem dX11_changesIn_51 : decode cX11_changesIn 51 = .ok (.if_icmp .gt 42, 3) := by decide +kernel
theorem dX11_changesIn_54 : decode cX11_changesIn 54 = .ok (.aload_n 0, 1) := by decide +kernel
theorem dX11_changesIn_55 : decode cX11_changesIn 55 = .ok (.getfield 51, 3) := by decide +kernel
theorem dX11_changesIn_58 : decode cX11_changesIn 58 = .ok (.iconst 1, 1) := by decide +kernel
theorem dX11_changesIn_59 : decode cX11_changesIn 59 = .ok (.invokevirtual 292, 3) := by decide +kernel
theorem dX11_changesIn_62 : decode cX11_changesIn 62 = .ok (.pop, 1) := by decide +kernel
theorem dX11_changesIn_63 : decode cX11_changesIn 63 = .ok (.aload_n 0, 1) := by decide +kernel
theorem dX11_changesIn_64 : decode cX11_changesIn 64 = .ok (.getfield 51, 3) := by decide +kernel
theorem dX11_changesIn_67 : decode cX11_changesIn 67 = .ok (.iload_n 3, 1) := by decide +kernel
theorem dX11_changesIn_68 : decode cX11_changesIn 68 = .ok (.invokevirtual 333, 3) := by decide +kernel
theorem dX11_changesIn_71 : decode cX11_changesIn 71 = .ok (.iconst (-1), 1) := by decide +kernel
theorem dX11_changesIn_72 : decode cX11_changesIn 72 = .ok (.invokestatic 305, 3) := by decide +kernel
theorem dX11_changesIn_75 : decode cX11_changesIn 75 = .ok (.iload 4, 2) := by decide +kernel
theorem dX11_changesIn_77 : decode cX11_changesIn 77 = .ok (.if_icmp .eq 10, 3) := by decide +kernel
theorem dX11_changesIn_80 : decode cX11_changesIn 80 = .ok (.aload_n 0, 1) := by decide +kernel
theorem dX11_changesIn_81 : decode cX11_changesIn 81 = .ok (.iload 5, 2) := by decide +kernel
theorem dX11_changesIn_83 : decode cX11_changesIn 83 = .ok (.invokevirtual 174, 3) := by decide +kernel
theorem dX11_changesIn_86 : decode cX11_changesIn 86 = .ok (.ireturn, 1) := by decide +kernel
theorem dX11_changesIn_87 : decode cX11_changesIn 87 = .ok (.iinc 5 1, 3) := by decide +kernel
theorem dX11_changesIn_90 : decode cX11_changesIn 90 = .ok (.goto (-44), 3) := by decide +kernel
theorem dX11_changesIn_93 : decode cX11_changesIn 93 = .ok (.aload_n 0, 1) := by decide +kernel
theorem dX11_changesIn_94 : decode cX11_changesIn 94 = .ok (.bipush 8, 2) := by decide +kernel
theorem dX11_changesIn_96 : decode cX11_changesIn 96 = .ok (.invokevirtual 120, 3) := by decide +kernel
theorem dX11_changesIn_99 : decode cX11_changesIn 99 = .ok (.ireturn, 1) := by decide +kernel
theorem dX11_holding_0 : decode cX11_holding 0 = .ok (.aload_n 0, 1) := by decide +kernel
theorem dX11_holding_1 : decode cX11_holding 1 = .ok (.iload_n 1, 1) := by decide +kernel
theorem dX11_holding_2 : decode cX11_holding 2 = .ok (.iload_n 2, 1) := by decide +kernel
theorem dX11_holding_3 : decode cX11_holding 3 = .ok (.iload_n 3, 1) := by decide +kernel
theorem dX11_holding_4 : decode cX11_holding 4 = .ok (.iload 4, 2) := by decide +kernel
theorem dX11_holding_6 : decode cX11_holding 6 = .ok (.invokevirtual 361, 3) := by decide +kernel
theorem dX11_holding_9 : decode cX11_holding 9 = .ok (.istore 5, 2) := by decide +kernel
theorem dX11_holding_11 : decode cX11_holding 11 = .ok (.iload 5, 2) := by decide +kernel
theorem dX11_holding_13 : decode cX11_holding 13 = .ok (.ifCond .eq 10, 3) := by decide +kernel
theorem dX11_holding_16 : decode cX11_holding 16 = .ok (.aload_n 0, 1) := by decide +kernel
theorem dX11_holding_17 : decode cX11_holding 17 = .ok (.iload 5, 2) := by decide +kernel
theorem dX11_holding_19 : decode cX11_holding 19 = .ok (.invokevirtual 120, 3) := by decide +kernel
theorem dX11_holding_22 : decode cX11_holding 22 = .ok (.ireturn, 1) := by decide +kernel
theorem dX11_holding_23 : decode cX11_holding 23 = .ok (.aload_n 0, 1) := by decide +kernel
theorem dX11_holding_24 : decode cX11_holding 24 = .ok (.iconst 0, 1) := by decide +kernel
theorem dX11_holding_25 : decode cX11_holding 25 = .ok (.invokevirtual 358, 3) := by decide +kernel
theorem dX11_holding_28 : decode cX11_holding 28 = .ok (.aload_n 0, 1) := by decide +kernel
theorem dX11_holding_29 : decode cX11_holding 29 = .ok (.aload_n 0, 1) := by decide +kernel
theorem dX11_holding_30 : decode cX11_holding 30 = .ok (.getfield 57, 3) := by decide +kernel
theorem dX11_holding_33 : decode cX11_holding 33 = .ok (.aload_n 0, 1) := by decide +kernel
theorem dX11_holding_34 : decode cX11_holding 34 = .ok (.getfield 51, 3) := by decide +kernel
theorem dX11_holding_37 : decode cX11_holding 37 = .ok (.iload_n 1, 1) := by decide +kernel
theorem dX11_holding_38 : decode cX11_holding 38 = .ok (.aload_n 0, 1) := by decide +kernel
theorem dX11_holding_39 : decode cX11_holding 39 = .ok (.getfield 25, 3) := by decide +kernel
theorem dX11_holding_42 : decode cX11_holding 42 = .ok (.getfield 40, 3) := by decide +kernel
theorem dX11_holding_45 : decode cX11_holding 45 = .ok (.iload_n 2, 1) := by decide +kernel
theorem dX11_holding_46 : decode cX11_holding 46 = .ok (.iload_n 3, 1) := by decide +kernel
theorem dX11_holding_47 : decode cX11_holding 47 = .ok (.invokevirtual 285, 3) := by decide +kernel
theorem dX11_holding_50 : decode cX11_holding 50 = .ok (.iload 4, 2) := by decide +kernel
theorem dX11_holding_52 : decode cX11_holding 52 = .ok (.invokevirtual 365, 3) := by decide +kernel
theorem dX11_holding_55 : decode cX11_holding 55 = .ok (.invokevirtual 174, 3) := by decide +kernel
theorem dX11_holding_58 : decode cX11_holding 58 = .ok (.ireturn, 1) := by decide +kernel
theorem dX11_holdingAt_0 : decode cX11_holdingAt 0 = .ok (.aload_n 0, 1) := by decide +kernel
theorem dX11_holdingAt_1 : decode cX11_holdingAt 1 = .ok (.iload_n 1, 1) := by decide +kernel
theorem dX11_holdingAt_2 : decode cX11_holdingAt 2 = .ok (.iload_n 2, 1) := by decide +kernel
theorem dX11_holdingAt_3 : decode cX11_holdingAt 3 = .ok (.iload_n 3, 1) := by decide +kernel
theorem dX11_holdingAt_4 : decode cX11_holdingAt 4 = .ok (.iload 4, 2) := by decide +kernel
theorem dX11_holdingAt_6 : decode cX11_holdingAt 6 = .ok (.invokevirtual 361, 3) := by decide +kernel
theorem dX11_holdingAt_9 : decode cX11_holdingAt 9 = .ok (.istore 6, 2) := by decide +kernel
theorem dX11_holdingAt_11 : decode cX11_holdingAt 11 = .ok (.iload 6, 2) := by decide +kernel
theorem dX11_holdingAt_13 : decode cX11_holdingAt 13 = .ok (.ifCond .eq 10, 3) := by decide +kernel
theorem dX11_holdingAt_16 : decode cX11_holdingAt 16 = .ok (.aload_n 0, 1) := by decide +kernel
theorem dX11_holdingAt_17 : decode cX11_holdingAt 17 = .ok (.iload 6, 2) := by decide +kernel
theorem dX11_holdingAt_19 : decode cX11_holdingAt 19 = .ok (.invokevirtual 120, 3) := by decide +kernel
theorem dX11_holdingAt_22 : decode cX11_holdingAt 22 = .ok (.ireturn, 1) := by decide +kernel
theorem dX11_holdingAt_23 : decode cX11_holdingAt 23 = .ok (.iload 5, 2) := by decide +kernel
theorem dX11_holdingAt_25 : decode cX11_holdingAt 25 = .ok (.ifCond .lt 10, 3) := by decide +kernel
theorem dX11_holdingAt_28 : decode cX11_holdingAt 28 = .ok (.iload 5, 2) := by decide +kernel
theorem dX11_holdingAt_30 : decode cX11_holdingAt 30 = .ok (.iload 4, 2) := by decide +kernel
theorem dX11_holdingAt_32 : decode cX11_holdingAt 32 = .ok (.if_icmp .lt 10, 3) := by decide +kernel
theorem dX11_holdingAt_35 : decode cX11_holdingAt 35 = .ok (.aload_n 0, 1) := by decide +kernel
theorem dX11_holdingAt_36 : decode cX11_holdingAt 36 = .ok (.bipush 8, 2) := by decide +kernel
theorem dX11_holdingAt_38 : decode cX11_holdingAt 38 = .ok (.invokevirtual 120, 3) := by decide +kernel
theorem dX11_holdingAt_41 : decode cX11_holdingAt 41 = .ok (.ireturn, 1) := by decide +kernel
theorem dX11_holdingAt_42 : decode cX11_holdingAt 42 = .ok (.aload_n 0, 1) := by decide +kernel
theorem dX11_holdingAt_43 : decode cX11_holdingAt 43 = .ok (.iconst 0, 1) := by decide +kernel
theorem dX11_holdingAt_44 : decode cX11_holdingAt 44 = .ok (.invokevirtual 358, 3) := by decide +kernel
theorem dX11_holdingAt_47 : decode cX11_holdingAt 47 = .ok (.aload_n 0, 1) := by decide +kernel
theorem dX11_holdingAt_48 : decode cX11_holdingAt 48 = .ok (.getfield 57, 3) := by decide +kernel
theorem dX11_holdingAt_51 : decode cX11_holdingAt 51 = .ok (.aload_n 0, 1) := by decide +kernel
theorem dX11_holdingAt_52 : decode cX11_holdingAt 52 = .ok (.getfield 51, 3) := by decide +kernel
theorem dX11_holdingAt_55 : decode cX11_holdingAt 55 = .ok (.iload_n 1, 1) := by decide +kernel
theorem dX11_holdingAt_56 : decode cX11_holdingAt 56 = .ok (.aload_n 0, 1) := by decide +kernel
theorem dX11_holdingAt_57 : decode cX11_holdingAt 57 = .ok (.getfield 25, 3) := by decide +kernel
theorem dX11_holdingAt_60 : decode cX11_holdingAt 60 = .ok (.getfield 40, 3) := by decide +kernel
theorem dX11_holdingAt_63 : decode cX11_holdingAt 63 = .ok (.iload_n 2, 1) := by decide +kernel
theorem dX11_holdingAt_64 : decode cX11_holdingAt 64 = .ok (.iload_n 3, 1) := by decide +kernel
theorem dX11_holdingAt_65 : decode cX11_holdingAt 65 = .ok (.invokevirtual 285, 3) := by decide +kernel
theorem dX11_holdingAt_68 : decode cX11_holdingAt 68 = .ok (.iload 4, 2) := by decide +kernel
theorem dX11_holdingAt_70 : decode cX11_holdingAt 70 = .ok (.invokevirtual 365, 3) := by decide +kernel
theorem dX11_holdingAt_73 : decode cX11_holdingAt 73 = .ok (.pop, 1) := by decide +kernel
theorem dX11_holdingAt_74 : decode cX11_holdingAt 74 = .ok (.aload_n 0, 1) := by decide +kernel
theorem dX11_holdingAt_75 : decode cX11_holdingAt 75 = .ok (.aload_n 0, 1) := by decide +kernel
theorem dX11_holdingAt_76 : decode cX11_holdingAt 76 = .ok (.getfield 57, 3) := by decide +kernel
theorem dX11_holdingAt_79 : decode cX11_holdingAt 79 = .ok (.getfield 369, 3) := by decide +kernel
theorem dX11_holdingAt_82 : decode cX11_holdingAt 82 = .ok (.iload 5, 2) := by decide +kernel
theorem dX11_holdingAt_84 : decode cX11_holdingAt 84 = .ok (.iaload, 1) := by decide +kernel
theorem dX11_holdingAt_85 : decode cX11_holdingAt 85 = .ok (.invokevirtual 174, 3) := by decide +kernel
theorem dX11_holdingAt_88 : decode cX11_holdingAt 88 = .ok (.ireturn, 1) := by decide +kernel
theorem dX11_best_0 : decode cX11_best 0 = .ok (.aload_n 0, 1) := by decide +kernel
theorem dX11_best_1 : decode cX11_best 1 = .ok (.iload_n 1, 1) := by decide +kernel
theorem dX11_best_2 : decode cX11_best 2 = .ok (.invokevirtual 372, 3) := by decide +kernel
theorem dX11_best_5 : decode cX11_best 5 = .ok (.istore_n 2, 1) := by decide +kernel
theorem dX11_best_6 : decode cX11_best 6 = .ok (.iload_n 2, 1) := by decide +kernel
theorem dX11_best_7 : decode cX11_best 7 = .ok (.ifCond .eq 9, 3) := by decide +kernel
theorem dX11_best_10 : decode cX11_best 10 = .ok (.aload_n 0, 1) := by decide +kernel
theorem dX11_best_11 : decode cX11_best 11 = .ok (.iload_n 2, 1) := by decide +kernel
theorem dX11_best_12 : decode cX11_best 12 = .ok (.invokevirtual 120, 3) := by decide +kernel
theorem dX11_best_15 : decode cX11_best 15 = .ok (.ireturn, 1) := by decide +kernel
theorem dX11_best_16 : decode cX11_best 16 = .ok (.aload_n 0, 1) := by decide +kernel
theorem dX11_best_17 : decode cX11_best 17 = .ok (.aload_n 0, 1) := by decide +kernel
theorem dX11_best_18 : decode cX11_best 18 = .ok (.getfield 57, 3) := by decide +kernel
theorem dX11_best_21 : decode cX11_best 21 = .ok (.aload_n 0, 1) := by decide +kernel
theorem dX11_best_22 : decode cX11_best 22 = .ok (.getfield 25, 3) := by decide +kernel
theorem dX11_best_25 : decode cX11_best 25 = .ok (.iload_n 1, 1) := by decide +kernel
theorem dX11_best_26 : decode cX11_best 26 = .ok (.invokevirtual 375, 3) := by decide +kernel
theorem dX11_best_29 : decode cX11_best 29 = .ok (.invokevirtual 174, 3) := by decide +kernel
theorem dX11_best_32 : decode cX11_best 32 = .ok (.ireturn, 1) := by decide +kernel
theorem dX11_bestLawns_0 : decode cX11_bestLawns 0 = .ok (.aload_n 0, 1) := by decide +kernel
theorem dX11_bestLawns_1 : decode cX11_bestLawns 1 = .ok (.iload_n 1, 1) := by decide +kernel
theorem dX11_bestLawns_2 : decode cX11_bestLawns 2 = .ok (.invokevirtual 372, 3) := by decide +kernel
theorem dX11_bestLawns_5 : decode cX11_bestLawns 5 = .ok (.istore_n 2, 1) := by decide +kernel
theorem dX11_bestLawns_6 : decode cX11_bestLawns 6 = .ok (.iload_n 2, 1) := by decide +kernel
theorem dX11_bestLawns_7 : decode cX11_bestLawns 7 = .ok (.ifCond .eq 9, 3) := by decide +kernel
theorem dX11_bestLawns_10 : decode cX11_bestLawns 10 = .ok (.aload_n 0, 1) := by decide +kernel
theorem dX11_bestLawns_11 : decode cX11_bestLawns 11 = .ok (.iload_n 2, 1) := by decide +kernel
theorem dX11_bestLawns_12 : decode cX11_bestLawns 12 = .ok (.invokevirtual 120, 3) := by decide +kernel
theorem dX11_bestLawns_15 : decode cX11_bestLawns 15 = .ok (.ireturn, 1) := by decide +kernel
theorem dX11_bestLawns_16 : decode cX11_bestLawns 16 = .ok (.aload_n 0, 1) := by decide +kernel
theorem dX11_bestLawns_17 : decode cX11_bestLawns 17 = .ok (.aload_n 0, 1) := by decide +kernel
theorem dX11_bestLawns_18 : decode cX11_bestLawns 18 = .ok (.getfield 57, 3) := by decide +kernel
theorem dX11_bestLawns_21 : decode cX11_bestLawns 21 = .ok (.aload_n 0, 1) := by decide +kernel
theorem dX11_bestLawns_22 : decode cX11_bestLawns 22 = .ok (.getfield 25, 3) := by decide +kernel
theorem dX11_bestLawns_25 : decode cX11_bestLawns 25 = .ok (.iload_n 1, 1) := by decide +kernel
theorem dX11_bestLawns_26 : decode cX11_bestLawns 26 = .ok (.aload_n 0, 1) := by decide +kernel
theorem dX11_bestLawns_27 : decode cX11_bestLawns 27 = .ok (.getfield 57, 3) := by decide +kernel
theorem dX11_bestLawns_30 : decode cX11_bestLawns 30 = .ok (.aload_n 0, 1) := by decide +kernel
theorem dX11_bestLawns_31 : decode cX11_bestLawns 31 = .ok (.getfield 25, 3) := by decide +kernel
theorem dX11_bestLawns_34 : decode cX11_bestLawns 34 = .ok (.iload_n 1, 1) := by decide +kernel
theorem dX11_bestLawns_35 : decode cX11_bestLawns 35 = .ok (.invokevirtual 375, 3) := by decide +kernel
theorem dX11_bestLawns_38 : decode cX11_bestLawns 38 = .ok (.invokevirtual 379, 3) := by decide +kernel
theorem dX11_bestLawns_41 : decode cX11_bestLawns 41 = .ok (.invokevirtual 174, 3) := by decide +kernel
theorem dX11_bestLawns_44 : decode cX11_bestLawns 44 = .ok (.ireturn, 1) := by decide +kernel
theorem dX11_low_0 : decode cX11_low 0 = .ok (.aload_n 0, 1) := by decide +kernel
theorem dX11_low_1 : decode cX11_low 1 = .ok (.getfield 25, 3) := by decide +kernel
theorem dX11_low_4 : decode cX11_low 4 = .ok (.getfield 40, 3) := by decide +kernel
theorem dX11_low_7 : decode cX11_low 7 = .ok (.iload_n 2, 1) := by decide +kernel
theorem dX11_low_8 : decode cX11_low 8 = .ok (.iload_n 3, 1) := by decide +kernel
theorem dX11_low_9 : decode cX11_low 9 = .ok (.invokevirtual 285, 3) := by decide +kernel
theorem dX11_low_12 : decode cX11_low 12 = .ok (.istore 4, 2) := by decide +kernel
theorem dX11_low_14 : decode cX11_low 14 = .ok (.aload_n 0, 1) := by decide +kernel
theorem dX11_low_15 : decode cX11_low 15 = .ok (.getfield 25, 3) := by decide +kernel
theorem dX11_low_18 : decode cX11_low 18 = .ok (.getfield 40, 3) := by decide +kernel
theorem dX11_low_21 : decode cX11_low 21 = .ok (.iload_n 1, 1) := by decide +kernel
theorem dX11_low_22 : decode cX11_low 22 = .ok (.invokevirtual 252, 3) := by decide +kernel
theorem dX11_low_25 : decode cX11_low 25 = .ok (.ifCond .eq 9, 3) := by decide +kernel
theorem dX11_low_28 : decode cX11_low 28 = .ok (.iload 4, 2) := by decide +kernel
theorem dX11_low_30 : decode cX11_low 30 = .ok (.iconst (-1), 1) := by decide +kernel
theorem dX11_low_31 : decode cX11_low 31 = .ok (.if_icmp .ne 9, 3) := by decide +kernel
theorem dX11_low_34 : decode cX11_low 34 = .ok (.aload_n 0, 1) := by decide +kernel
theorem dX11_low_35 : decode cX11_low 35 = .ok (.iconst 2, 1) := by decide +kernel
theorem dX11_low_36 : decode cX11_low 36 = .ok (.invokevirtual 120, 3) := by decide +kernel
theorem dX11_low_39 : decode cX11_low 39 = .ok (.ireturn, 1) := by decide +kernel
theorem dX11_low_40 : decode cX11_low 40 = .ok (.aload_n 0, 1) := by decide +kernel
theorem dX11_low_41 : decode cX11_low 41 = .ok (.getfield 57, 3) := by decide +kernel
theorem dX11_low_44 : decode cX11_low 44 = .ok (.aload_n 0, 1) := by decide +kernel
theorem dX11_low_45 : decode cX11_low 45 = .ok (.getfield 25, 3) := by decide +kernel
theorem dX11_low_48 : decode cX11_low 48 = .ok (.iload_n 1, 1) := by decide +kernel
theorem dX11_low_49 : decode cX11_low 49 = .ok (.iload 4, 2) := by decide +kernel
theorem dX11_low_51 : decode cX11_low 51 = .ok (.invokevirtual 383, 3) := by decide +kernel
theorem dX11_low_54 : decode cX11_low 54 = .ok (.istore 5, 2) := by decide +kernel
theorem dX11_low_56 : decode cX11_low 56 = .ok (.iload 5, 2) := by decide +kernel
theorem dX11_low_58 : decode cX11_low 58 = .ok (.iconst (-1), 1) := by decide +kernel
theorem dX11_low_59 : decode cX11_low 59 = .ok (.if_icmp .ne 12, 3) := by decide +kernel
theorem dX11_low_62 : decode cX11_low 62 = .ok (.aload_n 0, 1) := by decide +kernel
theorem dX11_low_63 : decode cX11_low 63 = .ok (.bipush 8, 2) := by decide +kernel
theorem dX11_low_65 : decode cX11_low 65 = .ok (.invokevirtual 120, 3) := by decide +kernel
theorem dX11_low_68 : decode cX11_low 68 = .ok (.goto 9, 3) := by decide +kernel
theorem dX11_low_71 : decode cX11_low 71 = .ok (.aload_n 0, 1) := by decide +kernel
theorem dX11_low_72 : decode cX11_low 72 = .ok (.iload 5, 2) := by decide +kernel
theorem dX11_low_74 : decode cX11_low 74 = .ok (.invokevirtual 174, 3) := by decide +kernel
theorem dX11_low_77 : decode cX11_low 77 = .ok (.ireturn, 1) := by decide +kernel
theorem dX11_game_0 : decode cX11_game 0 = .ok (.aload_n 0, 1) := by decide +kernel
theorem dX11_game_1 : decode cX11_game 1 = .ok (.iload_n 1, 1) := by decide +kernel
theorem dX11_game_2 : decode cX11_game 2 = .ok (.iload_n 2, 1) := by decide +kernel
theorem dX11_game_3 : decode cX11_game 3 = .ok (.iload_n 3, 1) := by decide +kernel
theorem dX11_game_4 : decode cX11_game 4 = .ok (.invokevirtual 386, 3) := by decide +kernel
theorem dX11_game_7 : decode cX11_game 7 = .ok (.istore 4, 2) := by decide +kernel
theorem dX11_game_9 : decode cX11_game 9 = .ok (.iload 4, 2) := by decide +kernel
theorem dX11_game_11 : decode cX11_game 11 = .ok (.ifCond .eq 10, 3) := by decide +kernel
theorem dX11_game_14 : decode cX11_game 14 = .ok (.aload_n 0, 1) := by decide +kernel
theorem dX11_game_15 : decode cX11_game 15 = .ok (.iload 4, 2) := by decide +kernel
theorem dX11_game_17 : decode cX11_game 17 = .ok (.invokevirtual 120, 3) := by decide +kernel
theorem dX11_game_20 : decode cX11_game 20 = .ok (.ireturn, 1) := by decide +kernel
theorem dX11_game_21 : decode cX11_game 21 = .ok (.aload_n 0, 1) := by decide +kernel
theorem dX11_game_22 : decode cX11_game 22 = .ok (.aload_n 0, 1) := by decide +kernel
theorem dX11_game_23 : decode cX11_game 23 = .ok (.getfield 57, 3) := by decide +kernel
theorem dX11_game_26 : decode cX11_game 26 = .ok (.aload_n 0, 1) := by decide +kernel
theorem dX11_game_27 : decode cX11_game 27 = .ok (.getfield 25, 3) := by decide +kernel
theorem dX11_game_30 : decode cX11_game 30 = .ok (.iload_n 1, 1) := by decide +kernel
theorem dX11_game_31 : decode cX11_game 31 = .ok (.iload_n 2, 1) := by decide +kernel
theorem dX11_game_32 : decode cX11_game 32 = .ok (.iload_n 3, 1) := by decide +kernel
theorem dX11_game_33 : decode cX11_game 33 = .ok (.invokevirtual 389, 3) := by decide +kernel
theorem dX11_game_36 : decode cX11_game 36 = .ok (.invokevirtual 174, 3) := by decide +kernel
theorem dX11_game_39 : decode cX11_game 39 = .ok (.ireturn, 1) := by decide +kernel
theorem dX11_moveOf_0 : decode cX11_moveOf 0 = .ok (.aload_n 0, 1) := by decide +kernel
theorem dX11_moveOf_1 : decode cX11_moveOf 1 = .ok (.iload_n 1, 1) := by decide +kernel
theorem dX11_moveOf_2 : decode cX11_moveOf 2 = .ok (.iload_n 2, 1) := by decide +kernel
theorem dX11_moveOf_3 : decode cX11_moveOf 3 = .ok (.iload_n 3, 1) := by decide +kernel
theorem dX11_moveOf_4 : decode cX11_moveOf 4 = .ok (.invokevirtual 386, 3) := by decide +kernel
theorem dX11_moveOf_7 : decode cX11_moveOf 7 = .ok (.istore 4, 2) := by decide +kernel
theorem dX11_moveOf_9 : decode cX11_moveOf 9 = .ok (.iload 4, 2) := by decide +kernel
theorem dX11_moveOf_11 : decode cX11_moveOf 11 = .ok (.ifCond .ne 10, 3) := by decide +kernel
theorem dX11_moveOf_14 : decode cX11_moveOf 14 = .ok (.iload_n 3, 1) := by decide +kernel
theorem dX11_moveOf_15 : decode cX11_moveOf 15 = .ok (.ifCond .ne 6, 3) := by decide +kernel
theorem dX11_moveOf_18 : decode cX11_moveOf 18 = .ok (.iconst 5, 1) := by decide +kernel
theorem dX11_moveOf_19 : decode cX11_moveOf 19 = .ok (.istore 4, 2) := by decide +kernel
theorem dX11_moveOf_21 : decode cX11_moveOf 21 = .ok (.iload 4, 2) := by decide +kernel
theorem dX11_moveOf_23 : decode cX11_moveOf 23 = .ok (.ifCond .eq 10, 3) := by decide +kernel
theorem dX11_moveOf_26 : decode cX11_moveOf 26 = .ok (.aload_n 0, 1) := by decide +kernel
theorem dX11_moveOf_27 : decode cX11_moveOf 27 = .ok (.iload 4, 2) := by decide +kernel
theorem dX11_moveOf_29 : decode cX11_moveOf 29 = .ok (.invokevirtual 120, 3) := by decide +kernel
theorem dX11_moveOf_32 : decode cX11_moveOf 32 = .ok (.ireturn, 1) := by decide +kernel
theorem dX11_moveOf_33 : decode cX11_moveOf 33 = .ok (.aload_n 0, 1) := by decide +kernel
theorem dX11_moveOf_34 : decode cX11_moveOf 34 = .ok (.getfield 57, 3) := by decide +kernel
theorem dX11_moveOf_37 : decode cX11_moveOf 37 = .ok (.aload_n 0, 1) := by decide +kernel
theorem dX11_moveOf_38 : decode cX11_moveOf 38 = .ok (.getfield 25, 3) := by decide +kernel
theorem dX11_moveOf_41 : decode cX11_moveOf 41 = .ok (.iload_n 1, 1) := by decide +kernel
theorem dX11_moveOf_42 : decode cX11_moveOf 42 = .ok (.iload_n 2, 1) := by decide +kernel
theorem dX11_moveOf_43 : decode cX11_moveOf 43 = .ok (.iload_n 3, 1) := by decide +kernel
theorem dX11_moveOf_44 : decode cX11_moveOf 44 = .ok (.invokevirtual 392, 3) := by decide +kernel
theorem dX11_moveOf_47 : decode cX11_moveOf 47 = .ok (.istore 5, 2) := by decide +kernel
theorem dX11_moveOf_49 : decode cX11_moveOf 49 = .ok (.iload 5, 2) := by decide +kernel
theorem dX11_moveOf_51 : decode cX11_moveOf 51 = .ok (.iconst (-1), 1) := by decide +kernel
theorem dX11_moveOf_52 : decode cX11_moveOf 52 = .ok (.if_icmp .ne 12, 3) := by decide +kernel
theorem dX11_moveOf_55 : decode cX11_moveOf 55 = .ok (.aload_n 0, 1) := by decide +kernel
theorem dX11_moveOf_56 : decode cX11_moveOf 56 = .ok (.bipush 8, 2) := by decide +kernel
theorem dX11_moveOf_58 : decode cX11_moveOf 58 = .ok (.invokevirtual 120, 3) := by decide +kernel
theorem dX11_moveOf_61 : decode cX11_moveOf 61 = .ok (.goto 9, 3) := by decide +kernel
theorem dX11_moveOf_64 : decode cX11_moveOf 64 = .ok (.aload_n 0, 1) := by decide +kernel
theorem dX11_moveOf_65 : decode cX11_moveOf 65 = .ok (.iload 5, 2) := by decide +kernel
theorem dX11_moveOf_67 : decode cX11_moveOf 67 = .ok (.invokevirtual 174, 3) := by decide +kernel
theorem dX11_moveOf_70 : decode cX11_moveOf 70 = .ok (.ireturn, 1) := by decide +kernel
theorem dX11_ally_0 : decode cX11_ally 0 = .ok (.aload_n 0, 1) := by decide +kernel
theorem dX11_ally_1 : decode cX11_ally 1 = .ok (.getfield 25, 3) := by decide +kernel
theorem dX11_ally_4 : decode cX11_ally 4 = .ok (.getfield 40, 3) := by decide +kernel
theorem dX11_ally_7 : decode cX11_ally 7 = .ok (.iload_n 1, 1) := by decide +kernel
theorem dX11_ally_8 : decode cX11_ally 8 = .ok (.invokevirtual 395, 3) := by decide +kernel
theorem dX11_ally_11 : decode cX11_ally 11 = .ok (.ifCond .ne 9, 3) := by decide +kernel
theorem dX11_ally_14 : decode cX11_ally 14 = .ok (.aload_n 0, 1) := by decide +kernel
theorem dX11_ally_15 : decode cX11_ally 15 = .ok (.iconst 5, 1) := by decide +kernel
theorem dX11_ally_16 : decode cX11_ally 16 = .ok (.invokevirtual 120, 3) := by decide +kernel
theorem dX11_ally_19 : decode cX11_ally 19 = .ok (.ireturn, 1) := by decide +kernel
theorem dX11_ally_20 : decode cX11_ally 20 = .ok (.aload_n 0, 1) := by decide +kernel
theorem dX11_ally_21 : decode cX11_ally 21 = .ok (.aload_n 0, 1) := by decide +kernel
theorem dX11_ally_22 : decode cX11_ally 22 = .ok (.getfield 57, 3) := by decide +kernel
theorem dX11_ally_25 : decode cX11_ally 25 = .ok (.aload_n 0, 1) := by decide +kernel
theorem dX11_ally_26 : decode cX11_ally 26 = .ok (.getfield 25, 3) := by decide +kernel
theorem dX11_ally_29 : decode cX11_ally 29 = .ok (.iload_n 1, 1) := by decide +kernel
theorem dX11_ally_30 : decode cX11_ally 30 = .ok (.invokevirtual 398, 3) := by decide +kernel
theorem dX11_ally_33 : decode cX11_ally 33 = .ok (.invokevirtual 174, 3) := by decide +kernel
theorem dX11_ally_36 : decode cX11_ally 36 = .ok (.ireturn, 1) := by decide +kernel
theorem dX11_stable_0 : decode cX11_stable 0 = .ok (.iload_n 1, 1) := by decide +kernel
theorem dX11_stable_1 : decode cX11_stable 1 = .ok (.ifCond .eq 17, 3) := by decide +kernel
theorem dX11_stable_4 : decode cX11_stable 4 = .ok (.aload_n 0, 1) := by decide +kernel
theorem dX11_stable_5 : decode cX11_stable 5 = .ok (.getfield 25, 3) := by decide +kernel
theorem dX11_stable_8 : decode cX11_stable 8 = .ok (.getfield 40, 3) := by decide +kernel
theorem dX11_stable_11 : decode cX11_stable 11 = .ok (.iload_n 1, 1) := by decide +kernel
theorem dX11_stable_12 : decode cX11_stable 12 = .ok (.invokevirtual 395, 3) := by decide +kernel
theorem dX11_stable_15 : decode cX11_stable 15 = .ok (.ifCond .ne 9, 3) := by decide +kernel
theorem dX11_stable_18 : decode cX11_stable 18 = .ok (.aload_n 0, 1) := by decide +kernel
theorem dX11_stable_19 : decode cX11_stable 19 = .ok (.iconst 5, 1) := by decide +kernel
theorem dX11_stable_20 : decode cX11_stable 20 = .ok (.invokevirtual 120, 3) := by decide +kernel
theorem dX11_stable_23 : decode cX11_stable 23 = .ok (.ireturn, 1) := by decide +kernel
theorem dX11_stable_24 : decode cX11_stable 24 = .ok (.aload_n 0, 1) := by decide +kernel
theorem dX11_stable_25 : decode cX11_stable 25 = .ok (.aload_n 0, 1) := by decide +kernel
theorem dX11_stable_26 : decode cX11_stable 26 = .ok (.getfield 57, 3) := by decide +kernel
theorem dX11_stable_29 : decode cX11_stable 29 = .ok (.aload_n 0, 1) := by decide +kernel
theorem dX11_stable_30 : decode cX11_stable 30 = .ok (.getfield 25, 3) := by decide +kernel
theorem dX11_stable_33 : decode cX11_stable 33 = .ok (.iload_n 1, 1) := by decide +kernel
theorem dX11_stable_34 : decode cX11_stable 34 = .ok (.invokevirtual 401, 3) := by decide +kernel
theorem dX11_stable_37 : decode cX11_stable 37 = .ok (.ifCond .eq 7, 3) := by decide +kernel
theorem dX11_stable_40 : decode cX11_stable 40 = .ok (.iconst 1, 1) := by decide +kernel
theorem dX11_stable_41 : decode cX11_stable 41 = .ok (.goto 4, 3) := by decide +kernel
theorem dX11_stable_44 : decode cX11_stable 44 = .ok (.iconst 0, 1) := by decide +kernel
theorem dX11_stable_45 : decode cX11_stable 45 = .ok (.invokevirtual 174, 3) := by decide +kernel
theorem dX11_stable_48 : decode cX11_stable 48 = .ok (.ireturn, 1) := by decide +kernel
theorem dX11_alliance_0 : decode cX11_alliance 0 = .ok (.aload_n 0, 1) := by decide +kernel
theorem dX11_alliance_1 : decode cX11_alliance 1 = .ok (.getfield 57, 3) := by decide +kernel
theorem dX11_alliance_4 : decode cX11_alliance 4 = .ok (.aload_n 0, 1) := by decide +kernel
theorem dX11_alliance_5 : decode cX11_alliance 5 = .ok (.getfield 25, 3) := by decide +kernel
theorem dX11_alliance_8 : decode cX11_alliance 8 = .ok (.invokevirtual 405, 3) := by decide +kernel
theorem dX11_alliance_11 : decode cX11_alliance 11 = .ok (.istore_n 1, 1) := by decide +kernel
theorem dX11_alliance_12 : decode cX11_alliance 12 = .ok (.iload_n 1, 1) := by decide +kernel
theorem dX11_alliance_13 : decode cX11_alliance 13 = .ok (.iconst (-1), 1) := by decide +kernel
theorem dX11_alliance_14 : decode cX11_alliance 14 = .ok (.if_icmp .ne 12, 3) := by decide +kernel
theorem dX11_alliance_17 : decode cX11_alliance 17 = .ok (.aload_n 0, 1) := by decide +kernel
theorem dX11_alliance_18 : decode cX11_alliance 18 = .ok (.bipush 8, 2) := by decide +kernel
theorem dX11_alliance_20 : decode cX11_alliance 20 = .ok (.invokevirtual 120, 3) := by decide +kernel
theorem dX11_alliance_23 : decode cX11_alliance 23 = .ok (.goto 8, 3) := by decide +kernel
theorem dX11_alliance_26 : decode cX11_alliance 26 = .ok (.aload_n 0, 1) := by decide +kernel
theorem dX11_alliance_27 : decode cX11_alliance 27 = .ok (.iload_n 1, 1) := by decide +kernel
theorem dX11_alliance_28 : decode cX11_alliance 28 = .ok (.invokevirtual 174, 3) := by decide +kernel
theorem dX11_alliance_31 : decode cX11_alliance 31 = .ok (.ireturn, 1) := by decide +kernel
theorem dX11_together_0 : decode cX11_together 0 = .ok (.aload_n 0, 1) := by decide +kernel
theorem dX11_together_1 : decode cX11_together 1 = .ok (.getfield 25, 3) := by decide +kernel
theorem dX11_together_4 : decode cX11_together 4 = .ok (.getfield 40, 3) := by decide +kernel
theorem dX11_together_7 : decode cX11_together 7 = .ok (.iload_n 1, 1) := by decide +kernel
theorem dX11_together_8 : decode cX11_together 8 = .ok (.invokevirtual 234, 3) := by decide +kernel
theorem dX11_together_11 : decode cX11_together 11 = .ok (.ifCond .eq 17, 3) := by decide +kernel
theorem dX11_together_14 : decode cX11_together 14 = .ok (.aload_n 0, 1) := by decide +kernel
theorem dX11_together_15 : decode cX11_together 15 = .ok (.getfield 25, 3) := by decide +kernel
theorem dX11_together_18 : decode cX11_together 18 = .ok (.getfield 40, 3) := by decide +kernel
theorem dX11_together_21 : decode cX11_together 21 = .ok (.iload_n 3, 1) := by decide +kernel
theorem dX11_together_22 : decode cX11_together 22 = .ok (.invokevirtual 234, 3) := by decide +kernel
theorem dX11_together_25 : decode cX11_together 25 = .ok (.ifCond .ne 9, 3) := by decide +kernel
theorem dX11_together_28 : decode cX11_together 28 = .ok (.aload_n 0, 1) := by decide +kernel
theorem dX11_together_29 : decode cX11_together 29 = .ok (.iconst 2, 1) := by decide +kernel
theorem dX11_together_30 : decode cX11_together 30 = .ok (.invokevirtual 120, 3) := by decide +kernel
theorem dX11_together_33 : decode cX11_together 33 = .ok (.ireturn, 1) := by decide +kernel
theorem dX11_together_34 : decode cX11_together 34 = .ok (.iload_n 2, 1) := by decide +kernel
theorem dX11_together_35 : decode cX11_together 35 = .ok (.invokestatic 409, 3) := by decide +kernel
theorem dX11_together_38 : decode cX11_together 38 = .ok (.ifCond .eq 11, 3) := by decide +kernel
theorem dX11_together_41 : decode cX11_together 41 = .ok (.iload 4, 2) := by decide +kernel
theorem dX11_together_43 : decode cX11_together 43 = .ok (.invokestatic 409, 3) := by decide +kernel
theorem dX11_together_46 : decode cX11_together 46 = .ok (.ifCond .ne 9, 3) := by decide +kernel
theorem dX11_together_49 : decode cX11_together 49 = .ok (.aload_n 0, 1) := by decide +kernel
theorem dX11_together_50 : decode cX11_together 50 = .ok (.iconst 5, 1) := by decide +kernel
theorem dX11_together_51 : decode cX11_together 51 = .ok (.invokevirtual 120, 3) := by decide +kernel
theorem dX11_together_54 : decode cX11_together 54 = .ok (.ireturn, 1) := by decide +kernel
theorem dX11_together_55 : decode cX11_together 55 = .ok (.aload_n 0, 1) := by decide +kernel
theorem dX11_together_56 : decode cX11_together 56 = .ok (.getfield 25, 3) := by decide +kernel
theorem dX11_together_59 : decode cX11_together 59 = .ok (.getfield 40, 3) := by decide +kernel
theorem dX11_together_62 : decode cX11_together 62 = .ok (.getfield 237, 3) := by decide +kernel
theorem dX11_together_65 : decode cX11_together 65 = .ok (.iload_n 1, 1) := by decide +kernel
theorem dX11_together_66 : decode cX11_together 66 = .ok (.aaload, 1) := by decide +kernel
theorem dX11_together_67 : decode cX11_together 67 = .ok (.getfield 249, 3) := by decide +kernel
theorem dX11_together_70 : decode cX11_together 70 = .ok (.iload_n 2, 1) := by decide +kernel
theorem dX11_together_71 : decode cX11_together 71 = .ok (.aload_n 0, 1) := by decide +kernel
theorem dX11_together_72 : decode cX11_together 72 = .ok (.getfield 25, 3) := by decide +kernel
theorem dX11_together_75 : decode cX11_together 75 = .ok (.getfield 40, 3) := by decide +kernel
theorem dX11_together_78 : decode cX11_together 78 = .ok (.getfield 237, 3) := by decide +kernel
theorem dX11_together_81 : decode cX11_together 81 = .ok (.iload_n 3, 1) := by decide +kernel
theorem dX11_together_82 : decode cX11_together 82 = .ok (.aaload, 1) := by decide +kernel
theorem dX11_together_83 : decode cX11_together 83 = .ok (.getfield 249, 3) := by decide +kernel
theorem dX11_together_86 : decode cX11_together 86 = .ok (.iload 4, 2) := by decide +kernel
theorem dX11_together_88 : decode cX11_together 88 = .ok (.invokestatic 412, 3) := by decide +kernel
theorem dX11_together_91 : decode cX11_together 91 = .ok (.istore 5, 2) := by decide +kernel
theorem dX11_together_93 : decode cX11_together 93 = .ok (.iload 5, 2) := by decide +kernel
theorem dX11_together_95 : decode cX11_together 95 = .ok (.iconst (-1), 1) := by decide +kernel
theorem dX11_together_96 : decode cX11_together 96 = .ok (.if_icmp .ne 12, 3) := by decide +kernel
theorem dX11_together_99 : decode cX11_together 99 = .ok (.aload_n 0, 1) := by decide +kernel
theorem dX11_together_100 : decode cX11_together 100 = .ok (.bipush 8, 2) := by decide +kernel
theorem dX11_together_102 : decode cX11_together 102 = .ok (.invokevirtual 120, 3) := by decide +kernel
