theorem dX12_isWord_9 : decode cX12_isWord 9 = .ok (.getfield 130, 3) := by decide +kernel
theorem dX12_isWord_12 : decode cX12_isWord 12 = .ok (.lload_n 1, 1) := by decide +kernel
theorem dX12_isWord_13 : decode cX12_isWord 13 = .ok (.lcmp, 1) := by decide +kernel
theorem dX12_isWord_14 : decode cX12_isWord 14 = .ok (.ifCond .ne 7, 3) := by decide +kernel
theorem dX12_isWord_17 : decode cX12_isWord 17 = .ok (.iconst 1, 1) := by decide +kernel
theorem dX12_isWord_18 : decode cX12_isWord 18 = .ok (.goto 4, 3) := by decide +kernel
theorem dX12_isWord_21 : decode cX12_isWord 21 = .ok (.iconst 0, 1) := by decide +kernel
theorem dX12_isWord_22 : decode cX12_isWord 22 = .ok (.ireturn, 1) := by decide +kernel
theorem dX12_isPark_0 : decode cX12_isPark 0 = .ok (.aload_n 0, 1) := by decide +kernel
theorem dX12_isPark_1 : decode cX12_isPark 1 = .ok (.bipush 112, 2) := by decide +kernel
theorem dX12_isPark_3 : decode cX12_isPark 3 = .ok (.bipush 97, 2) := by decide +kernel
theorem dX12_isPark_5 : decode cX12_isPark 5 = .ok (.bipush 114, 2) := by decide +kernel
theorem dX12_isPark_7 : decode cX12_isPark 7 = .ok (.bipush 107, 2) := by decide +kernel
theorem dX12_isPark_9 : decode cX12_isPark 9 = .ok (.iconst 0, 1) := by decide +kernel
theorem dX12_isPark_10 : decode cX12_isPark 10 = .ok (.iconst 0, 1) := by decide +kernel
theorem dX12_isPark_11 : decode cX12_isPark 11 = .ok (.invokestatic 149, 3) := by decide +kernel
theorem dX12_isPark_14 : decode cX12_isPark 14 = .ok (.invokevirtual 153, 3) := by decide +kernel
theorem dX12_isPark_17 : decode cX12_isPark 17 = .ok (.ireturn, 1) := by decide +kernel
theorem dX12_isBy_0 : decode cX12_isBy 0 = .ok (.aload_n 0, 1) := by decide +kernel
theorem dX12_isBy_1 : decode cX12_isBy 1 = .ok (.bipush 98, 2) := by decide +kernel
theorem dX12_isBy_3 : decode cX12_isBy 3 = .ok (.bipush 121, 2) := by decide +kernel
theorem dX12_isBy_5 : decode cX12_isBy 5 = .ok (.iconst 0, 1) := by decide +kernel
theorem dX12_isBy_6 : decode cX12_isBy 6 = .ok (.iconst 0, 1) := by decide +kernel
theorem dX12_isBy_7 : decode cX12_isBy 7 = .ok (.iconst 0, 1) := by decide +kernel
theorem dX12_isBy_8 : decode cX12_isBy 8 = .ok (.iconst 0, 1) := by decide +kernel
theorem dX12_isBy_9 : decode cX12_isBy 9 = .ok (.invokestatic 149, 3) := by decide +kernel
theorem dX12_isBy_12 : decode cX12_isBy 12 = .ok (.invokevirtual 153, 3) := by decide +kernel
theorem dX12_isBy_15 : decode cX12_isBy 15 = .ok (.ireturn, 1) := by decide +kernel
theorem dX12_isFade_0 : decode cX12_isFade 0 = .ok (.aload_n 0, 1) := by decide +kernel
theorem dX12_isFade_1 : decode cX12_isFade 1 = .ok (.bipush 102, 2) := by decide +kernel
theorem dX12_isFade_3 : decode cX12_isFade 3 = .ok (.bipush 97, 2) := by decide +kernel
theorem dX12_isFade_5 : decode cX12_isFade 5 = .ok (.bipush 100, 2) := by decide +kernel
theorem dX12_isFade_7 : decode cX12_isFade 7 = .ok (.bipush 101, 2) := by decide +kernel
theorem dX12_isFade_9 : decode cX12_isFade 9 = .ok (.iconst 0, 1) := by decide +kernel
theorem dX12_isFade_10 : decode cX12_isFade 10 = .ok (.iconst 0, 1) := by decide +kernel
theorem dX12_isFade_11 : decode cX12_isFade 11 = .ok (.invokestatic 149, 3) := by decide +kernel
theorem dX12_isFade_14 : decode cX12_isFade 14 = .ok (.invokevirtual 153, 3) := by decide +kernel
theorem dX12_isFade_17 : decode cX12_isFade 17 = .ok (.ireturn, 1) := by decide +kernel
theorem dX12_isRest_0 : decode cX12_isRest 0 = .ok (.aload_n 0, 1) := by decide +kernel
theorem dX12_isRest_1 : decode cX12_isRest 1 = .ok (.bipush 114, 2) := by decide +kernel
theorem dX12_isRest_3 : decode cX12_isRest 3 = .ok (.bipush 101, 2) := by decide +kernel
theorem dX12_isRest_5 : decode cX12_isRest 5 = .ok (.bipush 115, 2) := by decide +kernel
theorem dX12_isRest_7 : decode cX12_isRest 7 = .ok (.bipush 116, 2) := by decide +kernel
theorem dX12_isRest_9 : decode cX12_isRest 9 = .ok (.iconst 0, 1) := by decide +kernel
theorem dX12_isRest_10 : decode cX12_isRest 10 = .ok (.iconst 0, 1) := by decide +kernel
theorem dX12_isRest_11 : decode cX12_isRest 11 = .ok (.invokestatic 149, 3) := by decide +kernel
theorem dX12_isRest_14 : decode cX12_isRest 14 = .ok (.invokevirtual 153, 3) := by decide +kernel
theorem dX12_isRest_17 : decode cX12_isRest 17 = .ok (.ireturn, 1) := by decide +kernel
theorem dX12_isOdds_0 : decode cX12_isOdds 0 = .ok (.aload_n 0, 1) := by decide +kernel
theorem dX12_isOdds_1 : decode cX12_isOdds 1 = .ok (.bipush 111, 2) := by decide +kernel
theorem dX12_isOdds_3 : decode cX12_isOdds 3 = .ok (.bipush 100, 2) := by decide +kernel
theorem dX12_isOdds_5 : decode cX12_isOdds 5 = .ok (.bipush 100, 2) := by decide +kernel
theorem dX12_isOdds_7 : decode cX12_isOdds 7 = .ok (.bipush 115, 2) := by decide +kernel
theorem dX12_isOdds_9 : decode cX12_isOdds 9 = .ok (.iconst 0, 1) := by decide +kernel
theorem dX12_isOdds_10 : decode cX12_isOdds 10 = .ok (.iconst 0, 1) := by decide +kernel
theorem dX12_isOdds_11 : decode cX12_isOdds 11 = .ok (.invokestatic 149, 3) := by decide +kernel
theorem dX12_isOdds_14 : decode cX12_isOdds 14 = .ok (.invokevirtual 153, 3) := by decide +kernel
theorem dX12_isOdds_17 : decode cX12_isOdds 17 = .ok (.ireturn, 1) := by decide +kernel
theorem dX12_isPond_0 : decode cX12_isPond 0 = .ok (.aload_n 0, 1) := by decide +kernel
theorem dX12_isPond_1 : decode cX12_isPond 1 = .ok (.bipush 112, 2) := by decide +kernel
theorem dX12_isPond_3 : decode cX12_isPond 3 = .ok (.bipush 111, 2) := by decide +kernel
theorem dX12_isPond_5 : decode cX12_isPond 5 = .ok (.bipush 110, 2) := by decide +kernel
theorem dX12_isPond_7 : decode cX12_isPond 7 = .ok (.bipush 100, 2) := by decide +kernel
theorem dX12_isPond_9 : decode cX12_isPond 9 = .ok (.iconst 0, 1) := by decide +kernel
theorem dX12_isPond_10 : decode cX12_isPond 10 = .ok (.iconst 0, 1) := by decide +kernel
theorem dX12_isPond_11 : decode cX12_isPond 11 = .ok (.invokestatic 149, 3) := by decide +kernel
theorem dX12_isPond_14 : decode cX12_isPond 14 = .ok (.invokevirtual 153, 3) := by decide +kernel
theorem dX12_isPond_17 : decode cX12_isPond 17 = .ok (.ireturn, 1) := by decide +kernel
theorem dX12_isTune_0 : decode cX12_isTune 0 = .ok (.aload_n 0, 1) := by decide +kernel
theorem dX12_isTune_1 : decode cX12_isTune 1 = .ok (.bipush 116, 2) := by decide +kernel
theorem dX12_isTune_3 : decode cX12_isTune 3 = .ok (.bipush 117, 2) := by decide +kernel
theorem dX12_isTune_5 : decode cX12_isTune 5 = .ok (.bipush 110, 2) := by decide +kernel
theorem dX12_isTune_7 : decode cX12_isTune 7 = .ok (.bipush 101, 2) := by decide +kernel
theorem dX12_isTune_9 : decode cX12_isTune 9 = .ok (.iconst 0, 1) := by decide +kernel
theorem dX12_isTune_10 : decode cX12_isTune 10 = .ok (.iconst 0, 1) := by decide +kernel
theorem dX12_isTune_11 : decode cX12_isTune 11 = .ok (.invokestatic 149, 3) := by decide +kernel
theorem dX12_isTune_14 : decode cX12_isTune 14 = .ok (.invokevirtual 153, 3) := by decide +kernel
theorem dX12_isTune_17 : decode cX12_isTune 17 = .ok (.ireturn, 1) := by decide +kernel
theorem dX12_isLoud_0 : decode cX12_isLoud 0 = .ok (.aload_n 0, 1) := by decide +kernel
theorem dX12_isLoud_1 : decode cX12_isLoud 1 = .ok (.bipush 108, 2) := by decide +kernel
theorem dX12_isLoud_3 : decode cX12_isLoud 3 = .ok (.bipush 111, 2) := by decide +kernel
theorem dX12_isLoud_5 : decode cX12_isLoud 5 = .ok (.bipush 117, 2) := by decide +kernel
theorem dX12_isLoud_7 : decode cX12_isLoud 7 = .ok (.bipush 100, 2) := by decide +kernel
theorem dX12_isLoud_9 : decode cX12_isLoud 9 = .ok (.iconst 0, 1) := by decide +kernel
theorem dX12_isLoud_10 : decode cX12_isLoud 10 = .ok (.iconst 0, 1) := by decide +kernel
theorem dX12_isLoud_11 : decode cX12_isLoud 11 = .ok (.invokestatic 149, 3) := by decide +kernel
theorem dX12_isLoud_14 : decode cX12_isLoud 14 = .ok (.invokevirtual 153, 3) := by decide +kernel
theorem dX12_isLoud_17 : decode cX12_isLoud 17 = .ok (.ireturn, 1) := by decide +kernel
theorem dX12_isToll_0 : decode cX12_isToll 0 = .ok (.aload_n 0, 1) := by decide +kernel
theorem dX12_isToll_1 : decode cX12_isToll 1 = .ok (.bipush 116, 2) := by decide +kernel
theorem dX12_isToll_3 : decode cX12_isToll 3 = .ok (.bipush 111, 2) := by decide +kernel
theorem dX12_isToll_5 : decode cX12_isToll 5 = .ok (.bipush 108, 2) := by decide +kernel
theorem dX12_isToll_7 : decode cX12_isToll 7 = .ok (.bipush 108, 2) := by decide +kernel
theorem dX12_isToll_9 : decode cX12_isToll 9 = .ok (.iconst 0, 1) := by decide +kernel
theorem dX12_isToll_10 : decode cX12_isToll 10 = .ok (.iconst 0, 1) := by decide +kernel
theorem dX12_isToll_11 : decode cX12_isToll 11 = .ok (.invokestatic 149, 3) := by decide +kernel
theorem dX12_isToll_14 : decode cX12_isToll 14 = .ok (.invokevirtual 153, 3) := by decide +kernel
theorem dX12_isToll_17 : decode cX12_isToll 17 = .ok (.ireturn, 1) := by decide +kernel
theorem dX12_isBeats_0 : decode cX12_isBeats 0 = .ok (.aload_n 0, 1) := by decide +kernel
theorem dX12_isBeats_1 : decode cX12_isBeats 1 = .ok (.bipush 98, 2) := by decide +kernel
theorem dX12_isBeats_3 : decode cX12_isBeats 3 = .ok (.bipush 101, 2) := by decide +kernel
theorem dX12_isBeats_5 : decode cX12_isBeats 5 = .ok (.bipush 97, 2) := by decide +kernel
theorem dX12_isBeats_7 : decode cX12_isBeats 7 = .ok (.bipush 116, 2) := by decide +kernel
theorem dX12_isBeats_9 : decode cX12_isBeats 9 = .ok (.bipush 115, 2) := by decide +kernel
theorem dX12_isBeats_11 : decode cX12_isBeats 11 = .ok (.iconst 0, 1) := by decide +kernel
theorem dX12_isBeats_12 : decode cX12_isBeats 12 = .ok (.invokestatic 149, 3) := by decide +kernel
theorem dX12_isBeats_15 : decode cX12_isBeats 15 = .ok (.invokevirtual 153, 3) := by decide +kernel
theorem dX12_isBeats_18 : decode cX12_isBeats 18 = .ok (.ireturn, 1) := by decide +kernel
theorem dX12_isBand_0 : decode cX12_isBand 0 = .ok (.aload_n 0, 1) := by decide +kernel
theorem dX12_isBand_1 : decode cX12_isBand 1 = .ok (.bipush 98, 2) := by decide +kernel
theorem dX12_isBand_3 : decode cX12_isBand 3 = .ok (.bipush 97, 2) := by decide +kernel
theorem dX12_isBand_5 : decode cX12_isBand 5 = .ok (.bipush 110, 2) := by decide +kernel
theorem dX12_isBand_7 : decode cX12_isBand 7 = .ok (.bipush 100, 2) := by decide +kernel
theorem dX12_isBand_9 : decode cX12_isBand 9 = .ok (.iconst 0, 1) := by decide +kernel
theorem dX12_isBand_10 : decode cX12_isBand 10 = .ok (.iconst 0, 1) := by decide +kernel
theorem dX12_isBand_11 : decode cX12_isBand 11 = .ok (.invokestatic 149, 3) := by decide +kernel
theorem dX12_isBand_14 : decode cX12_isBand 14 = .ok (.invokevirtual 153, 3) := by decide +kernel
theorem dX12_isBand_17 : decode cX12_isBand 17 = .ok (.ireturn, 1) := by decide +kernel
theorem dX12_isAt_0 : decode cX12_isAt 0 = .ok (.aload_n 0, 1) := by decide +kernel
theorem dX12_isAt_1 : decode cX12_isAt 1 = .ok (.bipush 97, 2) := by decide +kernel
theorem dX12_isAt_3 : decode cX12_isAt 3 = .ok (.bipush 116, 2) := by decide +kernel
theorem dX12_isAt_5 : decode cX12_isAt 5 = .ok (.iconst 0, 1) := by decide +kernel
theorem dX12_isAt_6 : decode cX12_isAt 6 = .ok (.iconst 0, 1) := by decide +kernel
theorem dX12_isAt_7 : decode cX12_isAt 7 = .ok (.iconst 0, 1) := by decide +kernel
theorem dX12_isAt_8 : decode cX12_isAt 8 = .ok (.iconst 0, 1) := by decide +kernel
theorem dX12_isAt_9 : decode cX12_isAt 9 = .ok (.invokestatic 149, 3) := by decide +kernel
theorem dX12_isAt_12 : decode cX12_isAt 12 = .ok (.invokevirtual 153, 3) := by decide +kernel
theorem dX12_isAt_15 : decode cX12_isAt 15 = .ok (.ireturn, 1) := by decide +kernel
theorem dX12_isStrength_0 : decode cX12_isStrength 0 = .ok (.aload_n 0, 1) := by decide +kernel
theorem dX12_isStrength_1 : decode cX12_isStrength 1 = .ok (.bipush 115, 2) := by decide +kernel
theorem dX12_isStrength_3 : decode cX12_isStrength 3 = .ok (.bipush 116, 2) := by decide +kernel
theorem dX12_isStrength_5 : decode cX12_isStrength 5 = .ok (.bipush 114, 2) := by decide +kernel
theorem dX12_isStrength_7 : decode cX12_isStrength 7 = .ok (.bipush 101, 2) := by decide +kernel
theorem dX12_isStrength_9 : decode cX12_isStrength 9 = .ok (.bipush 110, 2) := by decide +kernel
theorem dX12_isStrength_11 : decode cX12_isStrength 11 = .ok (.bipush 103, 2) := by decide +kernel
theorem dX12_isStrength_13 : decode cX12_isStrength 13 = .ok (.invokestatic 149, 3) := by decide +kernel
theorem dX12_isStrength_16 : decode cX12_isStrength 16 = .ok (.ldc2_w 133, 3) := by decide +kernel
theorem dX12_isStrength_19 : decode cX12_isStrength 19 = .ok (.lmul, 1) := by decide +kernel
theorem dX12_isStrength_20 : decode cX12_isStrength 20 = .ok (.ldc2_w 157, 3) := by decide +kernel
theorem dX12_isStrength_23 : decode cX12_isStrength 23 = .ok (.ladd, 1) := by decide +kernel
theorem dX12_isStrength_24 : decode cX12_isStrength 24 = .ok (.ldc2_w 133, 3) := by decide +kernel
theorem dX12_isStrength_27 : decode cX12_isStrength 27 = .ok (.lmul, 1) := by decide +kernel
theorem dX12_isStrength_28 : decode cX12_isStrength 28 = .ok (.ldc2_w 159, 3) := by decide +kernel
theorem dX12_isStrength_31 : decode cX12_isStrength 31 = .ok (.ladd, 1) := by decide +kernel
theorem dX12_isStrength_32 : decode cX12_isStrength 32 = .ok (.invokevirtual 153, 3) := by decide +kernel
theorem dX12_isStrength_35 : decode cX12_isStrength 35 = .ok (.ireturn, 1) := by decide +kernel
theorem dX12_isLips_0 : decode cX12_isLips 0 = .ok (.aload_n 0, 1) := by decide +kernel
theorem dX12_isLips_1 : decode cX12_isLips 1 = .ok (.bipush 108, 2) := by decide +kernel
theorem dX12_isLips_3 : decode cX12_isLips 3 = .ok (.bipush 105, 2) := by decide +kernel
theorem dX12_isLips_5 : decode cX12_isLips 5 = .ok (.bipush 112, 2) := by decide +kernel
theorem dX12_isLips_7 : decode cX12_isLips 7 = .ok (.bipush 115, 2) := by decide +kernel
theorem dX12_isLips_9 : decode cX12_isLips 9 = .ok (.iconst 0, 1) := by decide +kernel
theorem dX12_isLips_10 : decode cX12_isLips 10 = .ok (.iconst 0, 1) := by decide +kernel
theorem dX12_isLips_11 : decode cX12_isLips 11 = .ok (.invokestatic 149, 3) := by decide +kernel
theorem dX12_isLips_14 : decode cX12_isLips 14 = .ok (.invokevirtual 153, 3) := by decide +kernel
theorem dX12_isLips_17 : decode cX12_isLips 17 = .ok (.ireturn, 1) := by decide +kernel
theorem dX12_isPlays_0 : decode cX12_isPlays 0 = .ok (.aload_n 0, 1) := by decide +kernel
theorem dX12_isPlays_1 : decode cX12_isPlays 1 = .ok (.bipush 112, 2) := by decide +kernel
theorem dX12_isPlays_3 : decode cX12_isPlays 3 = .ok (.bipush 108, 2) := by decide +kernel
theorem dX12_isPlays_5 : decode cX12_isPlays 5 = .ok (.bipush 97, 2) := by decide +kernel
theorem dX12_isPlays_7 : decode cX12_isPlays 7 = .ok (.bipush 121, 2) := by decide +kernel
theorem dX12_isPlays_9 : decode cX12_isPlays 9 = .ok (.bipush 115, 2) := by decide +kernel
theorem dX12_isPlays_11 : decode cX12_isPlays 11 = .ok (.iconst 0, 1) := by decide +kernel
theorem dX12_isPlays_12 : decode cX12_isPlays 12 = .ok (.invokestatic 149, 3) := by decide +kernel
theorem dX12_isPlays_15 : decode cX12_isPlays 15 = .ok (.invokevirtual 153, 3) := by decide +kernel
theorem dX12_isPlays_18 : decode cX12_isPlays 18 = .ok (.ireturn, 1) := by decide +kernel
theorem dX12_isHush_0 : decode cX12_isHush 0 = .ok (.aload_n 0, 1) := by decide +kernel
theorem dX12_isHush_1 : decode cX12_isHush 1 = .ok (.bipush 104, 2) := by decide +kernel
theorem dX12_isHush_3 : decode cX12_isHush 3 = .ok (.bipush 117, 2) := by decide +kernel
theorem dX12_isHush_5 : decode cX12_isHush 5 = .ok (.bipush 115, 2) := by decide +kernel
theorem dX12_isHush_7 : decode cX12_isHush 7 = .ok (.bipush 104, 2) := by decide +kernel
theorem dX12_isHush_9 : decode cX12_isHush 9 = .ok (.iconst 0, 1) := by decide +kernel
theorem dX12_isHush_10 : decode cX12_isHush 10 = .ok (.iconst 0, 1) := by decide +kernel
theorem dX12_isHush_11 : decode cX12_isHush 11 = .ok (.invokestatic 149, 3) := by decide +kernel
theorem dX12_isHush_14 : decode cX12_isHush 14 = .ok (.invokevirtual 153, 3) := by decide +kernel
theorem dX12_isHush_17 : decode cX12_isHush 17 = .ok (.ireturn, 1) := by decide +kernel
theorem dX12_stepWord_0 : decode cX12_stepWord 0 = .ok (.aload_n 0, 1) := by decide +kernel
theorem dX12_stepWord_1 : decode cX12_stepWord 1 = .ok (.bipush 104, 2) := by decide +kernel
theorem dX12_stepWord_3 : decode cX12_stepWord 3 = .ok (.bipush 111, 2) := by decide +kernel
theorem dX12_stepWord_5 : decode cX12_stepWord 5 = .ok (.bipush 117, 2) := by decide +kernel
theorem dX12_stepWord_7 : decode cX12_stepWord 7 = .ok (.bipush 114, 2) := by decide +kernel
theorem dX12_stepWord_9 : decode cX12_stepWord 9 = .ok (.iconst 0, 1) := by decide +kernel
theorem dX12_stepWord_10 : decode cX12_stepWord 10 = .ok (.iconst 0, 1) := by decide +kernel
theorem dX12_stepWord_11 : decode cX12_stepWord 11 = .ok (.invokestatic 149, 3) := by decide +kernel
theorem dX12_stepWord_14 : decode cX12_stepWord 14 = .ok (.invokevirtual 153, 3) := by decide +kernel
theorem dX12_stepWord_17 : decode cX12_stepWord 17 = .ok (.ifCond .eq 5, 3) := by decide +kernel
theorem dX12_stepWord_20 : decode cX12_stepWord 20 = .ok (.iconst 0, 1) := by decide +kernel
theorem dX12_stepWord_21 : decode cX12_stepWord 21 = .ok (.ireturn, 1) := by decide +kernel
theorem dX12_stepWord_22 : decode cX12_stepWord 22 = .ok (.aload_n 0, 1) := by decide +kernel
theorem dX12_stepWord_23 : decode cX12_stepWord 23 = .ok (.bipush 119, 2) := by decide +kernel
theorem dX12_stepWord_25 : decode cX12_stepWord 25 = .ok (.bipush 105, 2) := by decide +kernel
theorem dX12_stepWord_27 : decode cX12_stepWord 27 = .ok (.bipush 110, 2) := by decide +kernel
theorem dX12_stepWord_29 : decode cX12_stepWord 29 = .ok (.bipush 100, 2) := by decide +kernel
theorem dX12_stepWord_31 : decode cX12_stepWord 31 = .ok (.iconst 0, 1) := by decide +kernel
theorem dX12_stepWord_32 : decode cX12_stepWord 32 = .ok (.iconst 0, 1) := by decide +kernel
theorem dX12_stepWord_33 : decode cX12_stepWord 33 = .ok (.invokestatic 149, 3) := by decide +kernel
theorem dX12_stepWord_36 : decode cX12_stepWord 36 = .ok (.invokevirtual 153, 3) := by decide +kernel
theorem dX12_stepWord_39 : decode cX12_stepWord 39 = .ok (.ifCond .eq 5, 3) := by decide +kernel
theorem dX12_stepWord_42 : decode cX12_stepWord 42 = .ok (.iconst 1, 1) := by decide +kernel
theorem dX12_stepWord_43 : decode cX12_stepWord 43 = .ok (.ireturn, 1) := by decide +kernel
theorem dX12_stepWord_44 : decode cX12_stepWord 44 = .ok (.aload_n 0, 1) := by decide +kernel
theorem dX12_stepWord_45 : decode cX12_stepWord 45 = .ok (.bipush 99, 2) := by decide +kernel
theorem dX12_stepWord_47 : decode cX12_stepWord 47 = .ok (.bipush 97, 2) := by decide +kernel
theorem dX12_stepWord_49 : decode cX12_stepWord 49 = .ok (.bipush 108, 2) := by decide +kernel
theorem dX12_stepWord_51 : decode cX12_stepWord 51 = .ok (.bipush 109, 2) := by decide +kernel
theorem dX12_stepWord_53 : decode cX12_stepWord 53 = .ok (.iconst 0, 1) := by decide +kernel
theorem dX12_stepWord_54 : decode cX12_stepWord 54 = .ok (.iconst 0, 1) := by decide +kernel
theorem dX12_stepWord_55 : decode cX12_stepWord 55 = .ok (.invokestatic 149, 3) := by decide +kernel
theorem dX12_stepWord_58 : decode cX12_stepWord 58 = .ok (.invokevirtual 153, 3) := by decide +kernel
theorem dX12_stepWord_61 : decode cX12_stepWord 61 = .ok (.ifCond .eq 5, 3) := by decide +kernel
theorem dX12_stepWord_64 : decode cX12_stepWord 64 = .ok (.iconst 2, 1) := by decide +kernel
theorem dX12_stepWord_65 : decode cX12_stepWord 65 = .ok (.ireturn, 1) := by decide +kernel
theorem dX12_stepWord_66 : decode cX12_stepWord 66 = .ok (.aload_n 0, 1) := by decide +kernel
theorem dX12_stepWord_67 : decode cX12_stepWord 67 = .ok (.bipush 114, 2) := by decide +kernel
theorem dX12_stepWord_69 : decode cX12_stepWord 69 = .ok (.bipush 97, 2) := by decide +kernel
theorem dX12_stepWord_71 : decode cX12_stepWord 71 = .ok (.bipush 105, 2) := by decide +kernel
theorem dX12_stepWord_73 : decode cX12_stepWord 73 = .ok (.bipush 110, 2) := by decide +kernel
theorem dX12_stepWord_75 : decode cX12_stepWord 75 = .ok (.iconst 0, 1) := by decide +kernel
theorem dX12_stepWord_76 : decode cX12_stepWord 76 = .ok (.iconst 0, 1) := by decide +kernel
theorem dX12_stepWord_77 : decode cX12_stepWord 77 = .ok (.invokestatic 149, 3) := by decide +kernel
theorem dX12_stepWord_80 : decode cX12_stepWord 80 = .ok (.invokevirtual 153, 3) := by decide +kernel
theorem dX12_stepWord_83 : decode cX12_stepWord 83 = .ok (.ifCond .eq 5, 3) := by decide +kernel
theorem dX12_stepWord_86 : decode cX12_stepWord 86 = .ok (.iconst 3, 1) := by decide +kernel
theorem dX12_stepWord_87 : decode cX12_stepWord 87 = .ok (.ireturn, 1) := by decide +kernel
theorem dX12_stepWord_88 : decode cX12_stepWord 88 = .ok (.aload_n 0, 1) := by decide +kernel
theorem dX12_stepWord_89 : decode cX12_stepWord 89 = .ok (.bipush 100, 2) := by decide +kernel
theorem dX12_stepWord_91 : decode cX12_stepWord 91 = .ok (.bipush 114, 2) := by decide +kernel
theorem dX12_stepWord_93 : decode cX12_stepWord 93 = .ok (.bipush 121, 2) := by decide +kernel
theorem dX12_stepWord_95 : decode cX12_stepWord 95 = .ok (.iconst 0, 1) := by decide +kernel
theorem dX12_stepWord_96 : decode cX12_stepWord 96 = .ok (.iconst 0, 1) := by decide +kernel
theorem dX12_stepWord_97 : decode cX12_stepWord 97 = .ok (.iconst 0, 1) := by decide +kernel
theorem dX12_stepWord_98 : decode cX12_stepWord 98 = .ok (.invokestatic 149, 3) := by decide +kernel
theorem dX12_stepWord_101 : decode cX12_stepWord 101 = .ok (.invokevirtual 153, 3) := by decide +kernel
theorem dX12_stepWord_104 : decode cX12_stepWord 104 = .ok (.ifCond .eq 5, 3) := by decide +kernel
theorem dX12_stepWord_107 : decode cX12_stepWord 107 = .ok (.iconst 4, 1) := by decide +kernel
theorem dX12_stepWord_108 : decode cX12_stepWord 108 = .ok (.ireturn, 1) := by decide +kernel
theorem dX12_stepWord_109 : decode cX12_stepWord 109 = .ok (.aload_n 0, 1) := by decide +kernel
theorem dX12_stepWord_110 : decode cX12_stepWord 110 = .ok (.bipush 115, 2) := by decide +kernel
theorem dX12_stepWord_112 : decode cX12_stepWord 112 = .ok (.bipush 101, 2) := by decide +kernel
theorem dX12_stepWord_114 : decode cX12_stepWord 114 = .ok (.bipush 116, 2) := by decide +kernel
theorem dX12_stepWord_116 : decode cX12_stepWord 116 = .ok (.iconst 0, 1) := by decide +kernel
theorem dX12_stepWord_117 : decode cX12_stepWord 117 = .ok (.iconst 0, 1) := by decide +kernel
theorem dX12_stepWord_118 : decode cX12_stepWord 118 = .ok (.iconst 0, 1) := by decide +kernel
theorem dX12_stepWord_119 : decode cX12_stepWord 119 = .ok (.invokestatic 149, 3) := by decide +kernel
theorem dX12_stepWord_122 : decode cX12_stepWord 122 = .ok (.invokevirtual 153, 3) := by decide +kernel
theorem dX12_stepWord_125 : decode cX12_stepWord 125 = .ok (.ifCond .eq 5, 3) := by decide +kernel
theorem dX12_stepWord_128 : decode cX12_stepWord 128 = .ok (.iconst 5, 1) := by decide +kernel
theorem dX12_stepWord_129 : decode cX12_stepWord 129 = .ok (.ireturn, 1) := by decide +kernel
theorem dX12_stepWord_130 : decode cX12_stepWord 130 = .ok (.aload_n 0, 1) := by decide +kernel
theorem dX12_stepWord_131 : decode cX12_stepWord 131 = .ok (.bipush 97, 2) := by decide +kernel
theorem dX12_stepWord_133 : decode cX12_stepWord 133 = .ok (.bipush 110, 2) := by decide +kernel
theorem dX12_stepWord_135 : decode cX12_stepWord 135 = .ok (.bipush 121, 2) := by decide +kernel
theorem dX12_stepWord_137 : decode cX12_stepWord 137 = .ok (.iconst 0, 1) := by decide +kernel
theorem dX12_stepWord_138 : decode cX12_stepWord 138 = .ok (.iconst 0, 1) := by decide +kernel
theorem dX12_stepWord_139 : decode cX12_stepWord 139 = .ok (.iconst 0, 1) := by decide +kernel
theorem dX12_stepWord_140 : decode cX12_stepWord 140 = .ok (.invokestatic 149, 3) := by decide +kernel
theorem dX12_stepWord_143 : decode cX12_stepWord 143 = .ok (.invokevirtual 153, 3) := by decide +kernel
theorem dX12_stepWord_146 : decode cX12_stepWord 146 = .ok (.ifCond .eq 6, 3) := by decide +kernel
theorem dX12_stepWord_149 : decode cX12_stepWord 149 = .ok (.bipush 6, 2) := by decide +kernel
theorem dX12_stepWord_151 : decode cX12_stepWord 151 = .ok (.ireturn, 1) := by decide +kernel
theorem dX12_stepWord_152 : decode cX12_stepWord 152 = .ok (.aload_n 0, 1) := by decide +kernel
theorem dX12_stepWord_153 : decode cX12_stepWord 153 = .ok (.bipush 119, 2) := by decide +kernel
theorem dX12_stepWord_155 : decode cX12_stepWord 155 = .ok (.bipush 104, 2) := by decide +kernel
theorem dX12_stepWord_157 : decode cX12_stepWord 157 = .ok (.bipush 101, 2) := by decide +kernel
theorem dX12_stepWord_159 : decode cX12_stepWord 159 = .ok (.bipush 110, 2) := by decide +kernel
theorem dX12_stepWord_161 : decode cX12_stepWord 161 = .ok (.iconst 0, 1) := by decide +kernel
theorem dX12_stepWord_162 : decode cX12_stepWord 162 = .ok (.iconst 0, 1) := by decide +kernel
theorem dX12_stepWord_163 : decode cX12_stepWord 163 = .ok (.invokestatic 149, 3) := by decide +kernel
theorem dX12_stepWord_166 : decode cX12_stepWord 166 = .ok (.invokevirtual 153, 3) := by decide +kernel
theorem dX12_stepWord_169 : decode cX12_stepWord 169 = .ok (.ifCond .eq 6, 3) := by decide +kernel
theorem dX12_stepWord_172 : decode cX12_stepWord 172 = .ok (.bipush 7, 2) := by decide +kernel
theorem dX12_stepWord_174 : decode cX12_stepWord 174 = .ok (.ireturn, 1) := by decide +kernel
theorem dX12_stepWord_175 : decode cX12_stepWord 175 = .ok (.aload_n 0, 1) := by decide +kernel
theorem dX12_stepWord_176 : decode cX12_stepWord 176 = .ok (.bipush 108, 2) := by decide +kernel
theorem dX12_stepWord_178 : decode cX12_stepWord 178 = .ok (.bipush 111, 2) := by decide +kernel
theorem dX12_stepWord_180 : decode cX12_stepWord 180 = .ok (.bipush 111, 2) := by decide +kernel
theorem dX12_stepWord_182 : decode cX12_stepWord 182 = .ok (.bipush 112, 2) := by decide +kernel
theorem dX12_stepWord_184 : decode cX12_stepWord 184 = .ok (.iconst 0, 1) := by decide +kernel
theorem dX12_stepWord_185 : decode cX12_stepWord 185 = .ok (.iconst 0, 1) := by decide +kernel
theorem dX12_stepWord_186 : decode cX12_stepWord 186 = .ok (.invokestatic 149, 3) := by decide +kernel
theorem dX12_stepWord_189 : decode cX12_stepWord 189 = .ok (.invokevirtual 153, 3) := by decide +kernel
theorem dX12_stepWord_192 : decode cX12_stepWord 192 = .ok (.ifCond .eq 6, 3) := by decide +kernel
theorem dX12_stepWord_195 : decode cX12_stepWord 195 = .ok (.bipush 8, 2) := by decide +kernel
theorem dX12_stepWord_197 : decode cX12_stepWord 197 = .ok (.ireturn, 1) := by decide +kernel
theorem dX12_stepWord_198 : decode cX12_stepWord 198 = .ok (.aload_n 0, 1) := by decide +kernel
theorem dX12_stepWord_199 : decode cX12_stepWord 199 = .ok (.bipush 115, 2) := by decide +kernel
theorem dX12_stepWord_201 : decode cX12_stepWord 201 = .ok (.bipush 116, 2) := by decide +kernel
theorem dX12_stepWord_203 : decode cX12_stepWord 203 = .ok (.bipush 111, 2) := by decide +kernel
theorem dX12_stepWord_205 : decode cX12_stepWord 205 = .ok (.bipush 112, 2) := by decide +kernel
theorem dX12_stepWord_207 : decode cX12_stepWord 207 = .ok (.iconst 0, 1) := by decide +kernel
theorem dX12_stepWord_208 : decode cX12_stepWord 208 = .ok (.iconst 0, 1) := by decide +kernel
theorem dX12_stepWord_209 : decode cX12_stepWord 209 = .ok (.invokestatic 149, 3) := by decide +kernel
theorem dX12_stepWord_212 : decode cX12_stepWord 212 = .ok (.invokevirtual 153, 3) := by decide +kernel
theorem dX12_stepWord_215 : decode cX12_stepWord 215 = .ok (.ifCond .eq 8, 3) := by decide +kernel
theorem dX12_stepWord_218 : decode cX12_stepWord 218 = .ok (.bipush 9, 2) := by decide +kernel
theorem dX12_stepWord_220 : decode cX12_stepWord 220 = .ok (.goto 4, 3) := by decide +kernel
theorem dX12_stepWord_223 : decode cX12_stepWord 223 = .ok (.iconst (-1), 1) := by decide +kernel
theorem dX12_stepWord_224 : decode cX12_stepWord 224 = .ok (.ireturn, 1) := by decide +kernel
theorem dX12_testWord_0 : decode cX12_testWord 0 = .ok (.aload_n 0, 1) := by decide +kernel
theorem dX12_testWord_1 : decode cX12_testWord 1 = .ok (.bipush 104, 2) := by decide +kernel
theorem dX12_testWord_3 : decode cX12_testWord 3 = .ok (.bipush 111, 2) := by decide +kernel
theorem dX12_testWord_5 : decode cX12_testWord 5 = .ok (.bipush 108, 2) := by decide +kernel
theorem dX12_testWord_7 : decode cX12_testWord 7 = .ok (.bipush 100, 2) := by decide +kernel
theorem dX12_testWord_9 : decode cX12_testWord 9 = .ok (.bipush 115, 2) := by decide +kernel
theorem dX12_testWord_11 : decode cX12_testWord 11 = .ok (.iconst 0, 1) := by decide +kernel
theorem dX12_testWord_12 : decode cX12_testWord 12 = .ok (.invokestatic 149, 3) := by decide +kernel
theorem dX12_testWord_15 : decode cX12_testWord 15 = .ok (.invokevirtual 153, 3) := by decide +kernel
theorem dX12_testWord_18 : decode cX12_testWord 18 = .ok (.ifCond .eq 5, 3) := by decide +kernel
theorem dX12_testWord_21 : decode cX12_testWord 21 = .ok (.iconst 0, 1) := by decide +kernel
theorem dX12_testWord_22 : decode cX12_testWord 22 = .ok (.ireturn, 1) := by decide +kernel
theorem dX12_testWord_23 : decode cX12_testWord 23 = .ok (.aload_n 0, 1) := by decide +kernel
theorem dX12_testWord_24 : decode cX12_testWord 24 = .ok (.bipush 116, 2) := by decide +kernel
theorem dX12_testWord_26 : decode cX12_testWord 26 = .ok (.bipush 105, 2) := by decide +kernel
theorem dX12_testWord_28 : decode cX12_testWord 28 = .ok (.bipush 114, 2) := by decide +kernel
theorem dX12_testWord_30 : decode cX12_testWord 30 = .ok (.bipush 101, 2) := by decide +kernel
theorem dX12_testWord_32 : decode cX12_testWord 32 = .ok (.bipush 100, 2) := by decide +kernel
theorem dX12_testWord_34 : decode cX12_testWord 34 = .ok (.iconst 0, 1) := by decide +kernel
theorem dX12_testWord_35 : decode cX12_testWord 35 = .ok (.invokestatic 149, 3) := by decide +kernel
theorem dX12_testWord_38 : decode cX12_testWord 38 = .ok (.invokevirtual 153, 3) := by decide +kernel
theorem dX12_testWord_41 : decode cX12_testWord 41 = .ok (.ifCond .eq 5, 3) := by decide +kernel
theorem dX12_testWord_44 : decode cX12_testWord 44 = .ok (.iconst 1, 1) := by decide +kernel
theorem dX12_testWord_45 : decode cX12_testWord 45 = .ok (.ireturn, 1) := by decide +kernel
theorem dX12_testWord_46 : decode cX12_testWord 46 = .ok (.aload_n 0, 1) := by decide +kernel
theorem dX12_testWord_47 : decode cX12_testWord 47 = .ok (.bipush 114, 2) := by decide +kernel
theorem dX12_testWord_49 : decode cX12_testWord 49 = .ok (.bipush 97, 2) := by decide +kernel
theorem dX12_testWord_51 : decode cX12_testWord 51 = .ok (.bipush 105, 2) := by decide +kernel
theorem dX12_testWord_53 : decode cX12_testWord 53 = .ok (.bipush 110, 2) := by decide +kernel
theorem dX12_testWord_55 : decode cX12_testWord 55 = .ok (.bipush 105, 2) := by decide +kernel
theorem dX12_testWord_57 : decode cX12_testWord 57 = .ok (.bipush 110, 2) := by decide +kernel
theorem dX12_testWord_59 : decode cX12_testWord 59 = .ok (.invokestatic 149, 3) := by decide +kernel
theorem dX12_testWord_62 : decode cX12_testWord 62 = .ok (.ldc2_w 133, 3) := by decide +kernel
theorem dX12_testWord_65 : decode cX12_testWord 65 = .ok (.lmul, 1) := by decide +kernel
theorem dX12_testWord_66 : decode cX12_testWord 66 = .ok (.ldc2_w 161, 3) := by decide +kernel
theorem dX12_testWord_69 : decode cX12_testWord 69 = .ok (.ladd, 1) := by decide +kernel
theorem dX12_testWord_70 : decode cX12_testWord 70 = .ok (.invokevirtual 153, 3) := by decide +kernel
theorem dX12_testWord_73 : decode cX12_testWord 73 = .ok (.ifCond .eq 7, 3) := by decide +kernel
theorem dX12_testWord_76 : decode cX12_testWord 76 = .ok (.iconst 2, 1) := by decide +kernel
theorem dX12_testWord_77 : decode cX12_testWord 77 = .ok (.goto 4, 3) := by decide +kernel
theorem dX12_testWord_80 : decode cX12_testWord 80 = .ok (.iconst (-1), 1) := by decide +kernel
theorem dX12_testWord_81 : decode cX12_testWord 81 = .ok (.ireturn, 1) := by decide +kernel
theorem dX12_isEnd_0 : decode cX12_isEnd 0 = .ok (.aload_n 0, 1) := by decide +kernel
theorem dX12_isEnd_1 : decode cX12_isEnd 1 = .ok (.bipush 101, 2) := by decide +kernel
theorem dX12_isEnd_3 : decode cX12_isEnd 3 = .ok (.bipush 110, 2) := by decide +kernel
theorem dX12_isEnd_5 : decode cX12_isEnd 5 = .ok (.bipush 100, 2) := by decide +kernel
theorem dX12_isEnd_7 : decode cX12_isEnd 7 = .ok (.iconst 0, 1) := by decide +kernel
theorem dX12_isEnd_8 : decode cX12_isEnd 8 = .ok (.iconst 0, 1) := by decide +kernel
theorem dX12_isEnd_9 : decode cX12_isEnd 9 = .ok (.iconst 0, 1) := by decide +kernel
theorem dX12_isEnd_10 : decode cX12_isEnd 10 = .ok (.invokestatic 149, 3) := by decide +kernel
theorem dX12_isEnd_13 : decode cX12_isEnd 13 = .ok (.invokevirtual 153, 3) := by decide +kernel
theorem dX12_isEnd_16 : decode cX12_isEnd 16 = .ok (.ireturn, 1) := by decide +kernel
theorem dX12_isKept_0 : decode cX12_isKept 0 = .ok (.aload_n 0, 1) := by decide +kernel
theorem dX12_isKept_1 : decode cX12_isKept 1 = .ok (.invokevirtual 163, 3) := by decide +kernel
theorem dX12_isKept_4 : decode cX12_isKept 4 = .ok (.ifCond .ne 66, 3) := by decide +kernel
theorem dX12_isKept_7 : decode cX12_isKept 7 = .ok (.aload_n 0, 1) := by decide +kernel
theorem dX12_isKept_8 : decode cX12_isKept 8 = .ok (.invokevirtual 167, 3) := by decide +kernel
theorem dX12_isKept_11 : decode cX12_isKept 11 = .ok (.ifCond .ne 59, 3) := by decide +kernel
theorem dX12_isKept_14 : decode cX12_isKept 14 = .ok (.aload_n 0, 1) := by decide +kernel
theorem dX12_isKept_15 : decode cX12_isKept 15 = .ok (.invokevirtual 170, 3) := by decide +kernel
theorem dX12_isKept_18 : decode cX12_isKept 18 = .ok (.ifCond .ne 52, 3) := by decide +kernel
theorem dX12_isKept_21 : decode cX12_isKept 21 = .ok (.aload_n 0, 1) := by decide +kernel
theorem dX12_isKept_22 : decode cX12_isKept 22 = .ok (.invokevirtual 173, 3) := by decide +kernel
theorem dX12_isKept_25 : decode cX12_isKept 25 = .ok (.ifCond .ne 45, 3) := by decide +kernel
theorem dX12_isKept_28 : decode cX12_isKept 28 = .ok (.aload_n 0, 1) := by decide +kernel
theorem dX12_isKept_29 : decode cX12_isKept 29 = .ok (.invokevirtual 176, 3) := by decide +kernel
theorem dX12_isKept_32 : decode cX12_isKept 32 = .ok (.ifCond .ne 38, 3) := by decide +kernel
theorem dX12_isKept_35 : decode cX12_isKept 35 = .ok (.aload_n 0, 1) := by decide +kernel
theorem dX12_isKept_36 : decode cX12_isKept 36 = .ok (.invokevirtual 179, 3) := by decide +kernel
theorem dX12_isKept_39 : decode cX12_isKept 39 = .ok (.ifCond .ne 31, 3) := by decide +kernel
theorem dX12_isKept_42 : decode cX12_isKept 42 = .ok (.aload_n 0, 1) := by decide +kernel
theorem dX12_isKept_43 : decode cX12_isKept 43 = .ok (.invokevirtual 182, 3) := by decide +kernel
theorem dX12_isKept_46 : decode cX12_isKept 46 = .ok (.ifCond .ne 24, 3) := by decide +kernel
theorem dX12_isKept_49 : decode cX12_isKept 49 = .ok (.aload_n 0, 1) := by decide +kernel
theorem dX12_isKept_50 : decode cX12_isKept 50 = .ok (.invokevirtual 185, 3) := by decide +kernel
theorem dX12_isKept_53 : decode cX12_isKept 53 = .ok (.ifCond .ne 17, 3) := by decide +kernel
theorem dX12_isKept_56 : decode cX12_isKept 56 = .ok (.aload_n 0, 1) := by decide +kernel
theorem dX12_isKept_57 : decode cX12_isKept 57 = .ok (.invokevirtual 188, 3) := by decide +kernel
theorem dX12_isKept_60 : decode cX12_isKept 60 = .ok (.ifCond .ne 10, 3) := by decide +kernel
theorem dX12_isKept_63 : decode cX12_isKept 63 = .ok (.aload_n 0, 1) := by decide +kernel
theorem dX12_isKept_64 : decode cX12_isKept 64 = .ok (.invokevirtual 191, 3) := by decide +kernel
theorem dX12_isKept_67 : decode cX12_isKept 67 = .ok (.ifCond .eq 5, 3) := by decide +kernel
theorem dX12_isKept_70 : decode cX12_isKept 70 = .ok (.iconst 1, 1) := by decide +kernel
theorem dX12_isKept_71 : decode cX12_isKept 71 = .ok (.ireturn, 1) := by decide +kernel
theorem dX12_isKept_72 : decode cX12_isKept 72 = .ok (.aload_n 0, 1) := by decide +kernel
theorem dX12_isKept_73 : decode cX12_isKept 73 = .ok (.invokevirtual 194, 3) := by decide +kernel
theorem dX12_isKept_76 : decode cX12_isKept 76 = .ok (.ifCond .ne 38, 3) := by decide +kernel
theorem dX12_isKept_79 : decode cX12_isKept 79 = .ok (.aload_n 0, 1) := by decide +kernel
theorem dX12_isKept_80 : decode cX12_isKept 80 = .ok (.invokevirtual 197, 3) := by decide +kernel
theorem dX12_isKept_83 : decode cX12_isKept 83 = .ok (.ifCond .ne 31, 3) := by decide +kernel
theorem dX12_isKept_86 : decode cX12_isKept 86 = .ok (.aload_n 0, 1) := by decide +kernel
theorem dX12_isKept_87 : decode cX12_isKept 87 = .ok (.invokevirtual 200, 3) := by decide +kernel
theorem dX12_isKept_90 : decode cX12_isKept 90 = .ok (.ifCond .ne 24, 3) := by decide +kernel
theorem dX12_isKept_93 : decode cX12_isKept 93 = .ok (.aload_n 0, 1) := by decide +kernel
theorem dX12_isKept_94 : decode cX12_isKept 94 = .ok (.invokevirtual 203, 3) := by decide +kernel
theorem dX12_isKept_97 : decode cX12_isKept 97 = .ok (.ifCond .ne 17, 3) := by decide +kernel
theorem dX12_isKept_100 : decode cX12_isKept 100 = .ok (.aload_n 0, 1) := by decide +kernel
theorem dX12_isKept_101 : decode cX12_isKept 101 = .ok (.invokevirtual 206, 3) := by decide +kernel
theorem dX12_isKept_104 : decode cX12_isKept 104 = .ok (.ifCond .ne 10, 3) := by decide +kernel
theorem dX12_isKept_107 : decode cX12_isKept 107 = .ok (.aload_n 0, 1) := by decide +kernel
theorem dX12_isKept_108 : decode cX12_isKept 108 = .ok (.invokevirtual 209, 3) := by decide +kernel
theorem dX12_isKept_111 : decode cX12_isKept 111 = .ok (.ifCond .eq 5, 3) := by decide +kernel
theorem dX12_isKept_114 : decode cX12_isKept 114 = .ok (.iconst 1, 1) := by decide +kernel
theorem dX12_isKept_115 : decode cX12_isKept 115 = .ok (.ireturn, 1) := by decide +kernel
theorem dX12_isKept_116 : decode cX12_isKept 116 = .ok (.aload_n 0, 1) := by decide +kernel
theorem dX12_isKept_117 : decode cX12_isKept 117 = .ok (.invokevirtual 212, 3) := by decide +kernel
theorem dX12_isKept_120 : decode cX12_isKept 120 = .ok (.ifCond .ge 17, 3) := by decide +kernel
theorem dX12_isKept_123 : decode cX12_isKept 123 = .ok (.aload_n 0, 1) := by decide +kernel
theorem dX12_isKept_124 : decode cX12_isKept 124 = .ok (.invokevirtual 216, 3) := by decide +kernel
theorem dX12_isKept_127 : decode cX12_isKept 127 = .ok (.ifCond .ge 10, 3) := by decide +kernel
theorem dX12_isKept_130 : decode cX12_isKept 130 = .ok (.aload_n 0, 1) := by decide +kernel
theorem dX12_isKept_131 : decode cX12_isKept 131 = .ok (.invokevirtual 219, 3) := by decide +kernel
theorem dX12_isKept_134 : decode cX12_isKept 134 = .ok (.ifCond .eq 7, 3) := by decide +kernel
theorem dX12_isKept_137 : decode cX12_isKept 137 = .ok (.iconst 1, 1) := by decide +kernel
theorem dX12_isKept_138 : decode cX12_isKept 138 = .ok (.goto 4, 3) := by decide +kernel
theorem dX12_isKept_141 : decode cX12_isKept 141 = .ok (.iconst 0, 1) := by decide +kernel
theorem dX12_isKept_142 : decode cX12_isKept 142 = .ok (.ireturn, 1) := by decide +kernel
theorem dX12_isName_0 : decode cX12_isName 0 = .ok (.aload_n 0, 1) := by decide +kernel
theorem dX12_isName_1 : decode cX12_isName 1 = .ok (.getfield 124, 3) := by decide +kernel
theorem dX12_isName_4 : decode cX12_isName 4 = .ok (.iconst 1, 1) := by decide +kernel
theorem dX12_isName_5 : decode cX12_isName 5 = .ok (.if_icmp .ne 23, 3) := by decide +kernel
theorem dX12_isName_8 : decode cX12_isName 8 = .ok (.aload_n 0, 1) := by decide +kernel
theorem dX12_isName_9 : decode cX12_isName 9 = .ok (.getfield 137, 3) := by decide +kernel
theorem dX12_isName_12 : decode cX12_isName 12 = .ok (.bipush 8, 2) := by decide +kernel
theorem dX12_isName_14 : decode cX12_isName 14 = .ok (.if_icmp .gt 14, 3) := by decide +kernel
theorem dX12_isName_17 : decode cX12_isName 17 = .ok (.aload_n 0, 1) := by decide +kernel
theorem dX12_isName_18 : decode cX12_isName 18 = .ok (.invokevirtual 222, 3) := by decide +kernel
theorem dX12_isName_21 : decode cX12_isName 21 = .ok (.ifCond .ne 7, 3) := by decide +kernel
theorem dX12_isName_24 : decode cX12_isName 24 = .ok (.iconst 1, 1) := by decide +kernel
theorem dX12_isName_25 : decode cX12_isName 25 = .ok (.goto 4, 3) := by decide +kernel
theorem dX12_isName_28 : decode cX12_isName 28 = .ok (.iconst 0, 1) := by decide +kernel
theorem dX12_isName_29 : decode cX12_isName 29 = .ok (.ireturn, 1) := by decide +kernel
theorem dX12_fail_0 : decode cX12_fail 0 = .ok (.aload_n 0, 1) := by decide +kernel
theorem dX12_fail_1 : decode cX12_fail 1 = .ok (.getfield 225, 3) := by decide +kernel
theorem dX12_fail_4 : decode cX12_fail 4 = .ok (.ifCond .le 4, 3) := by decide +kernel
theorem dX12_fail_7 : decode cX12_fail 7 = .ok (.return_, 1) := by decide +kernel
theorem dX12_fail_8 : decode cX12_fail 8 = .ok (.aload_n 0, 1) := by decide +kernel
theorem dX12_fail_9 : decode cX12_fail 9 = .ok (.iload_n 1, 1) := by decide +kernel
theorem dX12_fail_10 : decode cX12_fail 10 = .ok (.putfield 225, 3) := by decide +kernel
theorem dX12_fail_13 : decode cX12_fail 13 = .ok (.aload_n 0, 1) := by decide +kernel
theorem dX12_fail_14 : decode cX12_fail 14 = .ok (.iload_n 2, 1) := by decide +kernel
theorem dX12_fail_15 : decode cX12_fail 15 = .ok (.putfield 228, 3) := by decide +kernel
theorem dX12_fail_18 : decode cX12_fail 18 = .ok (.return_, 1) := by decide +kernel
theorem dX12_amiss_0 : decode cX12_amiss 0 = .ok (.aload_n 0, 1) := by decide +kernel
theorem dX12_amiss_1 : decode cX12_amiss 1 = .ok (.aload_n 0, 1) := by decide +kernel
theorem dX12_amiss_2 : decode cX12_amiss 2 = .ok (.getfield 124, 3) := by decide +kernel
theorem dX12_amiss_5 : decode cX12_amiss 5 = .ok (.iconst 4, 1) := by decide +kernel
theorem dX12_amiss_6 : decode cX12_amiss 6 = .ok (.if_icmp .ne 7, 3) := by decide +kernel
theorem dX12_amiss_9 : decode cX12_amiss 9 = .ok (.iconst 1, 1) := by decide +kernel
theorem dX12_amiss_10 : decode cX12_amiss 10 = .ok (.goto 4, 3) := by decide +kernel
theorem dX12_amiss_13 : decode cX12_amiss 13 = .ok (.iconst 2, 1) := by decide +kernel
theorem dX12_amiss_14 : decode cX12_amiss 14 = .ok (.aload_n 0, 1) := by decide +kernel
theorem dX12_amiss_15 : decode cX12_amiss 15 = .ok (.getfield 118, 3) := by decide +kernel
theorem dX12_amiss_18 : decode cX12_amiss 18 = .ok (.invokevirtual 231, 3) := by decide +kernel
theorem dX12_amiss_21 : decode cX12_amiss 21 = .ok (.return_, 1) := by decide +kernel
theorem dX12_must_0 : decode cX12_must 0 = .ok (.aload_n 0, 1) := by decide +kernel
theorem dX12_must_1 : decode cX12_must 1 = .ok (.getfield 225, 3) := by decide +kernel
theorem dX12_must_4 : decode cX12_must 4 = .ok (.ifCond .le 4, 3) := by decide +kernel
theorem dX12_must_7 : decode cX12_must 7 = .ok (.return_, 1) := by decide +kernel
theorem dX12_must_8 : decode cX12_must 8 = .ok (.iload_n 1, 1) := by decide +kernel
theorem dX12_must_9 : decode cX12_must 9 = .ok (.ifCond .eq 10, 3) := by decide +kernel
theorem dX12_must_12 : decode cX12_must 12 = .ok (.aload_n 0, 1) := by decide +kernel
theorem dX12_must_13 : decode cX12_must 13 = .ok (.invokevirtual 235, 3) := by decide +kernel
theorem dX12_must_16 : decode cX12_must 16 = .ok (.goto 7, 3) := by decide +kernel
theorem dX12_must_19 : decode cX12_must 19 = .ok (.aload_n 0, 1) := by decide +kernel
theorem dX12_must_20 : decode cX12_must 20 = .ok (.invokevirtual 238, 3) := by decide +kernel
theorem dX12_must_23 : decode cX12_must 23 = .ok (.return_, 1) := by decide +kernel
theorem dX12_count_0 : decode cX12_count 0 = .ok (.aload_n 0, 1) := by decide +kernel
theorem dX12_count_1 : decode cX12_count 1 = .ok (.getfield 225, 3) := by decide +kernel
theorem dX12_count_4 : decode cX12_count 4 = .ok (.ifCond .ne 15, 3) := by decide +kernel
theorem dX12_count_7 : decode cX12_count 7 = .ok (.aload_n 0, 1) := by decide +kernel
theorem dX12_count_8 : decode cX12_count 8 = .ok (.getfield 124, 3) := by decide +kernel
theorem dX12_count_11 : decode cX12_count 11 = .ok (.iconst 2, 1) := by decide +kernel
theorem dX12_count_12 : decode cX12_count 12 = .ok (.if_icmp .eq 7, 3) := by decide +kernel
theorem dX12_count_15 : decode cX12_count 15 = .ok (.aload_n 0, 1) := by decide +kernel
theorem dX12_count_16 : decode cX12_count 16 = .ok (.invokevirtual 238, 3) := by decide +kernel
theorem dX12_count_19 : decode cX12_count 19 = .ok (.aload_n 0, 1) := by decide +kernel
theorem dX12_count_20 : decode cX12_count 20 = .ok (.getfield 225, 3) := by decide +kernel
theorem dX12_count_23 : decode cX12_count 23 = .ok (.ifCond .ne 27, 3) := by decide +kernel
theorem dX12_count_26 : decode cX12_count 26 = .ok (.aload_n 0, 1) := by decide +kernel
theorem dX12_count_27 : decode cX12_count 27 = .ok (.getfield 143, 3) := by decide +kernel
theorem dX12_count_30 : decode cX12_count 30 = .ok (.i2l, 1) := by decide +kernel
theorem dX12_count_31 : decode cX12_count 31 = .ok (.iload_n 1, 1) := by decide +kernel
theorem dX12_count_32 : decode cX12_count 32 = .ok (.i2l, 1) := by decide +kernel
theorem dX12_count_33 : decode cX12_count 33 = .ok (.iload_n 2, 1) := by decide +kernel
theorem dX12_count_34 : decode cX12_count 34 = .ok (.i2l, 1) := by decide +kernel
theorem dX12_count_35 : decode cX12_count 35 = .ok (.invokestatic 104, 3) := by decide +kernel
theorem dX12_count_38 : decode cX12_count 38 = .ok (.ifCond .ne 12, 3) := by decide +kernel
theorem dX12_count_41 : decode cX12_count 41 = .ok (.aload_n 0, 1) := by decide +kernel
theorem dX12_count_42 : decode cX12_count 42 = .ok (.iconst 4, 1) := by decide +kernel
theorem dX12_count_43 : decode cX12_count 43 = .ok (.aload_n 0, 1) := by decide +kernel
theorem dX12_count_44 : decode cX12_count 44 = .ok (.getfield 118, 3) := by decide +kernel
theorem dX12_count_47 : decode cX12_count 47 = .ok (.invokevirtual 231, 3) := by decide +kernel
theorem dX12_count_50 : decode cX12_count 50 = .ok (.aload_n 0, 1) := by decide +kernel
theorem dX12_count_51 : decode cX12_count 51 = .ok (.getfield 225, 3) := by decide +kernel
theorem dX12_count_54 : decode cX12_count 54 = .ok (.ifCond .le 5, 3) := by decide +kernel
theorem dX12_count_57 : decode cX12_count 57 = .ok (.iconst 0, 1) := by decide +kernel
theorem dX12_count_58 : decode cX12_count 58 = .ok (.ireturn, 1) := by decide +kernel
theorem dX12_count_59 : decode cX12_count 59 = .ok (.aload_n 0, 1) := by decide +kernel
theorem dX12_count_60 : decode cX12_count 60 = .ok (.getfield 143, 3) := by decide +kernel
theorem dX12_count_63 : decode cX12_count 63 = .ok (.istore_n 3, 1) := by decide +kernel
theorem dX12_count_64 : decode cX12_count 64 = .ok (.aload_n 0, 1) := by decide +kernel
theorem dX12_count_65 : decode cX12_count 65 = .ok (.invokevirtual 235, 3) := by decide +kernel
theorem dX12_count_68 : decode cX12_count 68 = .ok (.iload_n 3, 1) := by decide +kernel
theorem dX12_count_69 : decode cX12_count 69 = .ok (.ireturn, 1) := by decide +kernel
theorem dX12_behindWord_0 : decode cX12_behindWord 0 = .ok (.aload_n 0, 1) := by decide +kernel
theorem dX12_behindWord_1 : decode cX12_behindWord 1 = .ok (.iload_n 1, 1) := by decide +kernel
theorem dX12_behindWord_2 : decode cX12_behindWord 2 = .ok (.invokevirtual 241, 3) := by decide +kernel
theorem dX12_behindWord_5 : decode cX12_behindWord 5 = .ok (.aload_n 0, 1) := by decide +kernel
theorem dX12_behindWord_6 : decode cX12_behindWord 6 = .ok (.iload_n 2, 1) := by decide +kernel
theorem dX12_behindWord_7 : decode cX12_behindWord 7 = .ok (.iload_n 3, 1) := by decide +kernel
theorem dX12_behindWord_8 : decode cX12_behindWord 8 = .ok (.invokevirtual 245, 3) := by decide +kernel
theorem dX12_behindWord_11 : decode cX12_behindWord 11 = .ok (.ireturn, 1) := by decide +kernel
theorem dX12_feed_0 : decode cX12_feed 0 = .ok (.aload_n 0, 1) := by decide +kernel
theorem dX12_feed_1 : decode cX12_feed 1 = .ok (.iconst 0, 1) := by decide +kernel
theorem dX12_feed_2 : decode cX12_feed 2 = .ok (.putfield 69, 3) := by decide +kernel
theorem dX12_feed_5 : decode cX12_feed 5 = .ok (.aload_n 0, 1) := by decide +kernel
theorem dX12_feed_6 : decode cX12_feed 6 = .ok (.getfield 248, 3) := by decide +kernel
theorem dX12_feed_9 : decode cX12_feed 9 = .ok (.bipush 20, 2) := by decide +kernel
theorem dX12_feed_11 : decode cX12_feed 11 = .ok (.iadd, 1) := by decide +kernel
theorem dX12_feed_12 : decode cX12_feed 12 = .ok (.sipush 900, 3) := by decide +kernel
theorem dX12_feed_15 : decode cX12_feed 15 = .ok (.if_icmp .le 5, 3) := by decide +kernel
theorem dX12_feed_18 : decode cX12_feed 18 = .ok (.iconst (-1), 1) := by decide +kernel
theorem dX12_feed_19 : decode cX12_feed 19 = .ok (.ireturn, 1) := by decide +kernel
theorem dX12_feed_20 : decode cX12_feed 20 = .ok (.aload_n 0, 1) := by decide +kernel
theorem dX12_feed_21 : decode cX12_feed 21 = .ok (.iload_n 1, 1) := by decide +kernel
theorem dX12_feed_22 : decode cX12_feed 22 = .ok (.invokevirtual 251, 3) := by decide +kernel
theorem dX12_feed_25 : decode cX12_feed 25 = .ok (.aload_n 0, 1) := by decide +kernel
theorem dX12_feed_26 : decode cX12_feed 26 = .ok (.iload_n 2, 1) := by decide +kernel
theorem dX12_feed_27 : decode cX12_feed 27 = .ok (.invokevirtual 251, 3) := by decide +kernel
theorem dX12_feed_30 : decode cX12_feed 30 = .ok (.aload_n 0, 1) := by decide +kernel
theorem dX12_feed_31 : decode cX12_feed 31 = .ok (.iload_n 3, 1) := by decide +kernel
theorem dX12_feed_32 : decode cX12_feed 32 = .ok (.invokevirtual 251, 3) := by decide +kernel
theorem dX12_feed_35 : decode cX12_feed 35 = .ok (.aload_n 0, 1) := by decide +kernel
theorem dX12_feed_36 : decode cX12_feed 36 = .ok (.iload 4, 2) := by decide +kernel
theorem dX12_feed_38 : decode cX12_feed 38 = .ok (.invokevirtual 251, 3) := by decide +kernel
theorem dX12_feed_41 : decode cX12_feed 41 = .ok (.aload_n 0, 1) := by decide +kernel
theorem dX12_feed_42 : decode cX12_feed 42 = .ok (.iload 5, 2) := by decide +kernel
theorem dX12_feed_44 : decode cX12_feed 44 = .ok (.invokevirtual 251, 3) := by decide +kernel
theorem dX12_feed_47 : decode cX12_feed 47 = .ok (.aload_n 0, 1) := by decide +kernel
theorem dX12_feed_48 : decode cX12_feed 48 = .ok (.getfield 248, 3) := by decide +kernel
theorem dX12_feed_51 : decode cX12_feed 51 = .ok (.ireturn, 1) := by decide +kernel
theorem dX12_lay_0 : decode cX12_lay 0 = .ok (.iconst 3, 1) := by decide +kernel
theorem dX12_lay_1 : decode cX12_lay 1 = .ok (.istore_n 2, 1) := by decide +kernel
theorem dX12_lay_2 : decode cX12_lay 2 = .ok (.iload_n 2, 1) := by decide +kernel
theorem dX12_lay_3 : decode cX12_lay 3 = .ok (.ifCond .lt 35, 3) := by decide +kernel
theorem dX12_lay_6 : decode cX12_lay 6 = .ok (.aload_n 0, 1) := by decide +kernel
theorem dX12_lay_7 : decode cX12_lay 7 = .ok (.getfield 24, 3) := by decide +kernel
theorem dX12_lay_10 : decode cX12_lay 10 = .ok (.aload_n 0, 1) := by decide +kernel
theorem dX12_lay_11 : decode cX12_lay 11 = .ok (.getfield 248, 3) := by decide +kernel
theorem dX12_lay_14 : decode cX12_lay 14 = .ok (.iload_n 1, 1) := by decide +kernel
theorem dX12_lay_15 : decode cX12_lay 15 = .ok (.bipush 8, 2) := by decide +kernel
theorem dX12_lay_17 : decode cX12_lay 17 = .ok (.iload_n 2, 1) := by decide +kernel
theorem dX12_lay_18 : decode cX12_lay 18 = .ok (.imul, 1) := by decide +kernel
theorem dX12_lay_19 : decode cX12_lay 19 = .ok (.ishr, 1) := by decide +kernel
theorem dX12_lay_20 : decode cX12_lay 20 = .ok (.i2b, 1) := by decide +kernel
theorem dX12_lay_21 : decode cX12_lay 21 = .ok (.bastore, 1) := by decide +kernel
theorem dX12_lay_22 : decode cX12_lay 22 = .ok (.aload_n 0, 1) := by decide +kernel
theorem dX12_lay_23 : decode cX12_lay 23 = .ok (.dup, 1) := by decide +kernel
theorem dX12_lay_24 : decode cX12_lay 24 = .ok (.getfield 248, 3) := by decide +kernel
theorem dX12_lay_27 : decode cX12_lay 27 = .ok (.iconst 1, 1) := by decide +kernel
theorem dX12_lay_28 : decode cX12_lay 28 = .ok (.iadd, 1) := by decide +kernel
theorem dX12_lay_29 : decode cX12_lay 29 = .ok (.putfield 248, 3) := by decide +kernel
theorem dX12_lay_32 : decode cX12_lay 32 = .ok (.iinc 2 (-1), 3) := by decide +kernel
theorem dX12_lay_35 : decode cX12_lay 35 = .ok (.goto (-33), 3) := by decide +kernel
theorem dX12_lay_38 : decode cX12_lay 38 = .ok (.return_, 1) := by decide +kernel
theorem dX12_starts_0 : decode cX12_starts 0 = .ok (.iload_n 1, 1) := by decide +kernel
theorem dX12_starts_1 : decode cX12_starts 1 = .ok (.ifCond .lt 16, 3) := by decide +kernel
theorem dX12_starts_4 : decode cX12_starts 4 = .ok (.iload_n 1, 1) := by decide +kernel
theorem dX12_starts_5 : decode cX12_starts 5 = .ok (.aload_n 0, 1) := by decide +kernel
theorem dX12_starts_6 : decode cX12_starts 6 = .ok (.getfield 248, 3) := by decide +kernel
theorem dX12_starts_9 : decode cX12_starts 9 = .ok (.if_icmp .gt 8, 3) := by decide +kernel
theorem dX12_starts_12 : decode cX12_starts 12 = .ok (.iload_n 1, 1) := by decide +kernel
theorem dX12_starts_13 : decode cX12_starts 13 = .ok (.iload_n 2, 1) := by decide +kernel
theorem dX12_starts_14 : decode cX12_starts 14 = .ok (.if_icmp .le 9, 3) := by decide +kernel
theorem dX12_starts_17 : decode cX12_starts 17 = .ok (.aload_n 0, 1) := by decide +kernel
theorem dX12_starts_18 : decode cX12_starts 18 = .ok (.iconst 5, 1) := by decide +kernel
theorem dX12_starts_19 : decode cX12_starts 19 = .ok (.invokevirtual 84, 3) := by decide +kernel
theorem dX12_starts_22 : decode cX12_starts 22 = .ok (.ireturn, 1) := by decide +kernel
theorem dX12_starts_23 : decode cX12_starts 23 = .ok (.aload_n 0, 1) := by decide +kernel
theorem dX12_starts_24 : decode cX12_starts 24 = .ok (.iload_n 1, 1) := by decide +kernel
theorem dX12_starts_25 : decode cX12_starts 25 = .ok (.putfield 112, 3) := by decide +kernel
theorem dX12_starts_28 : decode cX12_starts 28 = .ok (.aload_n 0, 1) := by decide +kernel
theorem dX12_starts_29 : decode cX12_starts 29 = .ok (.iconst 0, 1) := by decide +kernel
theorem dX12_starts_30 : decode cX12_starts 30 = .ok (.putfield 248, 3) := by decide +kernel
theorem dX12_starts_33 : decode cX12_starts 33 = .ok (.aload_n 0, 1) := by decide +kernel
theorem dX12_starts_34 : decode cX12_starts 34 = .ok (.iconst 0, 1) := by decide +kernel
theorem dX12_starts_35 : decode cX12_starts 35 = .ok (.putfield 115, 3) := by decide +kernel
theorem dX12_starts_38 : decode cX12_starts 38 = .ok (.aload_n 0, 1) := by decide +kernel
theorem dX12_starts_39 : decode cX12_starts 39 = .ok (.iconst 0, 1) := by decide +kernel
theorem dX12_starts_40 : decode cX12_starts 40 = .ok (.putfield 225, 3) := by decide +kernel
theorem dX12_starts_43 : decode cX12_starts 43 = .ok (.aload_n 0, 1) := by decide +kernel
theorem dX12_starts_44 : decode cX12_starts 44 = .ok (.invokevirtual 235, 3) := by decide +kernel
theorem dX12_starts_47 : decode cX12_starts 47 = .ok (.iconst 1, 1) := by decide +kernel
theorem dX12_starts_48 : decode cX12_starts 48 = .ok (.ireturn, 1) := by decide +kernel
theorem dX12_isWell_0 : decode cX12_isWell 0 = .ok (.aload_n 0, 1) := by decide +kernel
theorem dX12_isWell_1 : decode cX12_isWell 1 = .ok (.aload_n 0, 1) := by decide +kernel
theorem dX12_isWell_2 : decode cX12_isWell 2 = .ok (.getfield 225, 3) := by decide +kernel
theorem dX12_isWell_5 : decode cX12_isWell 5 = .ok (.putfield 28, 3) := by decide +kernel
theorem dX12_isWell_8 : decode cX12_isWell 8 = .ok (.aload_n 0, 1) := by decide +kernel
theorem dX12_isWell_9 : decode cX12_isWell 9 = .ok (.aload_n 0, 1) := by decide +kernel
theorem dX12_isWell_10 : decode cX12_isWell 10 = .ok (.getfield 225, 3) := by decide +kernel
theorem dX12_isWell_13 : decode cX12_isWell 13 = .ok (.ifCond .ne 7, 3) := by decide +kernel
theorem dX12_isWell_16 : decode cX12_isWell 16 = .ok (.iconst (-1), 1) := by decide +kernel
theorem dX12_isWell_17 : decode cX12_isWell 17 = .ok (.goto 7, 3) := by decide +kernel
theorem dX12_isWell_20 : decode cX12_isWell 20 = .ok (.aload_n 0, 1) := by decide +kernel
theorem dX12_isWell_21 : decode cX12_isWell 21 = .ok (.getfield 228, 3) := by decide +kernel
theorem dX12_isWell_24 : decode cX12_isWell 24 = .ok (.putfield 32, 3) := by decide +kernel
theorem dX12_isWell_27 : decode cX12_isWell 27 = .ok (.aload_n 0, 1) := by decide +kernel
theorem dX12_isWell_28 : decode cX12_isWell 28 = .ok (.getfield 225, 3) := by decide +kernel
theorem dX12_isWell_31 : decode cX12_isWell 31 = .ok (.ifCond .eq 12, 3) := by decide +kernel
theorem dX12_isWell_34 : decode cX12_isWell 34 = .ok (.aload_n 0, 1) := by decide +kernel
theorem dX12_isWell_35 : decode cX12_isWell 35 = .ok (.bipush 10, 2) := by decide +kernel
theorem dX12_isWell_37 : decode cX12_isWell 37 = .ok (.invokevirtual 84, 3) := by decide +kernel
theorem dX12_isWell_40 : decode cX12_isWell 40 = .ok (.ifCond .eq 7, 3) := by decide +kernel
theorem dX12_isWell_43 : decode cX12_isWell 43 = .ok (.iconst 1, 1) := by decide +kernel
theorem dX12_isWell_44 : decode cX12_isWell 44 = .ok (.goto 4, 3) := by decide +kernel
theorem dX12_isWell_47 : decode cX12_isWell 47 = .ok (.iconst 0, 1) := by decide +kernel
theorem dX12_isWell_48 : decode cX12_isWell 48 = .ok (.ireturn, 1) := by decide +kernel
theorem dX12_fault_0 : decode cX12_fault 0 = .ok (.aload_n 0, 1) := by decide +kernel
theorem dX12_fault_1 : decode cX12_fault 1 = .ok (.iconst 0, 1) := by decide +kernel
theorem dX12_fault_2 : decode cX12_fault 2 = .ok (.putfield 69, 3) := by decide +kernel
theorem dX12_fault_5 : decode cX12_fault 5 = .ok (.iload_n 1, 1) := by decide +kernel
theorem dX12_fault_6 : decode cX12_fault 6 = .ok (.ifCond .ne 10, 3) := by decide +kernel
theorem dX12_fault_9 : decode cX12_fault 9 = .ok (.aload_n 0, 1) := by decide +kernel
theorem dX12_fault_10 : decode cX12_fault 10 = .ok (.getfield 28, 3) := by decide +kernel
theorem dX12_fault_13 : decode cX12_fault 13 = .ok (.goto 16, 3) := by decide +kernel
theorem dX12_fault_16 : decode cX12_fault 16 = .ok (.iload_n 1, 1) := by decide +kernel
theorem dX12_fault_17 : decode cX12_fault 17 = .ok (.iconst 1, 1) := by decide +kernel
theorem dX12_fault_18 : decode cX12_fault 18 = .ok (.if_icmp .ne 10, 3) := by decide +kernel
theorem dX12_fault_21 : decode cX12_fault 21 = .ok (.aload_n 0, 1) := by decide +kernel
theorem dX12_fault_22 : decode cX12_fault 22 = .ok (.getfield 32, 3) := by decide +kernel
theorem dX12_fault_25 : decode cX12_fault 25 = .ok (.goto 4, 3) := by decide +kernel
theorem dX12_fault_28 : decode cX12_fault 28 = .ok (.iconst (-1), 1) := by decide +kernel
theorem dX12_fault_29 : decode cX12_fault 29 = .ok (.ireturn, 1) := by decide +kernel
theorem dX12_empties_0 : decode cX12_empties 0 = .ok (.sipush 408, 3) := by decide +kernel
theorem dX12_empties_3 : decode cX12_empties 3 = .ok (.iload_n 1, 1) := by decide +kernel
theorem dX12_empties_4 : decode cX12_empties 4 = .ok (.imul, 1) := by decide +kernel
theorem dX12_empties_5 : decode cX12_empties 5 = .ok (.istore_n 2, 1) := by decide +kernel
theorem dX12_empties_6 : decode cX12_empties 6 = .ok (.iconst 0, 1) := by decide +kernel
theorem dX12_empties_7 : decode cX12_empties 7 = .ok (.istore_n 3, 1) := by decide +kernel
theorem dX12_empties_8 : decode cX12_empties 8 = .ok (.iload_n 3, 1) := by decide +kernel
theorem dX12_empties_9 : decode cX12_empties 9 = .ok (.sipush 408, 3) := by decide +kernel
theorem dX12_empties_12 : decode cX12_empties 12 = .ok (.if_icmp .ge 18, 3) := by decide +kernel
theorem dX12_empties_15 : decode cX12_empties 15 = .ok (.aload_n 0, 1) := by decide +kernel
theorem dX12_empties_16 : decode cX12_empties 16 = .ok (.getfield 35, 3) := by decide +kernel
theorem dX12_empties_19 : decode cX12_empties 19 = .ok (.iload_n 2, 1) := by decide +kernel
theorem dX12_empties_20 : decode cX12_empties 20 = .ok (.iload_n 3, 1) := by decide +kernel
theorem dX12_empties_21 : decode cX12_empties 21 = .ok (.iadd, 1) := by decide +kernel
theorem dX12_empties_22 : decode cX12_empties 22 = .ok (.iconst 0, 1) := by decide +kernel
theorem dX12_empties_23 : decode cX12_empties 23 = .ok (.iastore, 1) := by decide +kernel
theorem dX12_empties_24 : decode cX12_empties 24 = .ok (.iinc 3 1, 3) := by decide +kernel
theorem dX12_empties_27 : decode cX12_empties 27 = .ok (.goto (-19), 3) := by decide +kernel
theorem dX12_empties_30 : decode cX12_empties 30 = .ok (.aload_n 0, 1) := by decide +kernel
theorem dX12_empties_31 : decode cX12_empties 31 = .ok (.getfield 35, 3) := by decide +kernel
theorem dX12_empties_34 : decode cX12_empties 34 = .ok (.iload_n 2, 1) := by decide +kernel
theorem dX12_empties_35 : decode cX12_empties 35 = .ok (.iconst 4, 1) := by decide +kernel
theorem dX12_empties_36 : decode cX12_empties 36 = .ok (.iadd, 1) := by decide +kernel
theorem dX12_empties_37 : decode cX12_empties 37 = .ok (.iconst 2, 1) := by decide +kernel
theorem dX12_empties_38 : decode cX12_empties 38 = .ok (.iastore, 1) := by decide +kernel
theorem dX12_empties_39 : decode cX12_empties 39 = .ok (.aload_n 0, 1) := by decide +kernel
theorem dX12_empties_40 : decode cX12_empties 40 = .ok (.getfield 35, 3) := by decide +kernel
theorem dX12_empties_43 : decode cX12_empties 43 = .ok (.iload_n 2, 1) := by decide +kernel
theorem dX12_empties_44 : decode cX12_empties 44 = .ok (.iconst 5, 1) := by decide +kernel
theorem dX12_empties_45 : decode cX12_empties 45 = .ok (.iadd, 1) := by decide +kernel
theorem dX12_empties_46 : decode cX12_empties 46 = .ok (.iconst 2, 1) := by decide +kernel
theorem dX12_empties_47 : decode cX12_empties 47 = .ok (.iastore, 1) := by decide +kernel
theorem dX12_empties_48 : decode cX12_empties 48 = .ok (.aload_n 0, 1) := by decide +kernel
theorem dX12_empties_49 : decode cX12_empties 49 = .ok (.getfield 35, 3) := by decide +kernel
theorem dX12_empties_52 : decode cX12_empties 52 = .ok (.iload_n 2, 1) := by decide +kernel
theorem dX12_empties_53 : decode cX12_empties 53 = .ok (.bipush 6, 2) := by decide +kernel
theorem dX12_empties_55 : decode cX12_empties 55 = .ok (.iadd, 1) := by decide +kernel
theorem dX12_empties_56 : decode cX12_empties 56 = .ok (.iconst 4, 1) := by decide +kernel
theorem dX12_empties_57 : decode cX12_empties 57 = .ok (.iastore, 1) := by decide +kernel
theorem dX12_empties_58 : decode cX12_empties 58 = .ok (.aload_n 0, 1) := by decide +kernel
theorem dX12_empties_59 : decode cX12_empties 59 = .ok (.getfield 35, 3) := by decide +kernel
theorem dX12_empties_62 : decode cX12_empties 62 = .ok (.iload_n 2, 1) := by decide +kernel
theorem dX12_empties_63 : decode cX12_empties 63 = .ok (.bipush 8, 2) := by decide +kernel
theorem dX12_empties_65 : decode cX12_empties 65 = .ok (.iadd, 1) := by decide +kernel
theorem dX12_empties_66 : decode cX12_empties 66 = .ok (.iconst 4, 1) := by decide +kernel
theorem dX12_empties_67 : decode cX12_empties 67 = .ok (.iastore, 1) := by decide +kernel
theorem dX12_empties_68 : decode cX12_empties 68 = .ok (.return_, 1) := by decide +kernel
theorem dX12_named_0 : decode cX12_named 0 = .ok (.iconst 0, 1) := by decide +kernel
theorem dX12_named_1 : decode cX12_named 1 = .ok (.istore_n 3, 1) := by decide +kernel
theorem dX12_named_2 : decode cX12_named 2 = .ok (.iload_n 3, 1) := by decide +kernel
theorem dX12_named_3 : decode cX12_named 3 = .ok (.aload_n 0, 1) := by decide +kernel
theorem dX12_named_4 : decode cX12_named 4 = .ok (.getfield 35, 3) := by decide +kernel
theorem dX12_named_7 : decode cX12_named 7 = .ok (.sipush 408, 3) := by decide +kernel
theorem dX12_named_10 : decode cX12_named 10 = .ok (.iload_n 1, 1) := by decide +kernel
theorem dX12_named_11 : decode cX12_named 11 = .ok (.imul, 1) := by decide +kernel
theorem dX12_named_12 : decode cX12_named 12 = .ok (.iconst 2, 1) := by decide +kernel
theorem dX12_named_13 : decode cX12_named 13 = .ok (.iadd, 1) := by decide +kernel
theorem dX12_named_14 : decode cX12_named 14 = .ok (.iload_n 2, 1) := by decide +kernel
theorem dX12_named_15 : decode cX12_named 15 = .ok (.iadd, 1) := by decide +kernel
theorem dX12_named_16 : decode cX12_named 16 = .ok (.iaload, 1) := by decide +kernel
theorem dX12_named_17 : decode cX12_named 17 = .ok (.if_icmp .ge 35, 3) := by decide +kernel
theorem dX12_named_20 : decode cX12_named 20 = .ok (.aload_n 0, 1) := by decide +kernel
theorem dX12_named_21 : decode cX12_named 21 = .ok (.getfield 44, 3) := by decide +kernel
theorem dX12_named_24 : decode cX12_named 24 = .ok (.bipush 12, 2) := by decide +kernel
theorem dX12_named_26 : decode cX12_named 26 = .ok (.iload_n 1, 1) := by decide +kernel
theorem dX12_named_27 : decode cX12_named 27 = .ok (.imul, 1) := by decide +kernel
theorem dX12_named_28 : decode cX12_named 28 = .ok (.bipush 6, 2) := by decide +kernel
theorem dX12_named_30 : decode cX12_named 30 = .ok (.iload_n 2, 1) := by decide +kernel
theorem dX12_named_31 : decode cX12_named 31 = .ok (.imul, 1) := by decide +kernel
theorem dX12_named_32 : decode cX12_named 32 = .ok (.iadd, 1) := by decide +kernel
theorem dX12_named_33 : decode cX12_named 33 = .ok (.iload_n 3, 1) := by decide +kernel
theorem dX12_named_34 : decode cX12_named 34 = .ok (.iadd, 1) := by decide +kernel
theorem dX12_named_35 : decode cX12_named 35 = .ok (.laload, 1) := by decide +kernel
theorem dX12_named_36 : decode cX12_named 36 = .ok (.aload_n 0, 1) := by decide +kernel
theorem dX12_named_37 : decode cX12_named 37 = .ok (.getfield 130, 3) := by decide +kernel
theorem dX12_named_40 : decode cX12_named 40 = .ok (.lcmp, 1) := by decide +kernel
theorem dX12_named_41 : decode cX12_named 41 = .ok (.ifCond .ne 5, 3) := by decide +kernel
theorem dX12_named_44 : decode cX12_named 44 = .ok (.iload_n 3, 1) := by decide +kernel
theorem dX12_named_45 : decode cX12_named 45 = .ok (.ireturn, 1) := by decide +kernel
theorem dX12_named_46 : decode cX12_named 46 = .ok (.iinc 3 1, 3) := by decide +kernel
theorem dX12_named_49 : decode cX12_named 49 = .ok (.goto (-47), 3) := by decide +kernel
theorem dX12_named_52 : decode cX12_named 52 = .ok (.iconst (-1), 1) := by decide +kernel
theorem dX12_named_53 : decode cX12_named 53 = .ok (.ireturn, 1) := by decide +kernel
theorem dX12_readNew_0 : decode cX12_readNew 0 = .ok (.aload_n 0, 1) := by decide +kernel
theorem dX12_readNew_1 : decode cX12_readNew 1 = .ok (.getfield 35, 3) := by decide +kernel
theorem dX12_readNew_4 : decode cX12_readNew 4 = .ok (.sipush 1634, 3) := by decide +kernel
theorem dX12_readNew_7 : decode cX12_readNew 7 = .ok (.iload_n 1, 1) := by decide +kernel
theorem dX12_readNew_8 : decode cX12_readNew 8 = .ok (.iadd, 1) := by decide +kernel
theorem dX12_readNew_9 : decode cX12_readNew 9 = .ok (.iaload, 1) := by decide +kernel
theorem dX12_readNew_10 : decode cX12_readNew 10 = .ok (.istore_n 2, 1) := by decide +kernel
theorem dX12_readNew_11 : decode cX12_readNew 11 = .ok (.iload_n 2, 1) := by decide +kernel
theorem dX12_readNew_12 : decode cX12_readNew 12 = .ok (.bipush 6, 2) := by decide +kernel
theorem dX12_readNew_14 : decode cX12_readNew 14 = .ok (.if_icmp .ne 13, 3) := by decide +kernel
theorem dX12_readNew_17 : decode cX12_readNew 17 = .ok (.aload_n 0, 1) := by decide +kernel
theorem dX12_readNew_18 : decode cX12_readNew 18 = .ok (.bipush 6, 2) := by decide +kernel
theorem dX12_readNew_20 : decode cX12_readNew 20 = .ok (.aload_n 0, 1) := by decide +kernel
theorem dX12_readNew_21 : decode cX12_readNew 21 = .ok (.getfield 118, 3) := by decide +kernel
theorem dX12_readNew_24 : decode cX12_readNew 24 = .ok (.invokevirtual 231, 3) := by decide +kernel
theorem dX12_readNew_27 : decode cX12_readNew 27 = .ok (.aload_n 0, 1) := by decide +kernel
theorem dX12_readNew_28 : decode cX12_readNew 28 = .ok (.getfield 225, 3) := by decide +kernel
theorem dX12_readNew_31 : decode cX12_readNew 31 = .ok (.ifCond .le 5, 3) := by decide +kernel
theorem dX12_readNew_34 : decode cX12_readNew 34 = .ok (.iconst 0, 1) := by decide +kernel
theorem dX12_readNew_35 : decode cX12_readNew 35 = .ok (.ireturn, 1) := by decide +kernel
theorem dX12_readNew_36 : decode cX12_readNew 36 = .ok (.aload_n 0, 1) := by decide +kernel
theorem dX12_readNew_37 : decode cX12_readNew 37 = .ok (.invokevirtual 235, 3) := by decide +kernel
theorem dX12_readNew_40 : decode cX12_readNew 40 = .ok (.aload_n 0, 1) := by decide +kernel
theorem dX12_readNew_41 : decode cX12_readNew 41 = .ok (.invokevirtual 254, 3) := by decide +kernel
theorem dX12_readNew_44 : decode cX12_readNew 44 = .ok (.ifCond .ne 7, 3) := by decide +kernel
theorem dX12_readNew_47 : decode cX12_readNew 47 = .ok (.aload_n 0, 1) := by decide +kernel
theorem dX12_readNew_48 : decode cX12_readNew 48 = .ok (.invokevirtual 238, 3) := by decide +kernel
theorem dX12_readNew_51 : decode cX12_readNew 51 = .ok (.aload_n 0, 1) := by decide +kernel
theorem dX12_readNew_52 : decode cX12_readNew 52 = .ok (.getfield 225, 3) := by decide +kernel
theorem dX12_readNew_55 : decode cX12_readNew 55 = .ok (.ifCond .ne 30, 3) := by decide +kernel
theorem dX12_readNew_58 : decode cX12_readNew 58 = .ok (.aload_n 0, 1) := by decide +kernel
theorem dX12_readNew_59 : decode cX12_readNew 59 = .ok (.iconst 4, 1) := by decide +kernel
theorem dX12_readNew_60 : decode cX12_readNew 60 = .ok (.iconst 0, 1) := by decide +kernel
theorem dX12_readNew_61 : decode cX12_readNew 61 = .ok (.invokevirtual 257, 3) := by decide +kernel
theorem dX12_readNew_64 : decode cX12_readNew 64 = .ok (.ifCond .ge 12, 3) := by decide +kernel
theorem dX12_readNew_67 : decode cX12_readNew 67 = .ok (.aload_n 0, 1) := by decide +kernel
theorem dX12_readNew_68 : decode cX12_readNew 68 = .ok (.iconst 4, 1) := by decide +kernel
theorem dX12_readNew_69 : decode cX12_readNew 69 = .ok (.iconst 1, 1) := by decide +kernel
theorem dX12_readNew_70 : decode cX12_readNew 70 = .ok (.invokevirtual 257, 3) := by decide +kernel
theorem dX12_readNew_73 : decode cX12_readNew 73 = .ok (.ifCond .lt 12, 3) := by decide +kernel
theorem dX12_readNew_76 : decode cX12_readNew 76 = .ok (.aload_n 0, 1) := by decide +kernel
theorem dX12_readNew_77 : decode cX12_readNew 77 = .ok (.iconst 3, 1) := by decide +kernel
theorem dX12_readNew_78 : decode cX12_readNew 78 = .ok (.aload_n 0, 1) := by decide +kernel
theorem dX12_readNew_79 : decode cX12_readNew 79 = .ok (.getfield 118, 3) := by decide +kernel
theorem dX12_readNew_82 : decode cX12_readNew 82 = .ok (.invokevirtual 231, 3) := by decide +kernel
theorem dX12_readNew_85 : decode cX12_readNew 85 = .ok (.aload_n 0, 1) := by decide +kernel
theorem dX12_readNew_86 : decode cX12_readNew 86 = .ok (.getfield 225, 3) := by decide +kernel
theorem dX12_readNew_89 : decode cX12_readNew 89 = .ok (.ifCond .le 5, 3) := by decide +kernel
theorem dX12_readNew_92 : decode cX12_readNew 92 = .ok (.iconst 0, 1) := by decide +kernel
theorem dX12_readNew_93 : decode cX12_readNew 93 = .ok (.ireturn, 1) := by decide +kernel
theorem dX12_readNew_94 : decode cX12_readNew 94 = .ok (.aload_n 0, 1) := by decide +kernel
theorem dX12_readNew_95 : decode cX12_readNew 95 = .ok (.getfield 44, 3) := by decide +kernel
theorem dX12_readNew_98 : decode cX12_readNew 98 = .ok (.bipush 48, 2) := by decide +kernel
theorem dX12_readNew_100 : decode cX12_readNew 100 = .ok (.bipush 6, 2) := by decide +kernel
theorem dX12_readNew_102 : decode cX12_readNew 102 = .ok (.iload_n 1, 1) := by decide +kernel
theorem dX12_readNew_103 : decode cX12_readNew 103 = .ok (.imul, 1) := by decide +kernel
theorem dX12_readNew_104 : decode cX12_readNew 104 = .ok (.iadd, 1) := by decide +kernel
theorem dX12_readNew_105 : decode cX12_readNew 105 = .ok (.iload_n 2, 1) := by decide +kernel
theorem dX12_readNew_106 : decode cX12_readNew 106 = .ok (.iadd, 1) := by decide +kernel
theorem dX12_readNew_107 : decode cX12_readNew 107 = .ok (.aload_n 0, 1) := by decide +kernel
theorem dX12_readNew_108 : decode cX12_readNew 108 = .ok (.getfield 130, 3) := by decide +kernel
theorem dX12_readNew_111 : decode cX12_readNew 111 = .ok (.lastore, 1) := by decide +kernel
theorem dX12_readNew_112 : decode cX12_readNew 112 = .ok (.aload_n 0, 1) := by decide +kernel
theorem dX12_readNew_113 : decode cX12_readNew 113 = .ok (.invokevirtual 235, 3) := by decide +kernel
theorem dX12_readNew_116 : decode cX12_readNew 116 = .ok (.iload_n 2, 1) := by decide +kernel
theorem dX12_readNew_117 : decode cX12_readNew 117 = .ok (.ireturn, 1) := by decide +kernel
theorem dX12_told_0 : decode cX12_told 0 = .ok (.aload_n 0, 1) := by decide +kernel
theorem dX12_told_1 : decode cX12_told 1 = .ok (.getfield 225, 3) := by decide +kernel
theorem dX12_told_4 : decode cX12_told 4 = .ok (.ifCond .ne 14, 3) := by decide +kernel
theorem dX12_told_7 : decode cX12_told 7 = .ok (.aload_n 0, 1) := by decide +kernel
theorem dX12_told_8 : decode cX12_told 8 = .ok (.invokevirtual 254, 3) := by decide +kernel
theorem dX12_told_11 : decode cX12_told 11 = .ok (.ifCond .ne 7, 3) := by decide +kernel
theorem dX12_told_14 : decode cX12_told 14 = .ok (.aload_n 0, 1) := by decide +kernel
theorem dX12_told_15 : decode cX12_told 15 = .ok (.invokevirtual 238, 3) := by decide +kernel
theorem dX12_told_18 : decode cX12_told 18 = .ok (.aload_n 0, 1) := by decide +kernel
theorem dX12_told_19 : decode cX12_told 19 = .ok (.getfield 225, 3) := by decide +kernel
theorem dX12_told_22 : decode cX12_told 22 = .ok (.ifCond .le 5, 3) := by decide +kernel
theorem dX12_told_25 : decode cX12_told 25 = .ok (.iconst 0, 1) := by decide +kernel
theorem dX12_told_26 : decode cX12_told 26 = .ok (.ireturn, 1) := by decide +kernel
theorem dX12_told_27 : decode cX12_told 27 = .ok (.aload_n 0, 1) := by decide +kernel
theorem dX12_told_28 : decode cX12_told 28 = .ok (.iload_n 1, 1) := by decide +kernel
theorem dX12_told_29 : decode cX12_told 29 = .ok (.iload_n 2, 1) := by decide +kernel
theorem dX12_told_30 : decode cX12_told 30 = .ok (.invokevirtual 257, 3) := by decide +kernel
theorem dX12_told_33 : decode cX12_told 33 = .ok (.istore_n 3, 1) := by decide +kernel
theorem dX12_told_34 : decode cX12_told 34 = .ok (.iload_n 3, 1) := by decide +kernel
theorem dX12_told_35 : decode cX12_told 35 = .ok (.ifCond .ge 12, 3) := by decide +kernel
theorem dX12_told_38 : decode cX12_told 38 = .ok (.aload_n 0, 1) := by decide +kernel
theorem dX12_told_39 : decode cX12_told 39 = .ok (.iconst 3, 1) := by decide +kernel
theorem dX12_told_40 : decode cX12_told 40 = .ok (.aload_n 0, 1) := by decide +kernel
theorem dX12_told_41 : decode cX12_told 41 = .ok (.getfield 118, 3) := by decide +kernel
