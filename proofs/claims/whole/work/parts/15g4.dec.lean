theorem dX12_goesHour_146 : decode cX12_goesHour 146 = .ok (.iadd, 1) := by decide +kernel
theorem dX12_goesHour_147 : decode cX12_goesHour 147 = .ok (.iaload, 1) := by decide +kernel
theorem dX12_goesHour_148 : decode cX12_goesHour 148 = .ok (.isub, 1) := by decide +kernel
theorem dX12_goesHour_149 : decode cX12_goesHour 149 = .ok (.goto 31, 3) := by decide +kernel
theorem dX12_goesHour_152 : decode cX12_goesHour 152 = .ok (.aload_n 0, 1) := by decide +kernel
theorem dX12_goesHour_153 : decode cX12_goesHour 153 = .ok (.getfield 35, 3) := by decide +kernel
theorem dX12_goesHour_156 : decode cX12_goesHour 156 = .ok (.bipush 52, 2) := by decide +kernel
theorem dX12_goesHour_158 : decode cX12_goesHour 158 = .ok (.iload_n 2, 1) := by decide +kernel
theorem dX12_goesHour_159 : decode cX12_goesHour 159 = .ok (.iadd, 1) := by decide +kernel
theorem dX12_goesHour_160 : decode cX12_goesHour 160 = .ok (.iaload, 1) := by decide +kernel
theorem dX12_goesHour_161 : decode cX12_goesHour 161 = .ok (.aload_n 0, 1) := by decide +kernel
theorem dX12_goesHour_162 : decode cX12_goesHour 162 = .ok (.getfield 35, 3) := by decide +kernel
theorem dX12_goesHour_165 : decode cX12_goesHour 165 = .ok (.bipush 46, 2) := by decide +kernel
theorem dX12_goesHour_167 : decode cX12_goesHour 167 = .ok (.iload_n 2, 1) := by decide +kernel
theorem dX12_goesHour_168 : decode cX12_goesHour 168 = .ok (.iadd, 1) := by decide +kernel
theorem dX12_goesHour_169 : decode cX12_goesHour 169 = .ok (.iaload, 1) := by decide +kernel
theorem dX12_goesHour_170 : decode cX12_goesHour 170 = .ok (.aload_n 0, 1) := by decide +kernel
theorem dX12_goesHour_171 : decode cX12_goesHour 171 = .ok (.getfield 35, 3) := by decide +kernel
theorem dX12_goesHour_174 : decode cX12_goesHour 174 = .ok (.iconst 5, 1) := by decide +kernel
theorem dX12_goesHour_175 : decode cX12_goesHour 175 = .ok (.iaload, 1) := by decide +kernel
theorem dX12_goesHour_176 : decode cX12_goesHour 176 = .ok (.iadd, 1) := by decide +kernel
theorem dX12_goesHour_177 : decode cX12_goesHour 177 = .ok (.invokestatic 394, 3) := by decide +kernel
theorem dX12_goesHour_180 : decode cX12_goesHour 180 = .ok (.iastore, 1) := by decide +kernel
theorem dX12_goesHour_181 : decode cX12_goesHour 181 = .ok (.iinc 2 1, 3) := by decide +kernel
theorem dX12_goesHour_184 : decode cX12_goesHour 184 = .ok (.goto (-88), 3) := by decide +kernel
theorem dX12_goesHour_187 : decode cX12_goesHour 187 = .ok (.aload_n 0, 1) := by decide +kernel
theorem dX12_goesHour_188 : decode cX12_goesHour 188 = .ok (.getfield 35, 3) := by decide +kernel
theorem dX12_goesHour_191 : decode cX12_goesHour 191 = .ok (.bipush 7, 2) := by decide +kernel
theorem dX12_goesHour_193 : decode cX12_goesHour 193 = .ok (.dup2, 1) := by decide +kernel
theorem dX12_goesHour_194 : decode cX12_goesHour 194 = .ok (.iaload, 1) := by decide +kernel
theorem dX12_goesHour_195 : decode cX12_goesHour 195 = .ok (.iconst 1, 1) := by decide +kernel
theorem dX12_goesHour_196 : decode cX12_goesHour 196 = .ok (.iadd, 1) := by decide +kernel
theorem dX12_goesHour_197 : decode cX12_goesHour 197 = .ok (.iastore, 1) := by decide +kernel
theorem dX12_goesHour_198 : decode cX12_goesHour 198 = .ok (.iload_n 1, 1) := by decide +kernel
theorem dX12_goesHour_199 : decode cX12_goesHour 199 = .ok (.ireturn, 1) := by decide +kernel
theorem dX12_hour_0 : decode cX12_hour 0 = .ok (.aload_n 0, 1) := by decide +kernel
theorem dX12_hour_1 : decode cX12_hour 1 = .ok (.iconst 0, 1) := by decide +kernel
theorem dX12_hour_2 : decode cX12_hour 2 = .ok (.putfield 69, 3) := by decide +kernel
theorem dX12_hour_5 : decode cX12_hour 5 = .ok (.aload_n 0, 1) := by decide +kernel
theorem dX12_hour_6 : decode cX12_hour 6 = .ok (.iconst 0, 1) := by decide +kernel
theorem dX12_hour_7 : decode cX12_hour 7 = .ok (.putfield 72, 3) := by decide +kernel
theorem dX12_hour_10 : decode cX12_hour 10 = .ok (.iload_n 1, 1) := by decide +kernel
theorem dX12_hour_11 : decode cX12_hour 11 = .ok (.i2l, 1) := by decide +kernel
theorem dX12_hour_12 : decode cX12_hour 12 = .ok (.lconst 1, 1) := by decide +kernel
theorem dX12_hour_13 : decode cX12_hour 13 = .ok (.ldc2_w 397, 3) := by decide +kernel
theorem dX12_hour_16 : decode cX12_hour 16 = .ok (.invokestatic 104, 3) := by decide +kernel
theorem dX12_hour_19 : decode cX12_hour 19 = .ok (.ifCond .ne 9, 3) := by decide +kernel
theorem dX12_hour_22 : decode cX12_hour 22 = .ok (.aload_n 0, 1) := by decide +kernel
theorem dX12_hour_23 : decode cX12_hour 23 = .ok (.iconst 5, 1) := by decide +kernel
theorem dX12_hour_24 : decode cX12_hour 24 = .ok (.invokevirtual 363, 3) := by decide +kernel
theorem dX12_hour_27 : decode cX12_hour 27 = .ok (.ireturn, 1) := by decide +kernel
theorem dX12_hour_28 : decode cX12_hour 28 = .ok (.aload_n 0, 1) := by decide +kernel
theorem dX12_hour_29 : decode cX12_hour 29 = .ok (.getfield 35, 3) := by decide +kernel
theorem dX12_hour_32 : decode cX12_hour 32 = .ok (.bipush 7, 2) := by decide +kernel
theorem dX12_hour_34 : decode cX12_hour 34 = .ok (.iaload, 1) := by decide +kernel
theorem dX12_hour_35 : decode cX12_hour 35 = .ok (.iload_n 1, 1) := by decide +kernel
theorem dX12_hour_36 : decode cX12_hour 36 = .ok (.iadd, 1) := by decide +kernel
theorem dX12_hour_37 : decode cX12_hour 37 = .ok (.sipush 9999, 3) := by decide +kernel
theorem dX12_hour_40 : decode cX12_hour 40 = .ok (.if_icmp .le 10, 3) := by decide +kernel
theorem dX12_hour_43 : decode cX12_hour 43 = .ok (.aload_n 0, 1) := by decide +kernel
theorem dX12_hour_44 : decode cX12_hour 44 = .ok (.bipush 7, 2) := by decide +kernel
theorem dX12_hour_46 : decode cX12_hour 46 = .ok (.invokevirtual 363, 3) := by decide +kernel
theorem dX12_hour_49 : decode cX12_hour 49 = .ok (.ireturn, 1) := by decide +kernel
theorem dX12_hour_50 : decode cX12_hour 50 = .ok (.iconst 0, 1) := by decide +kernel
theorem dX12_hour_51 : decode cX12_hour 51 = .ok (.istore_n 2, 1) := by decide +kernel
theorem dX12_hour_52 : decode cX12_hour 52 = .ok (.iconst 0, 1) := by decide +kernel
theorem dX12_hour_53 : decode cX12_hour 53 = .ok (.istore_n 3, 1) := by decide +kernel
theorem dX12_hour_54 : decode cX12_hour 54 = .ok (.iload_n 3, 1) := by decide +kernel
theorem dX12_hour_55 : decode cX12_hour 55 = .ok (.iload_n 1, 1) := by decide +kernel
theorem dX12_hour_56 : decode cX12_hour 56 = .ok (.if_icmp .ge 16, 3) := by decide +kernel
theorem dX12_hour_59 : decode cX12_hour 59 = .ok (.iload_n 2, 1) := by decide +kernel
theorem dX12_hour_60 : decode cX12_hour 60 = .ok (.aload_n 0, 1) := by decide +kernel
theorem dX12_hour_61 : decode cX12_hour 61 = .ok (.invokevirtual 399, 3) := by decide +kernel
theorem dX12_hour_64 : decode cX12_hour 64 = .ok (.iadd, 1) := by decide +kernel
theorem dX12_hour_65 : decode cX12_hour 65 = .ok (.istore_n 2, 1) := by decide +kernel
theorem dX12_hour_66 : decode cX12_hour 66 = .ok (.iinc 3 1, 3) := by decide +kernel
theorem dX12_hour_69 : decode cX12_hour 69 = .ok (.goto (-15), 3) := by decide +kernel
theorem dX12_hour_72 : decode cX12_hour 72 = .ok (.iload_n 2, 1) := by decide +kernel
theorem dX12_hour_73 : decode cX12_hour 73 = .ok (.ireturn, 1) := by decide +kernel
theorem dX12_becomes_0 : decode cX12_becomes 0 = .ok (.aload_n 0, 1) := by decide +kernel
theorem dX12_becomes_1 : decode cX12_becomes 1 = .ok (.getfield 35, 3) := by decide +kernel
theorem dX12_becomes_4 : decode cX12_becomes 4 = .ok (.iload_n 1, 1) := by decide +kernel
theorem dX12_becomes_5 : decode cX12_becomes 5 = .ok (.iaload, 1) := by decide +kernel
theorem dX12_becomes_6 : decode cX12_becomes 6 = .ok (.iload_n 2, 1) := by decide +kernel
theorem dX12_becomes_7 : decode cX12_becomes 7 = .ok (.if_icmp .ne 5, 3) := by decide +kernel
theorem dX12_becomes_10 : decode cX12_becomes 10 = .ok (.iconst 0, 1) := by decide +kernel
theorem dX12_becomes_11 : decode cX12_becomes 11 = .ok (.ireturn, 1) := by decide +kernel
theorem dX12_becomes_12 : decode cX12_becomes 12 = .ok (.aload_n 0, 1) := by decide +kernel
theorem dX12_becomes_13 : decode cX12_becomes 13 = .ok (.getfield 35, 3) := by decide +kernel
theorem dX12_becomes_16 : decode cX12_becomes 16 = .ok (.iload_n 1, 1) := by decide +kernel
theorem dX12_becomes_17 : decode cX12_becomes 17 = .ok (.iload_n 2, 1) := by decide +kernel
theorem dX12_becomes_18 : decode cX12_becomes 18 = .ok (.iastore, 1) := by decide +kernel
theorem dX12_becomes_19 : decode cX12_becomes 19 = .ok (.iconst 1, 1) := by decide +kernel
theorem dX12_becomes_20 : decode cX12_becomes 20 = .ok (.ireturn, 1) := by decide +kernel
theorem dX12_wind_0 : decode cX12_wind 0 = .ok (.aload_n 0, 1) := by decide +kernel
theorem dX12_wind_1 : decode cX12_wind 1 = .ok (.iconst 0, 1) := by decide +kernel
theorem dX12_wind_2 : decode cX12_wind 2 = .ok (.putfield 69, 3) := by decide +kernel
theorem dX12_wind_5 : decode cX12_wind 5 = .ok (.aload_n 0, 1) := by decide +kernel
theorem dX12_wind_6 : decode cX12_wind 6 = .ok (.iconst 0, 1) := by decide +kernel
theorem dX12_wind_7 : decode cX12_wind 7 = .ok (.putfield 72, 3) := by decide +kernel
theorem dX12_wind_10 : decode cX12_wind 10 = .ok (.iload_n 1, 1) := by decide +kernel
theorem dX12_wind_11 : decode cX12_wind 11 = .ok (.i2l, 1) := by decide +kernel
theorem dX12_wind_12 : decode cX12_wind 12 = .ok (.lconst 0, 1) := by decide +kernel
theorem dX12_wind_13 : decode cX12_wind 13 = .ok (.ldc2_w 402, 3) := by decide +kernel
theorem dX12_wind_16 : decode cX12_wind 16 = .ok (.invokestatic 104, 3) := by decide +kernel
theorem dX12_wind_19 : decode cX12_wind 19 = .ok (.ifCond .ne 9, 3) := by decide +kernel
theorem dX12_wind_22 : decode cX12_wind 22 = .ok (.aload_n 0, 1) := by decide +kernel
theorem dX12_wind_23 : decode cX12_wind 23 = .ok (.iconst 5, 1) := by decide +kernel
theorem dX12_wind_24 : decode cX12_wind 24 = .ok (.invokevirtual 84, 3) := by decide +kernel
theorem dX12_wind_27 : decode cX12_wind 27 = .ok (.ireturn, 1) := by decide +kernel
theorem dX12_wind_28 : decode cX12_wind 28 = .ok (.aload_n 0, 1) := by decide +kernel
theorem dX12_wind_29 : decode cX12_wind 29 = .ok (.bipush 8, 2) := by decide +kernel
theorem dX12_wind_31 : decode cX12_wind 31 = .ok (.iload_n 1, 1) := by decide +kernel
theorem dX12_wind_32 : decode cX12_wind 32 = .ok (.invokevirtual 404, 3) := by decide +kernel
theorem dX12_wind_35 : decode cX12_wind 35 = .ok (.ifCond .ne 12, 3) := by decide +kernel
theorem dX12_wind_38 : decode cX12_wind 38 = .ok (.aload_n 0, 1) := by decide +kernel
theorem dX12_wind_39 : decode cX12_wind 39 = .ok (.bipush 9, 2) := by decide +kernel
theorem dX12_wind_41 : decode cX12_wind 41 = .ok (.invokevirtual 84, 3) := by decide +kernel
theorem dX12_wind_44 : decode cX12_wind 44 = .ok (.ifCond .eq 7, 3) := by decide +kernel
theorem dX12_wind_47 : decode cX12_wind 47 = .ok (.iconst 1, 1) := by decide +kernel
theorem dX12_wind_48 : decode cX12_wind 48 = .ok (.goto 4, 3) := by decide +kernel
theorem dX12_wind_51 : decode cX12_wind 51 = .ok (.iconst 0, 1) := by decide +kernel
theorem dX12_wind_52 : decode cX12_wind 52 = .ok (.ireturn, 1) := by decide +kernel
theorem dX12_rain_0 : decode cX12_rain 0 = .ok (.aload_n 0, 1) := by decide +kernel
theorem dX12_rain_1 : decode cX12_rain 1 = .ok (.iconst 0, 1) := by decide +kernel
theorem dX12_rain_2 : decode cX12_rain 2 = .ok (.putfield 69, 3) := by decide +kernel
theorem dX12_rain_5 : decode cX12_rain 5 = .ok (.aload_n 0, 1) := by decide +kernel
theorem dX12_rain_6 : decode cX12_rain 6 = .ok (.iconst 0, 1) := by decide +kernel
theorem dX12_rain_7 : decode cX12_rain 7 = .ok (.putfield 72, 3) := by decide +kernel
theorem dX12_rain_10 : decode cX12_rain 10 = .ok (.aload_n 0, 1) := by decide +kernel
theorem dX12_rain_11 : decode cX12_rain 11 = .ok (.bipush 9, 2) := by decide +kernel
theorem dX12_rain_13 : decode cX12_rain 13 = .ok (.iload_n 1, 1) := by decide +kernel
theorem dX12_rain_14 : decode cX12_rain 14 = .ok (.ifCond .eq 7, 3) := by decide +kernel
theorem dX12_rain_17 : decode cX12_rain 17 = .ok (.iconst 1, 1) := by decide +kernel
theorem dX12_rain_18 : decode cX12_rain 18 = .ok (.goto 4, 3) := by decide +kernel
theorem dX12_rain_21 : decode cX12_rain 21 = .ok (.iconst 0, 1) := by decide +kernel
theorem dX12_rain_22 : decode cX12_rain 22 = .ok (.invokevirtual 404, 3) := by decide +kernel
theorem dX12_rain_25 : decode cX12_rain 25 = .ok (.ifCond .ne 12, 3) := by decide +kernel
theorem dX12_rain_28 : decode cX12_rain 28 = .ok (.aload_n 0, 1) := by decide +kernel
theorem dX12_rain_29 : decode cX12_rain 29 = .ok (.bipush 9, 2) := by decide +kernel
theorem dX12_rain_31 : decode cX12_rain 31 = .ok (.invokevirtual 84, 3) := by decide +kernel
theorem dX12_rain_34 : decode cX12_rain 34 = .ok (.ifCond .eq 7, 3) := by decide +kernel
theorem dX12_rain_37 : decode cX12_rain 37 = .ok (.iconst 1, 1) := by decide +kernel
theorem dX12_rain_38 : decode cX12_rain 38 = .ok (.goto 4, 3) := by decide +kernel
theorem dX12_rain_41 : decode cX12_rain 41 = .ok (.iconst 0, 1) := by decide +kernel
theorem dX12_rain_42 : decode cX12_rain 42 = .ok (.ireturn, 1) := by decide +kernel
theorem dX12_set_0 : decode cX12_set 0 = .ok (.aload_n 0, 1) := by decide +kernel
theorem dX12_set_1 : decode cX12_set 1 = .ok (.iconst 0, 1) := by decide +kernel
theorem dX12_set_2 : decode cX12_set 2 = .ok (.putfield 69, 3) := by decide +kernel
theorem dX12_set_5 : decode cX12_set 5 = .ok (.aload_n 0, 1) := by decide +kernel
theorem dX12_set_6 : decode cX12_set 6 = .ok (.iconst 0, 1) := by decide +kernel
theorem dX12_set_7 : decode cX12_set 7 = .ok (.putfield 72, 3) := by decide +kernel
theorem dX12_set_10 : decode cX12_set 10 = .ok (.aload_n 0, 1) := by decide +kernel
theorem dX12_set_11 : decode cX12_set 11 = .ok (.iload_n 1, 1) := by decide +kernel
theorem dX12_set_12 : decode cX12_set 12 = .ok (.invokevirtual 383, 3) := by decide +kernel
theorem dX12_set_15 : decode cX12_set 15 = .ok (.ifCond .eq 17, 3) := by decide +kernel
theorem dX12_set_18 : decode cX12_set 18 = .ok (.aload_n 0, 1) := by decide +kernel
theorem dX12_set_19 : decode cX12_set 19 = .ok (.iload_n 3, 1) := by decide +kernel
theorem dX12_set_20 : decode cX12_set 20 = .ok (.invokevirtual 378, 3) := by decide +kernel
theorem dX12_set_23 : decode cX12_set 23 = .ok (.ifCond .ne 15, 3) := by decide +kernel
theorem dX12_set_26 : decode cX12_set 26 = .ok (.iload_n 3, 1) := by decide +kernel
theorem dX12_set_27 : decode cX12_set 27 = .ok (.bipush 6, 2) := by decide +kernel
theorem dX12_set_29 : decode cX12_set 29 = .ok (.if_icmp .eq 9, 3) := by decide +kernel
theorem dX12_set_32 : decode cX12_set 32 = .ok (.aload_n 0, 1) := by decide +kernel
theorem dX12_set_33 : decode cX12_set 33 = .ok (.iconst 2, 1) := by decide +kernel
theorem dX12_set_34 : decode cX12_set 34 = .ok (.invokevirtual 363, 3) := by decide +kernel
theorem dX12_set_37 : decode cX12_set 37 = .ok (.ireturn, 1) := by decide +kernel
theorem dX12_set_38 : decode cX12_set 38 = .ok (.iload_n 2, 1) := by decide +kernel
theorem dX12_set_39 : decode cX12_set 39 = .ok (.i2l, 1) := by decide +kernel
theorem dX12_set_40 : decode cX12_set 40 = .ok (.lconst 0, 1) := by decide +kernel
theorem dX12_set_41 : decode cX12_set 41 = .ok (.iconst 5, 1) := by decide +kernel
theorem dX12_set_42 : decode cX12_set 42 = .ok (.aload_n 0, 1) := by decide +kernel
theorem dX12_set_43 : decode cX12_set 43 = .ok (.getfield 35, 3) := by decide +kernel
theorem dX12_set_46 : decode cX12_set 46 = .ok (.bipush 64, 2) := by decide +kernel
theorem dX12_set_48 : decode cX12_set 48 = .ok (.iload_n 1, 1) := by decide +kernel
theorem dX12_set_49 : decode cX12_set 49 = .ok (.iadd, 1) := by decide +kernel
theorem dX12_set_50 : decode cX12_set 50 = .ok (.iaload, 1) := by decide +kernel
theorem dX12_set_51 : decode cX12_set 51 = .ok (.invokestatic 394, 3) := by decide +kernel
theorem dX12_set_54 : decode cX12_set 54 = .ok (.i2l, 1) := by decide +kernel
theorem dX12_set_55 : decode cX12_set 55 = .ok (.invokestatic 104, 3) := by decide +kernel
theorem dX12_set_58 : decode cX12_set 58 = .ok (.ifCond .ne 9, 3) := by decide +kernel
theorem dX12_set_61 : decode cX12_set 61 = .ok (.aload_n 0, 1) := by decide +kernel
theorem dX12_set_62 : decode cX12_set 62 = .ok (.iconst 5, 1) := by decide +kernel
theorem dX12_set_63 : decode cX12_set 63 = .ok (.invokevirtual 363, 3) := by decide +kernel
theorem dX12_set_66 : decode cX12_set 66 = .ok (.ireturn, 1) := by decide +kernel
theorem dX12_set_67 : decode cX12_set 67 = .ok (.aload_n 0, 1) := by decide +kernel
theorem dX12_set_68 : decode cX12_set 68 = .ok (.getfield 35, 3) := by decide +kernel
theorem dX12_set_71 : decode cX12_set 71 = .ok (.bipush 70, 2) := by decide +kernel
theorem dX12_set_73 : decode cX12_set 73 = .ok (.bipush 6, 2) := by decide +kernel
theorem dX12_set_75 : decode cX12_set 75 = .ok (.iload_n 1, 1) := by decide +kernel
theorem dX12_set_76 : decode cX12_set 76 = .ok (.imul, 1) := by decide +kernel
theorem dX12_set_77 : decode cX12_set 77 = .ok (.iadd, 1) := by decide +kernel
theorem dX12_set_78 : decode cX12_set 78 = .ok (.iload_n 2, 1) := by decide +kernel
theorem dX12_set_79 : decode cX12_set 79 = .ok (.iadd, 1) := by decide +kernel
theorem dX12_set_80 : decode cX12_set 80 = .ok (.iload_n 3, 1) := by decide +kernel
theorem dX12_set_81 : decode cX12_set 81 = .ok (.iastore, 1) := by decide +kernel
theorem dX12_set_82 : decode cX12_set 82 = .ok (.aload_n 0, 1) := by decide +kernel
theorem dX12_set_83 : decode cX12_set 83 = .ok (.getfield 35, 3) := by decide +kernel
theorem dX12_set_86 : decode cX12_set 86 = .ok (.bipush 64, 2) := by decide +kernel
theorem dX12_set_88 : decode cX12_set 88 = .ok (.iload_n 1, 1) := by decide +kernel
theorem dX12_set_89 : decode cX12_set 89 = .ok (.iadd, 1) := by decide +kernel
theorem dX12_set_90 : decode cX12_set 90 = .ok (.aload_n 0, 1) := by decide +kernel
theorem dX12_set_91 : decode cX12_set 91 = .ok (.getfield 35, 3) := by decide +kernel
theorem dX12_set_94 : decode cX12_set 94 = .ok (.bipush 64, 2) := by decide +kernel
theorem dX12_set_96 : decode cX12_set 96 = .ok (.iload_n 1, 1) := by decide +kernel
theorem dX12_set_97 : decode cX12_set 97 = .ok (.iadd, 1) := by decide +kernel
theorem dX12_set_98 : decode cX12_set 98 = .ok (.iaload, 1) := by decide +kernel
theorem dX12_set_99 : decode cX12_set 99 = .ok (.iload_n 2, 1) := by decide +kernel
theorem dX12_set_100 : decode cX12_set 100 = .ok (.iconst 1, 1) := by decide +kernel
theorem dX12_set_101 : decode cX12_set 101 = .ok (.iadd, 1) := by decide +kernel
theorem dX12_set_102 : decode cX12_set 102 = .ok (.invokestatic 260, 3) := by decide +kernel
theorem dX12_set_105 : decode cX12_set 105 = .ok (.iastore, 1) := by decide +kernel
theorem dX12_set_106 : decode cX12_set 106 = .ok (.aload_n 0, 1) := by decide +kernel
theorem dX12_set_107 : decode cX12_set 107 = .ok (.getfield 35, 3) := by decide +kernel
theorem dX12_set_110 : decode cX12_set 110 = .ok (.bipush 64, 2) := by decide +kernel
theorem dX12_set_112 : decode cX12_set 112 = .ok (.iload_n 1, 1) := by decide +kernel
theorem dX12_set_113 : decode cX12_set 113 = .ok (.iadd, 1) := by decide +kernel
theorem dX12_set_114 : decode cX12_set 114 = .ok (.iaload, 1) := by decide +kernel
theorem dX12_set_115 : decode cX12_set 115 = .ok (.ireturn, 1) := by decide +kernel
theorem dX12_drop_0 : decode cX12_drop 0 = .ok (.aload_n 0, 1) := by decide +kernel
theorem dX12_drop_1 : decode cX12_drop 1 = .ok (.iconst 0, 1) := by decide +kernel
theorem dX12_drop_2 : decode cX12_drop 2 = .ok (.putfield 69, 3) := by decide +kernel
theorem dX12_drop_5 : decode cX12_drop 5 = .ok (.aload_n 0, 1) := by decide +kernel
theorem dX12_drop_6 : decode cX12_drop 6 = .ok (.iconst 0, 1) := by decide +kernel
theorem dX12_drop_7 : decode cX12_drop 7 = .ok (.putfield 72, 3) := by decide +kernel
theorem dX12_drop_10 : decode cX12_drop 10 = .ok (.aload_n 0, 1) := by decide +kernel
theorem dX12_drop_11 : decode cX12_drop 11 = .ok (.iload_n 1, 1) := by decide +kernel
theorem dX12_drop_12 : decode cX12_drop 12 = .ok (.invokevirtual 383, 3) := by decide +kernel
theorem dX12_drop_15 : decode cX12_drop 15 = .ok (.ifCond .ne 9, 3) := by decide +kernel
theorem dX12_drop_18 : decode cX12_drop 18 = .ok (.aload_n 0, 1) := by decide +kernel
theorem dX12_drop_19 : decode cX12_drop 19 = .ok (.iconst 2, 1) := by decide +kernel
theorem dX12_drop_20 : decode cX12_drop 20 = .ok (.invokevirtual 363, 3) := by decide +kernel
theorem dX12_drop_23 : decode cX12_drop 23 = .ok (.ireturn, 1) := by decide +kernel
theorem dX12_drop_24 : decode cX12_drop 24 = .ok (.aload_n 0, 1) := by decide +kernel
theorem dX12_drop_25 : decode cX12_drop 25 = .ok (.getfield 35, 3) := by decide +kernel
theorem dX12_drop_28 : decode cX12_drop 28 = .ok (.bipush 64, 2) := by decide +kernel
theorem dX12_drop_30 : decode cX12_drop 30 = .ok (.iload_n 1, 1) := by decide +kernel
theorem dX12_drop_31 : decode cX12_drop 31 = .ok (.iadd, 1) := by decide +kernel
theorem dX12_drop_32 : decode cX12_drop 32 = .ok (.iaload, 1) := by decide +kernel
theorem dX12_drop_33 : decode cX12_drop 33 = .ok (.ifCond .ne 10, 3) := by decide +kernel
theorem dX12_drop_36 : decode cX12_drop 36 = .ok (.aload_n 0, 1) := by decide +kernel
theorem dX12_drop_37 : decode cX12_drop 37 = .ok (.bipush 8, 2) := by decide +kernel
theorem dX12_drop_39 : decode cX12_drop 39 = .ok (.invokevirtual 363, 3) := by decide +kernel
theorem dX12_drop_42 : decode cX12_drop 42 = .ok (.ireturn, 1) := by decide +kernel
theorem dX12_drop_43 : decode cX12_drop 43 = .ok (.aload_n 0, 1) := by decide +kernel
theorem dX12_drop_44 : decode cX12_drop 44 = .ok (.getfield 35, 3) := by decide +kernel
theorem dX12_drop_47 : decode cX12_drop 47 = .ok (.bipush 64, 2) := by decide +kernel
theorem dX12_drop_49 : decode cX12_drop 49 = .ok (.iload_n 1, 1) := by decide +kernel
theorem dX12_drop_50 : decode cX12_drop 50 = .ok (.iadd, 1) := by decide +kernel
theorem dX12_drop_51 : decode cX12_drop 51 = .ok (.dup2, 1) := by decide +kernel
theorem dX12_drop_52 : decode cX12_drop 52 = .ok (.iaload, 1) := by decide +kernel
theorem dX12_drop_53 : decode cX12_drop 53 = .ok (.iconst 1, 1) := by decide +kernel
theorem dX12_drop_54 : decode cX12_drop 54 = .ok (.isub, 1) := by decide +kernel
theorem dX12_drop_55 : decode cX12_drop 55 = .ok (.iastore, 1) := by decide +kernel
theorem dX12_drop_56 : decode cX12_drop 56 = .ok (.aload_n 0, 1) := by decide +kernel
theorem dX12_drop_57 : decode cX12_drop 57 = .ok (.getfield 35, 3) := by decide +kernel
theorem dX12_drop_60 : decode cX12_drop 60 = .ok (.bipush 64, 2) := by decide +kernel
theorem dX12_drop_62 : decode cX12_drop 62 = .ok (.iload_n 1, 1) := by decide +kernel
theorem dX12_drop_63 : decode cX12_drop 63 = .ok (.iadd, 1) := by decide +kernel
theorem dX12_drop_64 : decode cX12_drop 64 = .ok (.iaload, 1) := by decide +kernel
theorem dX12_drop_65 : decode cX12_drop 65 = .ok (.ireturn, 1) := by decide +kernel
theorem dX12_move_0 : decode cX12_move 0 = .ok (.aload_n 0, 1) := by decide +kernel
theorem dX12_move_1 : decode cX12_move 1 = .ok (.iconst 0, 1) := by decide +kernel
theorem dX12_move_2 : decode cX12_move 2 = .ok (.putfield 69, 3) := by decide +kernel
theorem dX12_move_5 : decode cX12_move 5 = .ok (.aload_n 0, 1) := by decide +kernel
theorem dX12_move_6 : decode cX12_move 6 = .ok (.iconst 0, 1) := by decide +kernel
theorem dX12_move_7 : decode cX12_move 7 = .ok (.putfield 72, 3) := by decide +kernel
theorem dX12_move_10 : decode cX12_move 10 = .ok (.aload_n 0, 1) := by decide +kernel
theorem dX12_move_11 : decode cX12_move 11 = .ok (.iload_n 1, 1) := by decide +kernel
theorem dX12_move_12 : decode cX12_move 12 = .ok (.invokevirtual 383, 3) := by decide +kernel
theorem dX12_move_15 : decode cX12_move 15 = .ok (.ifCond .eq 12, 3) := by decide +kernel
theorem dX12_move_18 : decode cX12_move 18 = .ok (.aload_n 0, 1) := by decide +kernel
theorem dX12_move_19 : decode cX12_move 19 = .ok (.iload_n 2, 1) := by decide +kernel
theorem dX12_move_20 : decode cX12_move 20 = .ok (.iload_n 3, 1) := by decide +kernel
theorem dX12_move_21 : decode cX12_move 21 = .ok (.invokevirtual 388, 3) := by decide +kernel
theorem dX12_move_24 : decode cX12_move 24 = .ok (.ifCond .ne 9, 3) := by decide +kernel
theorem dX12_move_27 : decode cX12_move 27 = .ok (.aload_n 0, 1) := by decide +kernel
theorem dX12_move_28 : decode cX12_move 28 = .ok (.iconst 2, 1) := by decide +kernel
theorem dX12_move_29 : decode cX12_move 29 = .ok (.invokevirtual 84, 3) := by decide +kernel
theorem dX12_move_32 : decode cX12_move 32 = .ok (.ireturn, 1) := by decide +kernel
theorem dX12_move_33 : decode cX12_move 33 = .ok (.aload_n 0, 1) := by decide +kernel
theorem dX12_move_34 : decode cX12_move 34 = .ok (.iconst 0, 1) := by decide +kernel
theorem dX12_move_35 : decode cX12_move 35 = .ok (.iload_n 2, 1) := by decide +kernel
theorem dX12_move_36 : decode cX12_move 36 = .ok (.iload_n 3, 1) := by decide +kernel
theorem dX12_move_37 : decode cX12_move 37 = .ok (.invokevirtual 282, 3) := by decide +kernel
theorem dX12_move_40 : decode cX12_move 40 = .ok (.ifCond .lt 10, 3) := by decide +kernel
theorem dX12_move_43 : decode cX12_move 43 = .ok (.aload_n 0, 1) := by decide +kernel
theorem dX12_move_44 : decode cX12_move 44 = .ok (.bipush 9, 2) := by decide +kernel
theorem dX12_move_46 : decode cX12_move 46 = .ok (.invokevirtual 84, 3) := by decide +kernel
theorem dX12_move_49 : decode cX12_move 49 = .ok (.ireturn, 1) := by decide +kernel
theorem dX12_move_50 : decode cX12_move 50 = .ok (.aload_n 0, 1) := by decide +kernel
theorem dX12_move_51 : decode cX12_move 51 = .ok (.getfield 35, 3) := by decide +kernel
theorem dX12_move_54 : decode cX12_move 54 = .ok (.bipush 28, 2) := by decide +kernel
theorem dX12_move_56 : decode cX12_move 56 = .ok (.iload_n 1, 1) := by decide +kernel
theorem dX12_move_57 : decode cX12_move 57 = .ok (.iadd, 1) := by decide +kernel
theorem dX12_move_58 : decode cX12_move 58 = .ok (.iload_n 2, 1) := by decide +kernel
theorem dX12_move_59 : decode cX12_move 59 = .ok (.iastore, 1) := by decide +kernel
theorem dX12_move_60 : decode cX12_move 60 = .ok (.aload_n 0, 1) := by decide +kernel
theorem dX12_move_61 : decode cX12_move 61 = .ok (.getfield 35, 3) := by decide +kernel
theorem dX12_move_64 : decode cX12_move 64 = .ok (.bipush 34, 2) := by decide +kernel
theorem dX12_move_66 : decode cX12_move 66 = .ok (.iload_n 1, 1) := by decide +kernel
theorem dX12_move_67 : decode cX12_move 67 = .ok (.iadd, 1) := by decide +kernel
theorem dX12_move_68 : decode cX12_move 68 = .ok (.iload_n 3, 1) := by decide +kernel
theorem dX12_move_69 : decode cX12_move 69 = .ok (.iastore, 1) := by decide +kernel
theorem dX12_move_70 : decode cX12_move 70 = .ok (.iconst 1, 1) := by decide +kernel
theorem dX12_move_71 : decode cX12_move 71 = .ok (.ireturn, 1) := by decide +kernel
theorem dX12_train_0 : decode cX12_train 0 = .ok (.aload_n 0, 1) := by decide +kernel
theorem dX12_train_1 : decode cX12_train 1 = .ok (.iconst 0, 1) := by decide +kernel
theorem dX12_train_2 : decode cX12_train 2 = .ok (.putfield 69, 3) := by decide +kernel
theorem dX12_train_5 : decode cX12_train 5 = .ok (.aload_n 0, 1) := by decide +kernel
theorem dX12_train_6 : decode cX12_train 6 = .ok (.iconst 0, 1) := by decide +kernel
theorem dX12_train_7 : decode cX12_train 7 = .ok (.putfield 72, 3) := by decide +kernel
theorem dX12_train_10 : decode cX12_train 10 = .ok (.aload_n 0, 1) := by decide +kernel
theorem dX12_train_11 : decode cX12_train 11 = .ok (.iload_n 1, 1) := by decide +kernel
theorem dX12_train_12 : decode cX12_train 12 = .ok (.invokevirtual 383, 3) := by decide +kernel
theorem dX12_train_15 : decode cX12_train 15 = .ok (.ifCond .ne 9, 3) := by decide +kernel
theorem dX12_train_18 : decode cX12_train 18 = .ok (.aload_n 0, 1) := by decide +kernel
theorem dX12_train_19 : decode cX12_train 19 = .ok (.iconst 2, 1) := by decide +kernel
theorem dX12_train_20 : decode cX12_train 20 = .ok (.invokevirtual 84, 3) := by decide +kernel
theorem dX12_train_23 : decode cX12_train 23 = .ok (.ireturn, 1) := by decide +kernel
theorem dX12_train_24 : decode cX12_train 24 = .ok (.iload_n 2, 1) := by decide +kernel
theorem dX12_train_25 : decode cX12_train 25 = .ok (.i2l, 1) := by decide +kernel
theorem dX12_train_26 : decode cX12_train 26 = .ok (.lconst 0, 1) := by decide +kernel
theorem dX12_train_27 : decode cX12_train 27 = .ok (.ldc2_w 157, 3) := by decide +kernel
theorem dX12_train_30 : decode cX12_train 30 = .ok (.invokestatic 104, 3) := by decide +kernel
theorem dX12_train_33 : decode cX12_train 33 = .ok (.ifCond .ne 9, 3) := by decide +kernel
theorem dX12_train_36 : decode cX12_train 36 = .ok (.aload_n 0, 1) := by decide +kernel
theorem dX12_train_37 : decode cX12_train 37 = .ok (.iconst 5, 1) := by decide +kernel
theorem dX12_train_38 : decode cX12_train 38 = .ok (.invokevirtual 84, 3) := by decide +kernel
theorem dX12_train_41 : decode cX12_train 41 = .ok (.ireturn, 1) := by decide +kernel
theorem dX12_train_42 : decode cX12_train 42 = .ok (.aload_n 0, 1) := by decide +kernel
theorem dX12_train_43 : decode cX12_train 43 = .ok (.getfield 35, 3) := by decide +kernel
theorem dX12_train_46 : decode cX12_train 46 = .ok (.bipush 40, 2) := by decide +kernel
theorem dX12_train_48 : decode cX12_train 48 = .ok (.iload_n 1, 1) := by decide +kernel
theorem dX12_train_49 : decode cX12_train 49 = .ok (.iadd, 1) := by decide +kernel
theorem dX12_train_50 : decode cX12_train 50 = .ok (.iload_n 2, 1) := by decide +kernel
theorem dX12_train_51 : decode cX12_train 51 = .ok (.iastore, 1) := by decide +kernel
theorem dX12_train_52 : decode cX12_train 52 = .ok (.iconst 1, 1) := by decide +kernel
theorem dX12_train_53 : decode cX12_train 53 = .ok (.ireturn, 1) := by decide +kernel
theorem dX12_soothe_0 : decode cX12_soothe 0 = .ok (.aload_n 0, 1) := by decide +kernel
theorem dX12_soothe_1 : decode cX12_soothe 1 = .ok (.iconst 0, 1) := by decide +kernel
theorem dX12_soothe_2 : decode cX12_soothe 2 = .ok (.putfield 69, 3) := by decide +kernel
theorem dX12_soothe_5 : decode cX12_soothe 5 = .ok (.aload_n 0, 1) := by decide +kernel
theorem dX12_soothe_6 : decode cX12_soothe 6 = .ok (.iconst 0, 1) := by decide +kernel
theorem dX12_soothe_7 : decode cX12_soothe 7 = .ok (.putfield 72, 3) := by decide +kernel
theorem dX12_soothe_10 : decode cX12_soothe 10 = .ok (.aload_n 0, 1) := by decide +kernel
theorem dX12_soothe_11 : decode cX12_soothe 11 = .ok (.iload_n 1, 1) := by decide +kernel
theorem dX12_soothe_12 : decode cX12_soothe 12 = .ok (.invokevirtual 383, 3) := by decide +kernel
theorem dX12_soothe_15 : decode cX12_soothe 15 = .ok (.ifCond .ne 9, 3) := by decide +kernel
theorem dX12_soothe_18 : decode cX12_soothe 18 = .ok (.aload_n 0, 1) := by decide +kernel
theorem dX12_soothe_19 : decode cX12_soothe 19 = .ok (.iconst 2, 1) := by decide +kernel
theorem dX12_soothe_20 : decode cX12_soothe 20 = .ok (.invokevirtual 84, 3) := by decide +kernel
theorem dX12_soothe_23 : decode cX12_soothe 23 = .ok (.ireturn, 1) := by decide +kernel
theorem dX12_soothe_24 : decode cX12_soothe 24 = .ok (.iload_n 2, 1) := by decide +kernel
theorem dX12_soothe_25 : decode cX12_soothe 25 = .ok (.i2l, 1) := by decide +kernel
theorem dX12_soothe_26 : decode cX12_soothe 26 = .ok (.lconst 0, 1) := by decide +kernel
theorem dX12_soothe_27 : decode cX12_soothe 27 = .ok (.aload_n 0, 1) := by decide +kernel
theorem dX12_soothe_28 : decode cX12_soothe 28 = .ok (.getfield 35, 3) := by decide +kernel
theorem dX12_soothe_31 : decode cX12_soothe 31 = .ok (.bipush 52, 2) := by decide +kernel
theorem dX12_soothe_33 : decode cX12_soothe 33 = .ok (.iload_n 1, 1) := by decide +kernel
theorem dX12_soothe_34 : decode cX12_soothe 34 = .ok (.iadd, 1) := by decide +kernel
theorem dX12_soothe_35 : decode cX12_soothe 35 = .ok (.iaload, 1) := by decide +kernel
theorem dX12_soothe_36 : decode cX12_soothe 36 = .ok (.i2l, 1) := by decide +kernel
theorem dX12_soothe_37 : decode cX12_soothe 37 = .ok (.invokestatic 104, 3) := by decide +kernel
theorem dX12_soothe_40 : decode cX12_soothe 40 = .ok (.ifCond .ne 9, 3) := by decide +kernel
theorem dX12_soothe_43 : decode cX12_soothe 43 = .ok (.aload_n 0, 1) := by decide +kernel
theorem dX12_soothe_44 : decode cX12_soothe 44 = .ok (.iconst 5, 1) := by decide +kernel
theorem dX12_soothe_45 : decode cX12_soothe 45 = .ok (.invokevirtual 84, 3) := by decide +kernel
theorem dX12_soothe_48 : decode cX12_soothe 48 = .ok (.ireturn, 1) := by decide +kernel
theorem dX12_soothe_49 : decode cX12_soothe 49 = .ok (.aload_n 0, 1) := by decide +kernel
theorem dX12_soothe_50 : decode cX12_soothe 50 = .ok (.getfield 35, 3) := by decide +kernel
theorem dX12_soothe_53 : decode cX12_soothe 53 = .ok (.bipush 46, 2) := by decide +kernel
theorem dX12_soothe_55 : decode cX12_soothe 55 = .ok (.iload_n 1, 1) := by decide +kernel
theorem dX12_soothe_56 : decode cX12_soothe 56 = .ok (.iadd, 1) := by decide +kernel
theorem dX12_soothe_57 : decode cX12_soothe 57 = .ok (.iload_n 2, 1) := by decide +kernel
theorem dX12_soothe_58 : decode cX12_soothe 58 = .ok (.iastore, 1) := by decide +kernel
theorem dX12_soothe_59 : decode cX12_soothe 59 = .ok (.iconst 1, 1) := by decide +kernel
theorem dX12_soothe_60 : decode cX12_soothe 60 = .ok (.ireturn, 1) := by decide +kernel
theorem dX12_rule_0 : decode cX12_rule 0 = .ok (.aload_n 0, 1) := by decide +kernel
theorem dX12_rule_1 : decode cX12_rule 1 = .ok (.iconst 0, 1) := by decide +kernel
theorem dX12_rule_2 : decode cX12_rule 2 = .ok (.putfield 69, 3) := by decide +kernel
theorem dX12_rule_5 : decode cX12_rule 5 = .ok (.aload_n 0, 1) := by decide +kernel
theorem dX12_rule_6 : decode cX12_rule 6 = .ok (.iconst 0, 1) := by decide +kernel
theorem dX12_rule_7 : decode cX12_rule 7 = .ok (.putfield 72, 3) := by decide +kernel
theorem dX12_rule_10 : decode cX12_rule 10 = .ok (.iload_n 1, 1) := by decide +kernel
theorem dX12_rule_11 : decode cX12_rule 11 = .ok (.i2l, 1) := by decide +kernel
theorem dX12_rule_12 : decode cX12_rule 12 = .ok (.ldc2_w 402, 3) := by decide +kernel
theorem dX12_rule_15 : decode cX12_rule 15 = .ok (.ldc2_w 386, 3) := by decide +kernel
theorem dX12_rule_18 : decode cX12_rule 18 = .ok (.invokestatic 104, 3) := by decide +kernel
theorem dX12_rule_21 : decode cX12_rule 21 = .ok (.ifCond .eq 27, 3) := by decide +kernel
theorem dX12_rule_24 : decode cX12_rule 24 = .ok (.iload_n 2, 1) := by decide +kernel
theorem dX12_rule_25 : decode cX12_rule 25 = .ok (.i2l, 1) := by decide +kernel
theorem dX12_rule_26 : decode cX12_rule 26 = .ok (.lconst 0, 1) := by decide +kernel
theorem dX12_rule_27 : decode cX12_rule 27 = .ok (.iload_n 1, 1) := by decide +kernel
theorem dX12_rule_28 : decode cX12_rule 28 = .ok (.bipush 6, 2) := by decide +kernel
theorem dX12_rule_30 : decode cX12_rule 30 = .ok (.if_icmp .ne 9, 3) := by decide +kernel
theorem dX12_rule_33 : decode cX12_rule 33 = .ok (.ldc2_w 407, 3) := by decide +kernel
theorem dX12_rule_36 : decode cX12_rule 36 = .ok (.goto 6, 3) := by decide +kernel
theorem dX12_rule_39 : decode cX12_rule 39 = .ok (.ldc2_w 409, 3) := by decide +kernel
theorem dX12_rule_42 : decode cX12_rule 42 = .ok (.invokestatic 104, 3) := by decide +kernel
theorem dX12_rule_45 : decode cX12_rule 45 = .ok (.ifCond .ne 9, 3) := by decide +kernel
theorem dX12_rule_48 : decode cX12_rule 48 = .ok (.aload_n 0, 1) := by decide +kernel
theorem dX12_rule_49 : decode cX12_rule 49 = .ok (.iconst 5, 1) := by decide +kernel
theorem dX12_rule_50 : decode cX12_rule 50 = .ok (.invokevirtual 84, 3) := by decide +kernel
theorem dX12_rule_53 : decode cX12_rule 53 = .ok (.ireturn, 1) := by decide +kernel
theorem dX12_rule_54 : decode cX12_rule 54 = .ok (.aload_n 0, 1) := by decide +kernel
theorem dX12_rule_55 : decode cX12_rule 55 = .ok (.getfield 35, 3) := by decide +kernel
theorem dX12_rule_58 : decode cX12_rule 58 = .ok (.iload_n 1, 1) := by decide +kernel
theorem dX12_rule_59 : decode cX12_rule 59 = .ok (.iload_n 2, 1) := by decide +kernel
theorem dX12_rule_60 : decode cX12_rule 60 = .ok (.iastore, 1) := by decide +kernel
theorem dX12_rule_61 : decode cX12_rule 61 = .ok (.iconst 1, 1) := by decide +kernel
theorem dX12_rule_62 : decode cX12_rule 62 = .ok (.ireturn, 1) := by decide +kernel
theorem dX12_dig_0 : decode cX12_dig 0 = .ok (.aload_n 0, 1) := by decide +kernel
theorem dX12_dig_1 : decode cX12_dig 1 = .ok (.iconst 0, 1) := by decide +kernel
theorem dX12_dig_2 : decode cX12_dig 2 = .ok (.putfield 69, 3) := by decide +kernel
theorem dX12_dig_5 : decode cX12_dig 5 = .ok (.aload_n 0, 1) := by decide +kernel
theorem dX12_dig_6 : decode cX12_dig 6 = .ok (.iconst 0, 1) := by decide +kernel
theorem dX12_dig_7 : decode cX12_dig 7 = .ok (.putfield 72, 3) := by decide +kernel
theorem dX12_dig_10 : decode cX12_dig 10 = .ok (.aload_n 0, 1) := by decide +kernel
theorem dX12_dig_11 : decode cX12_dig 11 = .ok (.iload_n 1, 1) := by decide +kernel
theorem dX12_dig_12 : decode cX12_dig 12 = .ok (.iload_n 2, 1) := by decide +kernel
theorem dX12_dig_13 : decode cX12_dig 13 = .ok (.invokevirtual 388, 3) := by decide +kernel
theorem dX12_dig_16 : decode cX12_dig 16 = .ok (.ifCond .ne 9, 3) := by decide +kernel
theorem dX12_dig_19 : decode cX12_dig 19 = .ok (.aload_n 0, 1) := by decide +kernel
theorem dX12_dig_20 : decode cX12_dig 20 = .ok (.iconst 2, 1) := by decide +kernel
theorem dX12_dig_21 : decode cX12_dig 21 = .ok (.invokevirtual 84, 3) := by decide +kernel
theorem dX12_dig_24 : decode cX12_dig 24 = .ok (.ireturn, 1) := by decide +kernel
theorem dX12_dig_25 : decode cX12_dig 25 = .ok (.aload_n 0, 1) := by decide +kernel
theorem dX12_dig_26 : decode cX12_dig 26 = .ok (.bipush 106, 2) := by decide +kernel
theorem dX12_dig_28 : decode cX12_dig 28 = .ok (.bipush 6, 2) := by decide +kernel
theorem dX12_dig_30 : decode cX12_dig 30 = .ok (.iload_n 2, 1) := by decide +kernel
theorem dX12_dig_31 : decode cX12_dig 31 = .ok (.imul, 1) := by decide +kernel
theorem dX12_dig_32 : decode cX12_dig 32 = .ok (.iadd, 1) := by decide +kernel
theorem dX12_dig_33 : decode cX12_dig 33 = .ok (.iload_n 1, 1) := by decide +kernel
theorem dX12_dig_34 : decode cX12_dig 34 = .ok (.iadd, 1) := by decide +kernel
theorem dX12_dig_35 : decode cX12_dig 35 = .ok (.iload_n 3, 1) := by decide +kernel
theorem dX12_dig_36 : decode cX12_dig 36 = .ok (.ifCond .eq 7, 3) := by decide +kernel
theorem dX12_dig_39 : decode cX12_dig 39 = .ok (.iconst 1, 1) := by decide +kernel
theorem dX12_dig_40 : decode cX12_dig 40 = .ok (.goto 4, 3) := by decide +kernel
theorem dX12_dig_43 : decode cX12_dig 43 = .ok (.iconst 0, 1) := by decide +kernel
theorem dX12_dig_44 : decode cX12_dig 44 = .ok (.invokevirtual 404, 3) := by decide +kernel
theorem dX12_dig_47 : decode cX12_dig 47 = .ok (.ifCond .ne 12, 3) := by decide +kernel
theorem dX12_dig_50 : decode cX12_dig 50 = .ok (.aload_n 0, 1) := by decide +kernel
theorem dX12_dig_51 : decode cX12_dig 51 = .ok (.bipush 9, 2) := by decide +kernel
theorem dX12_dig_53 : decode cX12_dig 53 = .ok (.invokevirtual 84, 3) := by decide +kernel
theorem dX12_dig_56 : decode cX12_dig 56 = .ok (.ifCond .eq 7, 3) := by decide +kernel
theorem dX12_dig_59 : decode cX12_dig 59 = .ok (.iconst 1, 1) := by decide +kernel
theorem dX12_dig_60 : decode cX12_dig 60 = .ok (.goto 4, 3) := by decide +kernel
theorem dX12_dig_63 : decode cX12_dig 63 = .ok (.iconst 0, 1) := by decide +kernel
theorem dX12_dig_64 : decode cX12_dig 64 = .ok (.ireturn, 1) := by decide +kernel
theorem dX12_plays_0 : decode cX12_plays 0 = .ok (.aload_n 0, 1) := by decide +kernel
theorem dX12_plays_1 : decode cX12_plays 1 = .ok (.iconst 0, 1) := by decide +kernel
theorem dX12_plays_2 : decode cX12_plays 2 = .ok (.putfield 69, 3) := by decide +kernel
theorem dX12_plays_5 : decode cX12_plays 5 = .ok (.aload_n 0, 1) := by decide +kernel
theorem dX12_plays_6 : decode cX12_plays 6 = .ok (.iconst 0, 1) := by decide +kernel
theorem dX12_plays_7 : decode cX12_plays 7 = .ok (.putfield 72, 3) := by decide +kernel
theorem dX12_plays_10 : decode cX12_plays 10 = .ok (.aload_n 0, 1) := by decide +kernel
theorem dX12_plays_11 : decode cX12_plays 11 = .ok (.iload_n 1, 1) := by decide +kernel
theorem dX12_plays_12 : decode cX12_plays 12 = .ok (.invokevirtual 383, 3) := by decide +kernel
theorem dX12_plays_15 : decode cX12_plays 15 = .ok (.ifCond .ne 9, 3) := by decide +kernel
theorem dX12_plays_18 : decode cX12_plays 18 = .ok (.aload_n 0, 1) := by decide +kernel
theorem dX12_plays_19 : decode cX12_plays 19 = .ok (.iconst 2, 1) := by decide +kernel
theorem dX12_plays_20 : decode cX12_plays 20 = .ok (.invokevirtual 363, 3) := by decide +kernel
theorem dX12_plays_23 : decode cX12_plays 23 = .ok (.ireturn, 1) := by decide +kernel
theorem dX12_plays_24 : decode cX12_plays 24 = .ok (.aload_n 0, 1) := by decide +kernel
theorem dX12_plays_25 : decode cX12_plays 25 = .ok (.invokevirtual 366, 3) := by decide +kernel
theorem dX12_plays_28 : decode cX12_plays 28 = .ok (.aload_n 0, 1) := by decide +kernel
theorem dX12_plays_29 : decode cX12_plays 29 = .ok (.getfield 47, 3) := by decide +kernel
theorem dX12_plays_32 : decode cX12_plays 32 = .ok (.iload_n 1, 1) := by decide +kernel
theorem dX12_plays_33 : decode cX12_plays 33 = .ok (.iaload, 1) := by decide +kernel
theorem dX12_plays_34 : decode cX12_plays 34 = .ok (.ireturn, 1) := by decide +kernel
theorem dX12_heard_0 : decode cX12_heard 0 = .ok (.aload_n 0, 1) := by decide +kernel
theorem dX12_heard_1 : decode cX12_heard 1 = .ok (.iconst 0, 1) := by decide +kernel
theorem dX12_heard_2 : decode cX12_heard 2 = .ok (.putfield 69, 3) := by decide +kernel
theorem dX12_heard_5 : decode cX12_heard 5 = .ok (.aload_n 0, 1) := by decide +kernel
theorem dX12_heard_6 : decode cX12_heard 6 = .ok (.iconst 0, 1) := by decide +kernel
theorem dX12_heard_7 : decode cX12_heard 7 = .ok (.putfield 72, 3) := by decide +kernel
theorem dX12_heard_10 : decode cX12_heard 10 = .ok (.aload_n 0, 1) := by decide +kernel
theorem dX12_heard_11 : decode cX12_heard 11 = .ok (.iload_n 1, 1) := by decide +kernel
theorem dX12_heard_12 : decode cX12_heard 12 = .ok (.invokevirtual 383, 3) := by decide +kernel
theorem dX12_heard_15 : decode cX12_heard 15 = .ok (.ifCond .eq 27, 3) := by decide +kernel
theorem dX12_heard_18 : decode cX12_heard 18 = .ok (.aload_n 0, 1) := by decide +kernel
theorem dX12_heard_19 : decode cX12_heard 19 = .ok (.iload_n 2, 1) := by decide +kernel
theorem dX12_heard_20 : decode cX12_heard 20 = .ok (.invokevirtual 378, 3) := by decide +kernel
theorem dX12_heard_23 : decode cX12_heard 23 = .ok (.ifCond .ne 9, 3) := by decide +kernel
theorem dX12_heard_26 : decode cX12_heard 26 = .ok (.iload_n 2, 1) := by decide +kernel
theorem dX12_heard_27 : decode cX12_heard 27 = .ok (.bipush 6, 2) := by decide +kernel
theorem dX12_heard_29 : decode cX12_heard 29 = .ok (.if_icmp .ne 13, 3) := by decide +kernel
theorem dX12_heard_32 : decode cX12_heard 32 = .ok (.aload_n 0, 1) := by decide +kernel
theorem dX12_heard_33 : decode cX12_heard 33 = .ok (.iload_n 3, 1) := by decide +kernel
theorem dX12_heard_34 : decode cX12_heard 34 = .ok (.iload 4, 2) := by decide +kernel
theorem dX12_heard_36 : decode cX12_heard 36 = .ok (.invokevirtual 388, 3) := by decide +kernel
theorem dX12_heard_39 : decode cX12_heard 39 = .ok (.ifCond .ne 9, 3) := by decide +kernel
theorem dX12_heard_42 : decode cX12_heard 42 = .ok (.aload_n 0, 1) := by decide +kernel
theorem dX12_heard_43 : decode cX12_heard 43 = .ok (.iconst 2, 1) := by decide +kernel
theorem dX12_heard_44 : decode cX12_heard 44 = .ok (.invokevirtual 363, 3) := by decide +kernel
theorem dX12_heard_47 : decode cX12_heard 47 = .ok (.ireturn, 1) := by decide +kernel
theorem dX12_heard_48 : decode cX12_heard 48 = .ok (.aload_n 0, 1) := by decide +kernel
theorem dX12_heard_49 : decode cX12_heard 49 = .ok (.iload_n 1, 1) := by decide +kernel
theorem dX12_heard_50 : decode cX12_heard 50 = .ok (.iload_n 2, 1) := by decide +kernel
theorem dX12_heard_51 : decode cX12_heard 51 = .ok (.iload_n 3, 1) := by decide +kernel
theorem dX12_heard_52 : decode cX12_heard 52 = .ok (.iload 4, 2) := by decide +kernel
theorem dX12_heard_54 : decode cX12_heard 54 = .ok (.invokevirtual 351, 3) := by decide +kernel
theorem dX12_heard_57 : decode cX12_heard 57 = .ok (.ireturn, 1) := by decide +kernel
theorem dX12_loudestAt_0 : decode cX12_loudestAt 0 = .ok (.aload_n 0, 1) := by decide +kernel
theorem dX12_loudestAt_1 : decode cX12_loudestAt 1 = .ok (.iload_n 1, 1) := by decide +kernel
theorem dX12_loudestAt_2 : decode cX12_loudestAt 2 = .ok (.iload_n 2, 1) := by decide +kernel
theorem dX12_loudestAt_3 : decode cX12_loudestAt 3 = .ok (.invokevirtual 355, 3) := by decide +kernel
theorem dX12_loudestAt_6 : decode cX12_loudestAt 6 = .ok (.iconst 0, 1) := by decide +kernel
theorem dX12_loudestAt_7 : decode cX12_loudestAt 7 = .ok (.istore_n 3, 1) := by decide +kernel
theorem dX12_loudestAt_8 : decode cX12_loudestAt 8 = .ok (.iconst 0, 1) := by decide +kernel
theorem dX12_loudestAt_9 : decode cX12_loudestAt 9 = .ok (.istore 4, 2) := by decide +kernel
theorem dX12_loudestAt_11 : decode cX12_loudestAt 11 = .ok (.iload 4, 2) := by decide +kernel
theorem dX12_loudestAt_13 : decode cX12_loudestAt 13 = .ok (.aload_n 0, 1) := by decide +kernel
theorem dX12_loudestAt_14 : decode cX12_loudestAt 14 = .ok (.getfield 35, 3) := by decide +kernel
theorem dX12_loudestAt_17 : decode cX12_loudestAt 17 = .ok (.iconst 3, 1) := by decide +kernel
theorem dX12_loudestAt_18 : decode cX12_loudestAt 18 = .ok (.iaload, 1) := by decide +kernel
theorem dX12_loudestAt_19 : decode cX12_loudestAt 19 = .ok (.if_icmp .ge 21, 3) := by decide +kernel
theorem dX12_loudestAt_22 : decode cX12_loudestAt 22 = .ok (.iload_n 3, 1) := by decide +kernel
theorem dX12_loudestAt_23 : decode cX12_loudestAt 23 = .ok (.aload_n 0, 1) := by decide +kernel
theorem dX12_loudestAt_24 : decode cX12_loudestAt 24 = .ok (.getfield 50, 3) := by decide +kernel
theorem dX12_loudestAt_27 : decode cX12_loudestAt 27 = .ok (.iload 4, 2) := by decide +kernel
theorem dX12_loudestAt_29 : decode cX12_loudestAt 29 = .ok (.iaload, 1) := by decide +kernel
theorem dX12_loudestAt_30 : decode cX12_loudestAt 30 = .ok (.invokestatic 260, 3) := by decide +kernel
theorem dX12_loudestAt_33 : decode cX12_loudestAt 33 = .ok (.istore_n 3, 1) := by decide +kernel
theorem dX12_loudestAt_34 : decode cX12_loudestAt 34 = .ok (.iinc 4 1, 3) := by decide +kernel
theorem dX12_loudestAt_37 : decode cX12_loudestAt 37 = .ok (.goto (-26), 3) := by decide +kernel
theorem dX12_loudestAt_40 : decode cX12_loudestAt 40 = .ok (.iload_n 3, 1) := by decide +kernel
theorem dX12_loudestAt_41 : decode cX12_loudestAt 41 = .ok (.ireturn, 1) := by decide +kernel
theorem dX12_loudest_0 : decode cX12_loudest 0 = .ok (.aload_n 0, 1) := by decide +kernel
theorem dX12_loudest_1 : decode cX12_loudest 1 = .ok (.iconst 0, 1) := by decide +kernel
theorem dX12_loudest_2 : decode cX12_loudest 2 = .ok (.putfield 69, 3) := by decide +kernel
theorem dX12_loudest_5 : decode cX12_loudest 5 = .ok (.aload_n 0, 1) := by decide +kernel
theorem dX12_loudest_6 : decode cX12_loudest 6 = .ok (.iconst 0, 1) := by decide +kernel
theorem dX12_loudest_7 : decode cX12_loudest 7 = .ok (.putfield 72, 3) := by decide +kernel
theorem dX12_loudest_10 : decode cX12_loudest 10 = .ok (.aload_n 0, 1) := by decide +kernel
theorem dX12_loudest_11 : decode cX12_loudest 11 = .ok (.iload_n 1, 1) := by decide +kernel
theorem dX12_loudest_12 : decode cX12_loudest 12 = .ok (.iload_n 2, 1) := by decide +kernel
theorem dX12_loudest_13 : decode cX12_loudest 13 = .ok (.invokevirtual 388, 3) := by decide +kernel
theorem dX12_loudest_16 : decode cX12_loudest 16 = .ok (.ifCond .ne 9, 3) := by decide +kernel
theorem dX12_loudest_19 : decode cX12_loudest 19 = .ok (.aload_n 0, 1) := by decide +kernel
theorem dX12_loudest_20 : decode cX12_loudest 20 = .ok (.iconst 2, 1) := by decide +kernel
theorem dX12_loudest_21 : decode cX12_loudest 21 = .ok (.invokevirtual 363, 3) := by decide +kernel
theorem dX12_loudest_24 : decode cX12_loudest 24 = .ok (.ireturn, 1) := by decide +kernel
theorem dX12_loudest_25 : decode cX12_loudest 25 = .ok (.aload_n 0, 1) := by decide +kernel
theorem dX12_loudest_26 : decode cX12_loudest 26 = .ok (.invokevirtual 366, 3) := by decide +kernel
theorem dX12_loudest_29 : decode cX12_loudest 29 = .ok (.aload_n 0, 1) := by decide +kernel
theorem dX12_loudest_30 : decode cX12_loudest 30 = .ok (.iload_n 1, 1) := by decide +kernel
theorem dX12_loudest_31 : decode cX12_loudest 31 = .ok (.iload_n 2, 1) := by decide +kernel
theorem dX12_loudest_32 : decode cX12_loudest 32 = .ok (.invokevirtual 411, 3) := by decide +kernel
theorem dX12_loudest_35 : decode cX12_loudest 35 = .ok (.ireturn, 1) := by decide +kernel
theorem dX12_answerHeld_0 : decode cX12_answerHeld 0 = .ok (.iload_n 1, 1) := by decide +kernel
theorem dX12_answerHeld_1 : decode cX12_answerHeld 1 = .ok (.ifCond .lt 7, 3) := by decide +kernel
theorem dX12_answerHeld_4 : decode cX12_answerHeld 4 = .ok (.iload_n 1, 1) := by decide +kernel
theorem dX12_answerHeld_5 : decode cX12_answerHeld 5 = .ok (.goto 19, 3) := by decide +kernel
theorem dX12_answerHeld_8 : decode cX12_answerHeld 8 = .ok (.aload_n 0, 1) := by decide +kernel
theorem dX12_answerHeld_9 : decode cX12_answerHeld 9 = .ok (.iload_n 1, 1) := by decide +kernel
theorem dX12_answerHeld_10 : decode cX12_answerHeld 10 = .ok (.iconst (-1), 1) := by decide +kernel
theorem dX12_answerHeld_11 : decode cX12_answerHeld 11 = .ok (.if_icmp .ne 8, 3) := by decide +kernel
theorem dX12_answerHeld_14 : decode cX12_answerHeld 14 = .ok (.bipush 8, 2) := by decide +kernel
theorem dX12_answerHeld_16 : decode cX12_answerHeld 16 = .ok (.goto 5, 3) := by decide +kernel
theorem dX12_answerHeld_19 : decode cX12_answerHeld 19 = .ok (.bipush 9, 2) := by decide +kernel
theorem dX12_answerHeld_21 : decode cX12_answerHeld 21 = .ok (.invokevirtual 363, 3) := by decide +kernel
theorem dX12_answerHeld_24 : decode cX12_answerHeld 24 = .ok (.ireturn, 1) := by decide +kernel
theorem dX12_holder_0 : decode cX12_holder 0 = .ok (.aload_n 0, 1) := by decide +kernel
theorem dX12_holder_1 : decode cX12_holder 1 = .ok (.iconst 0, 1) := by decide +kernel
theorem dX12_holder_2 : decode cX12_holder 2 = .ok (.putfield 69, 3) := by decide +kernel
theorem dX12_holder_5 : decode cX12_holder 5 = .ok (.aload_n 0, 1) := by decide +kernel
theorem dX12_holder_6 : decode cX12_holder 6 = .ok (.iconst 0, 1) := by decide +kernel
theorem dX12_holder_7 : decode cX12_holder 7 = .ok (.putfield 72, 3) := by decide +kernel
theorem dX12_holder_10 : decode cX12_holder 10 = .ok (.aload_n 0, 1) := by decide +kernel
theorem dX12_holder_11 : decode cX12_holder 11 = .ok (.iload_n 1, 1) := by decide +kernel
theorem dX12_holder_12 : decode cX12_holder 12 = .ok (.iload_n 2, 1) := by decide +kernel
theorem dX12_holder_13 : decode cX12_holder 13 = .ok (.invokevirtual 388, 3) := by decide +kernel
theorem dX12_holder_16 : decode cX12_holder 16 = .ok (.ifCond .ne 9, 3) := by decide +kernel
theorem dX12_holder_19 : decode cX12_holder 19 = .ok (.aload_n 0, 1) := by decide +kernel
theorem dX12_holder_20 : decode cX12_holder 20 = .ok (.iconst 2, 1) := by decide +kernel
theorem dX12_holder_21 : decode cX12_holder 21 = .ok (.invokevirtual 363, 3) := by decide +kernel
theorem dX12_holder_24 : decode cX12_holder 24 = .ok (.ireturn, 1) := by decide +kernel
theorem dX12_holder_25 : decode cX12_holder 25 = .ok (.aload_n 0, 1) := by decide +kernel
theorem dX12_holder_26 : decode cX12_holder 26 = .ok (.invokevirtual 366, 3) := by decide +kernel
theorem dX12_holder_29 : decode cX12_holder 29 = .ok (.aload_n 0, 1) := by decide +kernel
theorem dX12_holder_30 : decode cX12_holder 30 = .ok (.aload_n 0, 1) := by decide +kernel
theorem dX12_holder_31 : decode cX12_holder 31 = .ok (.iload_n 1, 1) := by decide +kernel
theorem dX12_holder_32 : decode cX12_holder 32 = .ok (.iload_n 2, 1) := by decide +kernel
theorem dX12_holder_33 : decode cX12_holder 33 = .ok (.invokevirtual 358, 3) := by decide +kernel
theorem dX12_holder_36 : decode cX12_holder 36 = .ok (.invokevirtual 414, 3) := by decide +kernel
theorem dX12_holder_39 : decode cX12_holder 39 = .ok (.ireturn, 1) := by decide +kernel
theorem dX12_lawns_0 : decode cX12_lawns 0 = .ok (.aload_n 0, 1) := by decide +kernel
theorem dX12_lawns_1 : decode cX12_lawns 1 = .ok (.iconst 0, 1) := by decide +kernel
theorem dX12_lawns_2 : decode cX12_lawns 2 = .ok (.putfield 69, 3) := by decide +kernel
theorem dX12_lawns_5 : decode cX12_lawns 5 = .ok (.aload_n 0, 1) := by decide +kernel
theorem dX12_lawns_6 : decode cX12_lawns 6 = .ok (.iconst 0, 1) := by decide +kernel
theorem dX12_lawns_7 : decode cX12_lawns 7 = .ok (.putfield 72, 3) := by decide +kernel
theorem dX12_lawns_10 : decode cX12_lawns 10 = .ok (.aload_n 0, 1) := by decide +kernel
theorem dX12_lawns_11 : decode cX12_lawns 11 = .ok (.iload_n 1, 1) := by decide +kernel
theorem dX12_lawns_12 : decode cX12_lawns 12 = .ok (.invokevirtual 383, 3) := by decide +kernel
theorem dX12_lawns_15 : decode cX12_lawns 15 = .ok (.ifCond .ne 9, 3) := by decide +kernel
theorem dX12_lawns_18 : decode cX12_lawns 18 = .ok (.aload_n 0, 1) := by decide +kernel
theorem dX12_lawns_19 : decode cX12_lawns 19 = .ok (.iconst 2, 1) := by decide +kernel
theorem dX12_lawns_20 : decode cX12_lawns 20 = .ok (.invokevirtual 363, 3) := by decide +kernel
theorem dX12_lawns_23 : decode cX12_lawns 23 = .ok (.ireturn, 1) := by decide +kernel
theorem dX12_lawns_24 : decode cX12_lawns 24 = .ok (.aload_n 0, 1) := by decide +kernel
theorem dX12_lawns_25 : decode cX12_lawns 25 = .ok (.invokevirtual 366, 3) := by decide +kernel
theorem dX12_lawns_28 : decode cX12_lawns 28 = .ok (.aload_n 0, 1) := by decide +kernel
theorem dX12_lawns_29 : decode cX12_lawns 29 = .ok (.iload_n 1, 1) := by decide +kernel
theorem dX12_lawns_30 : decode cX12_lawns 30 = .ok (.invokevirtual 372, 3) := by decide +kernel
theorem dX12_lawns_33 : decode cX12_lawns 33 = .ok (.ireturn, 1) := by decide +kernel
theorem dX12_ponds_0 : decode cX12_ponds 0 = .ok (.aload_n 0, 1) := by decide +kernel
theorem dX12_ponds_1 : decode cX12_ponds 1 = .ok (.iconst 0, 1) := by decide +kernel
theorem dX12_ponds_2 : decode cX12_ponds 2 = .ok (.putfield 69, 3) := by decide +kernel
theorem dX12_ponds_5 : decode cX12_ponds 5 = .ok (.aload_n 0, 1) := by decide +kernel
theorem dX12_ponds_6 : decode cX12_ponds 6 = .ok (.iconst 0, 1) := by decide +kernel
theorem dX12_ponds_7 : decode cX12_ponds 7 = .ok (.putfield 72, 3) := by decide +kernel
theorem dX12_ponds_10 : decode cX12_ponds 10 = .ok (.aload_n 0, 1) := by decide +kernel
theorem dX12_ponds_11 : decode cX12_ponds 11 = .ok (.iload_n 1, 1) := by decide +kernel
theorem dX12_ponds_12 : decode cX12_ponds 12 = .ok (.invokevirtual 383, 3) := by decide +kernel
theorem dX12_ponds_15 : decode cX12_ponds 15 = .ok (.ifCond .ne 9, 3) := by decide +kernel
theorem dX12_ponds_18 : decode cX12_ponds 18 = .ok (.aload_n 0, 1) := by decide +kernel
theorem dX12_ponds_19 : decode cX12_ponds 19 = .ok (.iconst 2, 1) := by decide +kernel
theorem dX12_ponds_20 : decode cX12_ponds 20 = .ok (.invokevirtual 84, 3) := by decide +kernel
theorem dX12_ponds_23 : decode cX12_ponds 23 = .ok (.ireturn, 1) := by decide +kernel
theorem dX12_ponds_24 : decode cX12_ponds 24 = .ok (.aload_n 0, 1) := by decide +kernel
theorem dX12_ponds_25 : decode cX12_ponds 25 = .ok (.invokevirtual 369, 3) := by decide +kernel
theorem dX12_ponds_28 : decode cX12_ponds 28 = .ok (.ifCond .ne 10, 3) := by decide +kernel
theorem dX12_ponds_31 : decode cX12_ponds 31 = .ok (.aload_n 0, 1) := by decide +kernel
theorem dX12_ponds_32 : decode cX12_ponds 32 = .ok (.bipush 8, 2) := by decide +kernel
theorem dX12_ponds_34 : decode cX12_ponds 34 = .ok (.invokevirtual 84, 3) := by decide +kernel
theorem dX12_ponds_37 : decode cX12_ponds 37 = .ok (.ireturn, 1) := by decide +kernel
theorem dX12_ponds_38 : decode cX12_ponds 38 = .ok (.aload_n 0, 1) := by decide +kernel
theorem dX12_ponds_39 : decode cX12_ponds 39 = .ok (.invokevirtual 366, 3) := by decide +kernel
theorem dX12_ponds_42 : decode cX12_ponds 42 = .ok (.iconst 0, 1) := by decide +kernel
theorem dX12_ponds_43 : decode cX12_ponds 43 = .ok (.istore_n 2, 1) := by decide +kernel
theorem dX12_ponds_44 : decode cX12_ponds 44 = .ok (.iconst 0, 1) := by decide +kernel
theorem dX12_ponds_45 : decode cX12_ponds 45 = .ok (.istore_n 3, 1) := by decide +kernel
theorem dX12_ponds_46 : decode cX12_ponds 46 = .ok (.iload_n 3, 1) := by decide +kernel
theorem dX12_ponds_47 : decode cX12_ponds 47 = .ok (.aload_n 0, 1) := by decide +kernel
theorem dX12_ponds_48 : decode cX12_ponds 48 = .ok (.getfield 35, 3) := by decide +kernel
theorem dX12_ponds_51 : decode cX12_ponds 51 = .ok (.iconst 1, 1) := by decide +kernel
theorem dX12_ponds_52 : decode cX12_ponds 52 = .ok (.iaload, 1) := by decide +kernel
theorem dX12_ponds_53 : decode cX12_ponds 53 = .ok (.if_icmp .ge 58, 3) := by decide +kernel
theorem dX12_ponds_56 : decode cX12_ponds 56 = .ok (.iconst 0, 1) := by decide +kernel
theorem dX12_ponds_57 : decode cX12_ponds 57 = .ok (.istore 4, 2) := by decide +kernel
theorem dX12_ponds_59 : decode cX12_ponds 59 = .ok (.iload 4, 2) := by decide +kernel
theorem dX12_ponds_61 : decode cX12_ponds 61 = .ok (.aload_n 0, 1) := by decide +kernel
theorem dX12_ponds_62 : decode cX12_ponds 62 = .ok (.getfield 35, 3) := by decide +kernel
theorem dX12_ponds_65 : decode cX12_ponds 65 = .ok (.iconst 0, 1) := by decide +kernel
theorem dX12_ponds_66 : decode cX12_ponds 66 = .ok (.iaload, 1) := by decide +kernel
theorem dX12_ponds_67 : decode cX12_ponds 67 = .ok (.if_icmp .ge 38, 3) := by decide +kernel
theorem dX12_ponds_70 : decode cX12_ponds 70 = .ok (.iload_n 2, 1) := by decide +kernel
theorem dX12_ponds_71 : decode cX12_ponds 71 = .ok (.aload_n 0, 1) := by decide +kernel
theorem dX12_ponds_72 : decode cX12_ponds 72 = .ok (.iload 4, 2) := by decide +kernel
theorem dX12_ponds_74 : decode cX12_ponds 74 = .ok (.iload_n 3, 1) := by decide +kernel
theorem dX12_ponds_75 : decode cX12_ponds 75 = .ok (.invokevirtual 391, 3) := by decide +kernel
theorem dX12_ponds_78 : decode cX12_ponds 78 = .ok (.ifCond .eq 18, 3) := by decide +kernel
theorem dX12_ponds_81 : decode cX12_ponds 81 = .ok (.aload_n 0, 1) := by decide +kernel
theorem dX12_ponds_82 : decode cX12_ponds 82 = .ok (.iload 4, 2) := by decide +kernel
theorem dX12_ponds_84 : decode cX12_ponds 84 = .ok (.iload_n 3, 1) := by decide +kernel
theorem dX12_ponds_85 : decode cX12_ponds 85 = .ok (.invokevirtual 358, 3) := by decide +kernel
theorem dX12_ponds_88 : decode cX12_ponds 88 = .ok (.iload_n 1, 1) := by decide +kernel
theorem dX12_ponds_89 : decode cX12_ponds 89 = .ok (.if_icmp .ne 7, 3) := by decide +kernel
theorem dX12_ponds_92 : decode cX12_ponds 92 = .ok (.iconst 1, 1) := by decide +kernel
theorem dX12_ponds_93 : decode cX12_ponds 93 = .ok (.goto 4, 3) := by decide +kernel
theorem dX12_ponds_96 : decode cX12_ponds 96 = .ok (.iconst 0, 1) := by decide +kernel
theorem dX12_ponds_97 : decode cX12_ponds 97 = .ok (.iadd, 1) := by decide +kernel
theorem dX12_ponds_98 : decode cX12_ponds 98 = .ok (.istore_n 2, 1) := by decide +kernel
theorem dX12_ponds_99 : decode cX12_ponds 99 = .ok (.iinc 4 1, 3) := by decide +kernel
theorem dX12_ponds_102 : decode cX12_ponds 102 = .ok (.goto (-43), 3) := by decide +kernel
theorem dX12_ponds_105 : decode cX12_ponds 105 = .ok (.iinc 3 1, 3) := by decide +kernel
theorem dX12_ponds_108 : decode cX12_ponds 108 = .ok (.goto (-62), 3) := by decide +kernel
theorem dX12_ponds_111 : decode cX12_ponds 111 = .ok (.aload_n 0, 1) := by decide +kernel
theorem dX12_ponds_112 : decode cX12_ponds 112 = .ok (.iload_n 2, 1) := by decide +kernel
theorem dX12_ponds_113 : decode cX12_ponds 113 = .ok (.i2l, 1) := by decide +kernel
theorem dX12_ponds_114 : decode cX12_ponds 114 = .ok (.aload_n 0, 1) := by decide +kernel
theorem dX12_ponds_115 : decode cX12_ponds 115 = .ok (.invokevirtual 369, 3) := by decide +kernel
theorem dX12_ponds_118 : decode cX12_ponds 118 = .ok (.i2l, 1) := by decide +kernel
theorem dX12_ponds_119 : decode cX12_ponds 119 = .ok (.invokevirtual 417, 3) := by decide +kernel
theorem dX12_ponds_122 : decode cX12_ponds 122 = .ok (.ireturn, 1) := by decide +kernel
theorem dX12_copyHeld_0 : decode cX12_copyHeld 0 = .ok (.aload_n 0, 1) := by decide +kernel
theorem dX12_copyHeld_1 : decode cX12_copyHeld 1 = .ok (.iconst 0, 1) := by decide +kernel
theorem dX12_copyHeld_2 : decode cX12_copyHeld 2 = .ok (.putfield 69, 3) := by decide +kernel
theorem dX12_copyHeld_5 : decode cX12_copyHeld 5 = .ok (.aload_n 0, 1) := by decide +kernel
theorem dX12_copyHeld_6 : decode cX12_copyHeld 6 = .ok (.iconst 0, 1) := by decide +kernel
theorem dX12_copyHeld_7 : decode cX12_copyHeld 7 = .ok (.putfield 72, 3) := by decide +kernel
theorem dX12_copyHeld_10 : decode cX12_copyHeld 10 = .ok (.aload_n 0, 1) := by decide +kernel
theorem dX12_copyHeld_11 : decode cX12_copyHeld 11 = .ok (.getfield 35, 3) := by decide +kernel
theorem dX12_copyHeld_14 : decode cX12_copyHeld 14 = .ok (.iconst 0, 1) := by decide +kernel
theorem dX12_copyHeld_15 : decode cX12_copyHeld 15 = .ok (.iaload, 1) := by decide +kernel
theorem dX12_copyHeld_16 : decode cX12_copyHeld 16 = .ok (.aload_n 0, 1) := by decide +kernel
theorem dX12_copyHeld_17 : decode cX12_copyHeld 17 = .ok (.getfield 35, 3) := by decide +kernel
theorem dX12_copyHeld_20 : decode cX12_copyHeld 20 = .ok (.iconst 1, 1) := by decide +kernel
theorem dX12_copyHeld_21 : decode cX12_copyHeld 21 = .ok (.iaload, 1) := by decide +kernel
theorem dX12_copyHeld_22 : decode cX12_copyHeld 22 = .ok (.imul, 1) := by decide +kernel
theorem dX12_copyHeld_23 : decode cX12_copyHeld 23 = .ok (.istore_n 2, 1) := by decide +kernel
theorem dX12_copyHeld_24 : decode cX12_copyHeld 24 = .ok (.aload_n 0, 1) := by decide +kernel
theorem dX12_copyHeld_25 : decode cX12_copyHeld 25 = .ok (.iload_n 1, 1) := by decide +kernel
theorem dX12_copyHeld_26 : decode cX12_copyHeld 26 = .ok (.invokevirtual 421, 3) := by decide +kernel
theorem dX12_copyHeld_29 : decode cX12_copyHeld 29 = .ok (.ifCond .ne 9, 3) := by decide +kernel
theorem dX12_copyHeld_32 : decode cX12_copyHeld 32 = .ok (.aload_n 0, 1) := by decide +kernel
theorem dX12_copyHeld_33 : decode cX12_copyHeld 33 = .ok (.iconst 1, 1) := by decide +kernel
theorem dX12_copyHeld_34 : decode cX12_copyHeld 34 = .ok (.invokevirtual 363, 3) := by decide +kernel
theorem dX12_copyHeld_37 : decode cX12_copyHeld 37 = .ok (.ireturn, 1) := by decide +kernel
theorem dX12_copyHeld_38 : decode cX12_copyHeld 38 = .ok (.aload_n 0, 1) := by decide +kernel
theorem dX12_copyHeld_39 : decode cX12_copyHeld 39 = .ok (.getfield 17, 3) := by decide +kernel
theorem dX12_copyHeld_42 : decode cX12_copyHeld 42 = .ok (.iload_n 1, 1) := by decide +kernel
theorem dX12_copyHeld_43 : decode cX12_copyHeld 43 = .ok (.iaload, 1) := by decide +kernel
theorem dX12_copyHeld_44 : decode cX12_copyHeld 44 = .ok (.ifCond .ge 9, 3) := by decide +kernel
theorem dX12_copyHeld_47 : decode cX12_copyHeld 47 = .ok (.aload_n 0, 1) := by decide +kernel
theorem dX12_copyHeld_48 : decode cX12_copyHeld 48 = .ok (.iconst 3, 1) := by decide +kernel
theorem dX12_copyHeld_49 : decode cX12_copyHeld 49 = .ok (.invokevirtual 363, 3) := by decide +kernel
theorem dX12_copyHeld_52 : decode cX12_copyHeld 52 = .ok (.ireturn, 1) := by decide +kernel
theorem dX12_copyHeld_53 : decode cX12_copyHeld 53 = .ok (.aload_n 0, 1) := by decide +kernel
theorem dX12_copyHeld_54 : decode cX12_copyHeld 54 = .ok (.getfield 17, 3) := by decide +kernel
theorem dX12_copyHeld_57 : decode cX12_copyHeld 57 = .ok (.iload_n 1, 1) := by decide +kernel
theorem dX12_copyHeld_58 : decode cX12_copyHeld 58 = .ok (.iaload, 1) := by decide +kernel
theorem dX12_copyHeld_59 : decode cX12_copyHeld 59 = .ok (.iload_n 2, 1) := by decide +kernel
theorem dX12_copyHeld_60 : decode cX12_copyHeld 60 = .ok (.if_icmp .ge 9, 3) := by decide +kernel
theorem dX12_copyHeld_63 : decode cX12_copyHeld 63 = .ok (.aload_n 0, 1) := by decide +kernel
theorem dX12_copyHeld_64 : decode cX12_copyHeld 64 = .ok (.iconst 4, 1) := by decide +kernel
theorem dX12_copyHeld_65 : decode cX12_copyHeld 65 = .ok (.invokevirtual 363, 3) := by decide +kernel
theorem dX12_copyHeld_68 : decode cX12_copyHeld 68 = .ok (.ireturn, 1) := by decide +kernel
theorem dX12_copyHeld_69 : decode cX12_copyHeld 69 = .ok (.aload_n 0, 1) := by decide +kernel
theorem dX12_copyHeld_70 : decode cX12_copyHeld 70 = .ok (.invokevirtual 366, 3) := by decide +kernel
theorem dX12_copyHeld_73 : decode cX12_copyHeld 73 = .ok (.iconst 0, 1) := by decide +kernel
theorem dX12_copyHeld_74 : decode cX12_copyHeld 74 = .ok (.istore_n 3, 1) := by decide +kernel
theorem dX12_copyHeld_75 : decode cX12_copyHeld 75 = .ok (.iload_n 3, 1) := by decide +kernel
theorem dX12_copyHeld_76 : decode cX12_copyHeld 76 = .ok (.iload_n 2, 1) := by decide +kernel
theorem dX12_copyHeld_77 : decode cX12_copyHeld 77 = .ok (.if_icmp .ge 45, 3) := by decide +kernel
theorem dX12_copyHeld_80 : decode cX12_copyHeld 80 = .ok (.aload_n 0, 1) := by decide +kernel
theorem dX12_copyHeld_81 : decode cX12_copyHeld 81 = .ok (.getfield 20, 3) := by decide +kernel
theorem dX12_copyHeld_84 : decode cX12_copyHeld 84 = .ok (.bipush 60, 2) := by decide +kernel
theorem dX12_copyHeld_86 : decode cX12_copyHeld 86 = .ok (.iload_n 1, 1) := by decide +kernel
theorem dX12_copyHeld_87 : decode cX12_copyHeld 87 = .ok (.imul, 1) := by decide +kernel
theorem dX12_copyHeld_88 : decode cX12_copyHeld 88 = .ok (.iload_n 3, 1) := by decide +kernel
theorem dX12_copyHeld_89 : decode cX12_copyHeld 89 = .ok (.iadd, 1) := by decide +kernel
theorem dX12_copyHeld_90 : decode cX12_copyHeld 90 = .ok (.iconst (-1), 1) := by decide +kernel
theorem dX12_copyHeld_91 : decode cX12_copyHeld 91 = .ok (.aload_n 0, 1) := by decide +kernel
theorem dX12_copyHeld_92 : decode cX12_copyHeld 92 = .ok (.iload_n 3, 1) := by decide +kernel
theorem dX12_copyHeld_93 : decode cX12_copyHeld 93 = .ok (.aload_n 0, 1) := by decide +kernel
theorem dX12_copyHeld_94 : decode cX12_copyHeld 94 = .ok (.getfield 35, 3) := by decide +kernel
theorem dX12_copyHeld_97 : decode cX12_copyHeld 97 = .ok (.iconst 0, 1) := by decide +kernel
theorem dX12_copyHeld_98 : decode cX12_copyHeld 98 = .ok (.iaload, 1) := by decide +kernel
theorem dX12_copyHeld_99 : decode cX12_copyHeld 99 = .ok (.irem, 1) := by decide +kernel
theorem dX12_copyHeld_100 : decode cX12_copyHeld 100 = .ok (.iload_n 3, 1) := by decide +kernel
theorem dX12_copyHeld_101 : decode cX12_copyHeld 101 = .ok (.aload_n 0, 1) := by decide +kernel
theorem dX12_copyHeld_102 : decode cX12_copyHeld 102 = .ok (.getfield 35, 3) := by decide +kernel
theorem dX12_copyHeld_105 : decode cX12_copyHeld 105 = .ok (.iconst 0, 1) := by decide +kernel
theorem dX12_copyHeld_106 : decode cX12_copyHeld 106 = .ok (.iaload, 1) := by decide +kernel
theorem dX12_copyHeld_107 : decode cX12_copyHeld 107 = .ok (.idiv, 1) := by decide +kernel
theorem dX12_copyHeld_108 : decode cX12_copyHeld 108 = .ok (.invokevirtual 358, 3) := by decide +kernel
theorem dX12_copyHeld_111 : decode cX12_copyHeld 111 = .ok (.invokestatic 260, 3) := by decide +kernel
theorem dX12_copyHeld_114 : decode cX12_copyHeld 114 = .ok (.i2l, 1) := by decide +kernel
theorem dX12_copyHeld_115 : decode cX12_copyHeld 115 = .ok (.lastore, 1) := by decide +kernel
theorem dX12_copyHeld_116 : decode cX12_copyHeld 116 = .ok (.iinc 3 1, 3) := by decide +kernel
theorem dX12_copyHeld_119 : decode cX12_copyHeld 119 = .ok (.goto (-44), 3) := by decide +kernel
theorem dX12_copyHeld_122 : decode cX12_copyHeld 122 = .ok (.iload_n 2, 1) := by decide +kernel
theorem dX12_copyHeld_123 : decode cX12_copyHeld 123 = .ok (.ireturn, 1) := by decide +kernel
theorem dX12_keeps_0 : decode cX12_keeps 0 = .ok (.iconst 0, 1) := by decide +kernel
theorem dX12_keeps_1 : decode cX12_keeps 1 = .ok (.istore_n 1, 1) := by decide +kernel
theorem dX12_keeps_2 : decode cX12_keeps 2 = .ok (.iload_n 1, 1) := by decide +kernel
theorem dX12_keeps_3 : decode cX12_keeps 3 = .ok (.sipush 136, 3) := by decide +kernel
theorem dX12_keeps_6 : decode cX12_keeps 6 = .ok (.if_icmp .ge 21, 3) := by decide +kernel
theorem dX12_keeps_9 : decode cX12_keeps 9 = .ok (.aload_n 0, 1) := by decide +kernel
theorem dX12_keeps_10 : decode cX12_keeps 10 = .ok (.getfield 38, 3) := by decide +kernel
theorem dX12_keeps_13 : decode cX12_keeps 13 = .ok (.iload_n 1, 1) := by decide +kernel
theorem dX12_keeps_14 : decode cX12_keeps 14 = .ok (.aload_n 0, 1) := by decide +kernel
theorem dX12_keeps_15 : decode cX12_keeps 15 = .ok (.getfield 35, 3) := by decide +kernel
theorem dX12_keeps_18 : decode cX12_keeps 18 = .ok (.iload_n 1, 1) := by decide +kernel
theorem dX12_keeps_19 : decode cX12_keeps 19 = .ok (.iaload, 1) := by decide +kernel
theorem dX12_keeps_20 : decode cX12_keeps 20 = .ok (.iastore, 1) := by decide +kernel
theorem dX12_keeps_21 : decode cX12_keeps 21 = .ok (.iinc 1 1, 3) := by decide +kernel
theorem dX12_keeps_24 : decode cX12_keeps 24 = .ok (.goto (-22), 3) := by decide +kernel
theorem dX12_keeps_27 : decode cX12_keeps 27 = .ok (.return_, 1) := by decide +kernel
theorem dX12_gives_0 : decode cX12_gives 0 = .ok (.iconst 0, 1) := by decide +kernel
theorem dX12_gives_1 : decode cX12_gives 1 = .ok (.istore_n 1, 1) := by decide +kernel
theorem dX12_gives_2 : decode cX12_gives 2 = .ok (.iload_n 1, 1) := by decide +kernel
theorem dX12_gives_3 : decode cX12_gives 3 = .ok (.sipush 136, 3) := by decide +kernel
theorem dX12_gives_6 : decode cX12_gives 6 = .ok (.if_icmp .ge 21, 3) := by decide +kernel
theorem dX12_gives_9 : decode cX12_gives 9 = .ok (.aload_n 0, 1) := by decide +kernel
theorem dX12_gives_10 : decode cX12_gives 10 = .ok (.getfield 35, 3) := by decide +kernel
theorem dX12_gives_13 : decode cX12_gives 13 = .ok (.iload_n 1, 1) := by decide +kernel
theorem dX12_gives_14 : decode cX12_gives 14 = .ok (.aload_n 0, 1) := by decide +kernel
theorem dX12_gives_15 : decode cX12_gives 15 = .ok (.getfield 38, 3) := by decide +kernel
theorem dX12_gives_18 : decode cX12_gives 18 = .ok (.iload_n 1, 1) := by decide +kernel
theorem dX12_gives_19 : decode cX12_gives 19 = .ok (.iaload, 1) := by decide +kernel
theorem dX12_gives_20 : decode cX12_gives 20 = .ok (.iastore, 1) := by decide +kernel
theorem dX12_gives_21 : decode cX12_gives 21 = .ok (.iinc 1 1, 3) := by decide +kernel
theorem dX12_gives_24 : decode cX12_gives 24 = .ok (.goto (-22), 3) := by decide +kernel
theorem dX12_gives_27 : decode cX12_gives 27 = .ok (.return_, 1) := by decide +kernel
theorem dX12_isAhead_0 : decode cX12_isAhead 0 = .ok (.iload_n 0, 1) := by decide +kernel
theorem dX12_isAhead_1 : decode cX12_isAhead 1 = .ok (.i2l, 1) := by decide +kernel
theorem dX12_isAhead_2 : decode cX12_isAhead 2 = .ok (.lconst 0, 1) := by decide +kernel
theorem dX12_isAhead_3 : decode cX12_isAhead 3 = .ok (.ldc2_w 424, 3) := by decide +kernel
theorem dX12_isAhead_6 : decode cX12_isAhead 6 = .ok (.invokestatic 104, 3) := by decide +kernel
theorem dX12_isAhead_9 : decode cX12_isAhead 9 = .ok (.ireturn, 1) := by decide +kernel
theorem dX12_goesAhead_0 : decode cX12_goesAhead 0 = .ok (.aload_n 0, 1) := by decide +kernel
theorem dX12_goesAhead_1 : decode cX12_goesAhead 1 = .ok (.invokevirtual 426, 3) := by decide +kernel
theorem dX12_goesAhead_4 : decode cX12_goesAhead 4 = .ok (.iconst 0, 1) := by decide +kernel
theorem dX12_goesAhead_5 : decode cX12_goesAhead 5 = .ok (.istore_n 2, 1) := by decide +kernel
theorem dX12_goesAhead_6 : decode cX12_goesAhead 6 = .ok (.iload_n 2, 1) := by decide +kernel
theorem dX12_goesAhead_7 : decode cX12_goesAhead 7 = .ok (.iload_n 1, 1) := by decide +kernel
theorem dX12_goesAhead_8 : decode cX12_goesAhead 8 = .ok (.if_icmp .ge 14, 3) := by decide +kernel
theorem dX12_goesAhead_11 : decode cX12_goesAhead 11 = .ok (.aload_n 0, 1) := by decide +kernel
theorem dX12_goesAhead_12 : decode cX12_goesAhead 12 = .ok (.invokevirtual 399, 3) := by decide +kernel
theorem dX12_goesAhead_15 : decode cX12_goesAhead 15 = .ok (.pop, 1) := by decide +kernel
