theorem ml_Tray_30 : Cond.methodLink RX9 30 yX9_cut ∈ gtb := (gq_3 167 (by decide +kernel) rfl)
theorem mw_max : Cond.static Lib.Math.max.name ∈ gtb ∧ Cond.initialized "java/lang/Math" ∈ gtb ∧ Cond.code Lib.Math.max.name Lib.Math.max.code 2 (some .int) ∈ gtb := ⟨(gq_3 225 (by decide +kernel) rfl), (gq_1 19 (by decide +kernel) rfl), (gq_3 226 (by decide +kernel) rfl)⟩
theorem mw_min : Cond.static Lib.Math.min.name ∈ gtb ∧ Cond.initialized "java/lang/Math" ∈ gtb ∧ Cond.code Lib.Math.min.name Lib.Math.min.code 2 (some .int) ∈ gtb := ⟨(gq_3 228 (by decide +kernel) rfl), (gq_1 19 (by decide +kernel) rfl), (gq_3 229 (by decide +kernel) rfl)⟩
theorem mw_abs : Cond.static Lib.Math.abs.name ∈ gtb ∧ Cond.initialized "java/lang/Math" ∈ gtb ∧ Cond.code Lib.Math.abs.name Lib.Math.abs.code 1 (some .int) ∈ gtb := ⟨(gq_9 7 (by decide +kernel) rfl), (gq_1 19 (by decide +kernel) rfl), (gq_9 8 (by decide +kernel) rfl)⟩
theorem mw_absl : Cond.static Lib.MathLoose.abs_long.x ∈ gtb ∧ Cond.initialized "java/lang/Math" ∈ gtb ∧ Cond.code Lib.MathLoose.abs_long.x Lib.MathLoose.abs_long.code 2 (some .long) ∈ gtb := ⟨(gq_9 141 (by decide +kernel) rfl), (gq_1 19 (by decide +kernel) rfl), (gq_9 142 (by decide +kernel) rfl)⟩
set_option maxRecDepth 20000 in
theorem yw_X0_clear : YV yX0_clear cX0_clear 1 none 0 0 := ⟨⟨(gq_4 93 rfl rfl), (gq_1 11 (by decide +kernel) rfl), by decide +kernel, by decide⟩, (gq_4 91 (by decide +kernel) rfl), (gq_4 92 (by decide +kernel) rfl), _, rfl, rfl⟩
set_option maxRecDepth 20000 in
theorem yw_X0_takeFrom : YV yX0_takeFrom cX0_takeFrom 3 none 1 0 := ⟨⟨(gq_4 133 rfl rfl), (gq_1 11 (by decide +kernel) rfl), by decide +kernel, by decide⟩, (gq_4 131 (by decide +kernel) rfl), (gq_4 132 (by decide +kernel) rfl), _, rfl, rfl⟩
set_option maxRecDepth 20000 in
theorem yw_X0_wantedIn : YV yX0_wantedIn cX0_wantedIn 2 (some .int) 1 0 := ⟨⟨(gq_4 224 rfl rfl), (gq_1 11 (by decide +kernel) rfl), by decide +kernel, by decide⟩, (gq_4 222 (by decide +kernel) rfl), (gq_4 223 (by decide +kernel) rfl), _, rfl, rfl⟩
set_option maxRecDepth 20000 in
theorem yw_X0_lipsAfter : YV yX0_lipsAfter cX0_lipsAfter 5 (some .int) 4 0 := ⟨⟨(gq_5 59 rfl rfl), (gq_1 11 (by decide +kernel) rfl), by decide +kernel, by decide⟩, (gq_5 57 (by decide +kernel) rfl), (gq_5 58 (by decide +kernel) rfl), _, rfl, rfl⟩
set_option maxRecDepth 20000 in
theorem yw_X1_clear : YV yX1_clear cX1_clear 1 none 0 1 := ⟨⟨(gq_3 219 rfl rfl), (gq_1 9 (by decide +kernel) rfl), by decide +kernel, by decide⟩, (gq_3 217 (by decide +kernel) rfl), (gq_3 218 (by decide +kernel) rfl), _, rfl, rfl⟩
set_option maxRecDepth 20000 in
theorem yw_X1_takeFrom : YV yX1_takeFrom cX1_takeFrom 3 none 1 1 := ⟨⟨(gq_4 125 rfl rfl), (gq_1 9 (by decide +kernel) rfl), by decide +kernel, by decide⟩, (gq_4 123 (by decide +kernel) rfl), (gq_4 124 (by decide +kernel) rfl), _, rfl, rfl⟩
set_option maxRecDepth 20000 in
theorem yw_X8_keywordHere : YV yX8_keywordHere cX8_keywordHere 1 (some .int) 0 8 := ⟨⟨(gq_4 13 rfl rfl), (gq_1 2 (by decide +kernel) rfl), by decide +kernel, by decide⟩, (gq_4 11 (by decide +kernel) rfl), (gq_4 12 (by decide +kernel) rfl), _, rfl, rfl⟩
set_option maxRecDepth 20000 in
theorem yw_X8_takeSign : YV yX8_takeSign cX8_takeSign 2 none 0 8 := ⟨⟨(gq_4 5 rfl rfl), (gq_1 2 (by decide +kernel) rfl), by decide +kernel, by decide⟩, (gq_4 4 (by decide +kernel) rfl), (gp_1 7 (by decide +kernel) rfl), _, rfl, rfl⟩
set_option maxRecDepth 20000 in
theorem yw_X8_takeWord : YV yX8_takeWord cX8_takeWord 2 none 0 8 := ⟨⟨(gq_3 237 rfl rfl), (gq_1 2 (by decide +kernel) rfl), by decide +kernel, by decide⟩, (gq_3 236 (by decide +kernel) rfl), (gp_1 5 (by decide +kernel) rfl), _, rfl, rfl⟩
set_option maxRecDepth 20000 in
theorem yw_X8_takeNumber : YV yX8_takeNumber cX8_takeNumber 1 none 0 8 := ⟨⟨(gq_4 1 rfl rfl), (gq_1 2 (by decide +kernel) rfl), by decide +kernel, by decide⟩, (gq_4 0 (by decide +kernel) rfl), (gp_1 6 (by decide +kernel) rfl), _, rfl, rfl⟩
set_option maxRecDepth 20000 in
theorem yw_X8_advance : YV yX8_advance cX8_advance 1 none 0 8 := ⟨⟨(gq_3 233 rfl rfl), (gq_1 2 (by decide +kernel) rfl), by decide +kernel, by decide⟩, (gq_3 231 (by decide +kernel) rfl), (gq_3 232 (by decide +kernel) rfl), _, rfl, rfl⟩
set_option maxRecDepth 20000 in
theorem yw_X3_tuneNamed : YV yX3_tuneNamed cX3_tuneNamed 4 (some .int) 1 3 := ⟨⟨(gq_4 81 rfl rfl), (gq_1 8 (by decide +kernel) rfl), by decide +kernel, by decide⟩, (gq_4 79 (by decide +kernel) rfl), (gq_4 80 (by decide +kernel) rfl), _, rfl, rfl⟩
set_option maxRecDepth 20000 in
theorem yw_X8_blame : YV yX8_blame cX8_blame 2 none 1 8 := ⟨⟨(gq_4 25 rfl rfl), (gq_1 2 (by decide +kernel) rfl), by decide +kernel, by decide⟩, (gq_4 23 (by decide +kernel) rfl), (gq_4 24 (by decide +kernel) rfl), _, rfl, rfl⟩
set_option maxRecDepth 20000 in
theorem yw_X8_nameHere : YV yX8_nameHere cX8_nameHere 2 (some .long) 0 8 := ⟨⟨(gq_4 76 rfl rfl), (gq_1 2 (by decide +kernel) rfl), by decide +kernel, by decide⟩, (gq_4 74 (by decide +kernel) rfl), (gq_4 75 (by decide +kernel) rfl), _, rfl, rfl⟩
set_option maxRecDepth 20000 in
theorem yw_X8_entryHere : YV yX8_entryHere cX8_entryHere 3 (some .int) 1 8 := ⟨⟨(gq_4 110 rfl rfl), (gq_1 2 (by decide +kernel) rfl), by decide +kernel, by decide⟩, (gq_4 108 (by decide +kernel) rfl), (gq_4 109 (by decide +kernel) rfl), _, rfl, rfl⟩
set_option maxRecDepth 20000 in
theorem yw_X8_needEntry : YV yX8_needEntry cX8_needEntry 3 (some .int) 1 8 := ⟨⟨(gq_4 177 rfl rfl), (gq_1 2 (by decide +kernel) rfl), by decide +kernel, by decide⟩, (gq_4 175 (by decide +kernel) rfl), (gq_4 176 (by decide +kernel) rfl), _, rfl, rfl⟩
set_option maxRecDepth 20000 in
theorem yw_X8_numberHere : YV yX8_numberHere cX8_numberHere 3 (some .int) 2 8 := ⟨⟨(gq_4 34 rfl rfl), (gq_1 2 (by decide +kernel) rfl), by decide +kernel, by decide⟩, (gq_4 32 (by decide +kernel) rfl), (gq_4 33 (by decide +kernel) rfl), _, rfl, rfl⟩
set_option maxRecDepth 20000 in
theorem yw_X8_needNumber : YV yX8_needNumber cX8_needNumber 4 (some .int) 2 8 := ⟨⟨(gq_4 30 rfl rfl), (gq_1 2 (by decide +kernel) rfl), by decide +kernel, by decide⟩, (gq_4 28 (by decide +kernel) rfl), (gq_4 29 (by decide +kernel) rfl), _, rfl, rfl⟩
set_option maxRecDepth 20000 in
theorem yw_X3_bandNamed : YV yX3_bandNamed cX3_bandNamed 4 (some .int) 1 3 := ⟨⟨(gq_4 85 rfl rfl), (gq_1 8 (by decide +kernel) rfl), by decide +kernel, by decide⟩, (gq_4 83 (by decide +kernel) rfl), (gq_4 84 (by decide +kernel) rfl), _, rfl, rfl⟩
set_option maxRecDepth 20000 in
theorem yw_X8_needBand : YV yX8_needBand cX8_needBand 3 (some .int) 1 8 := ⟨⟨(gq_4 172 rfl rfl), (gq_1 2 (by decide +kernel) rfl), by decide +kernel, by decide⟩, (gq_4 170 (by decide +kernel) rfl), (gq_4 171 (by decide +kernel) rfl), _, rfl, rfl⟩
set_option maxRecDepth 20000 in
theorem yw_X2_readSet : YV yX2_readSet cX2_readSet 2 none 1 2 := ⟨⟨(gq_4 168 rfl rfl), (gq_1 14 (by decide +kernel) rfl), by decide +kernel, by decide⟩, (gq_4 167 (by decide +kernel) rfl), (gp_2 6 (by decide +kernel) rfl), _, rfl, rfl⟩
set_option maxRecDepth 20000 in
theorem yw_X8_isSignHere : YV yX8_isSignHere cX8_isSignHere 2 (some .boolean) 1 8 := ⟨⟨(gq_4 48 rfl rfl), (gq_1 2 (by decide +kernel) rfl), by decide +kernel, by decide⟩, (gq_4 46 (by decide +kernel) rfl), (gq_4 47 (by decide +kernel) rfl), _, rfl, rfl⟩
set_option maxRecDepth 20000 in
theorem yw_X8_needEnd : YV yX8_needEnd cX8_needEnd 1 none 0 8 := ⟨⟨(gq_4 44 rfl rfl), (gq_1 2 (by decide +kernel) rfl), by decide +kernel, by decide⟩, (gq_4 42 (by decide +kernel) rfl), (gq_4 43 (by decide +kernel) rfl), _, rfl, rfl⟩
set_option maxRecDepth 20000 in
theorem yw_X8_needCompares : YV yX8_needCompares cX8_needCompares 2 (some .int) 0 8 := ⟨⟨(gq_4 186 rfl rfl), (gq_1 2 (by decide +kernel) rfl), by decide +kernel, by decide⟩, (gq_4 184 (by decide +kernel) rfl), (gq_4 185 (by decide +kernel) rfl), _, rfl, rfl⟩
set_option maxRecDepth 20000 in
theorem yw_X2_readTest : YV yX2_readTest cX2_readTest 3 none 1 2 := ⟨⟨(gq_4 182 rfl rfl), (gq_1 14 (by decide +kernel) rfl), by decide +kernel, by decide⟩, (gq_4 181 (by decide +kernel) rfl), (gp_2 7 (by decide +kernel) rfl), _, rfl, rfl⟩
set_option maxRecDepth 20000 in
theorem yw_X2_isStep : YS yX2_isStep cX2_isStep 1 (some .boolean) 1 := ⟨⟨(gq_4 163 rfl rfl), (gq_1 14 (by decide +kernel) rfl), by decide +kernel, by decide⟩, (gq_4 162 (by decide +kernel) rfl)⟩
set_option maxRecDepth 20000 in
theorem yw_X2_readStep : YV yX2_readStep cX2_readStep 4 none 0 2 := ⟨⟨(gq_4 160 rfl rfl), (gq_1 14 (by decide +kernel) rfl), by decide +kernel, by decide⟩, (gq_4 159 (by decide +kernel) rfl), (gp_2 5 (by decide +kernel) rfl), _, rfl, rfl⟩
set_option maxRecDepth 20000 in
theorem yw_X8_goesOn : YV yX8_goesOn cX8_goesOn 1 (some .boolean) 0 8 := ⟨⟨(gq_4 9 rfl rfl), (gq_1 2 (by decide +kernel) rfl), by decide +kernel, by decide⟩, (gq_4 7 (by decide +kernel) rfl), (gq_4 8 (by decide +kernel) rfl), _, rfl, rfl⟩
set_option maxRecDepth 20000 in
theorem yw_X8_begin : YV yX8_begin cX8_begin 2 none 1 8 := ⟨⟨(gq_3 223 rfl rfl), (gq_1 2 (by decide +kernel) rfl), by decide +kernel, by decide⟩, (gq_3 221 (by decide +kernel) rfl), (gq_3 222 (by decide +kernel) rfl), _, rfl, rfl⟩
set_option maxRecDepth 20000 in
theorem yw_X2_readBlockEnd : YV yX2_readBlockEnd cX2_readBlockEnd 1 none 0 2 := ⟨⟨(gq_4 153 rfl rfl), (gq_1 14 (by decide +kernel) rfl), by decide +kernel, by decide⟩, (gq_4 152 (by decide +kernel) rfl), (gp_2 4 (by decide +kernel) rfl), _, rfl, rfl⟩
set_option maxRecDepth 20000 in
theorem yw_X2_readEvenings : YV yX2_readEvenings cX2_readEvenings 3 (some .boolean) 1 2 := ⟨⟨(gq_4 145 rfl rfl), (gq_1 14 (by decide +kernel) rfl), by decide +kernel, by decide⟩, (gq_4 143 (by decide +kernel) rfl), (gq_4 144 (by decide +kernel) rfl), _, rfl, rfl⟩
set_option maxRecDepth 20000 in
theorem yw_X3_clear : YV yX3_clear cX3_clear 2 none 0 3 := ⟨⟨(gq_3 215 rfl rfl), (gq_1 8 (by decide +kernel) rfl), by decide +kernel, by decide⟩, (gq_3 213 (by decide +kernel) rfl), (gq_3 214 (by decide +kernel) rfl), _, rfl, rfl⟩
set_option maxRecDepth 20000 in
theorem yw_X10_takeFrom : YV yX10_takeFrom cX10_takeFrom 2 none 1 10 := ⟨⟨(gq_4 129 rfl rfl), (gq_1 10 (by decide +kernel) rfl), by decide +kernel, by decide⟩, (gq_4 127 (by decide +kernel) rfl), (gq_4 128 (by decide +kernel) rfl), _, rfl, rfl⟩
set_option maxRecDepth 20000 in
theorem yw_X3_takeFrom : YV yX3_takeFrom cX3_takeFrom 3 none 1 3 := ⟨⟨(gq_4 121 rfl rfl), (gq_1 8 (by decide +kernel) rfl), by decide +kernel, by decide⟩, (gq_4 119 (by decide +kernel) rfl), (gq_4 120 (by decide +kernel) rfl), _, rfl, rfl⟩
set_option maxRecDepth 20000 in
theorem yw_X3_hasTune : YV yX3_hasTune cX3_hasTune 2 (some .boolean) 1 3 := ⟨⟨(gq_4 232 rfl rfl), (gq_1 8 (by decide +kernel) rfl), by decide +kernel, by decide⟩, (gq_4 230 (by decide +kernel) rfl), (gq_4 231 (by decide +kernel) rfl), _, rfl, rfl⟩
set_option maxRecDepth 20000 in
theorem yw_X3_hasBand : YV yX3_hasBand cX3_hasBand 2 (some .boolean) 1 3 := ⟨⟨(gq_5 22 rfl rfl), (gq_1 8 (by decide +kernel) rfl), by decide +kernel, by decide⟩, (gq_5 20 (by decide +kernel) rfl), (gq_5 21 (by decide +kernel) rfl), _, rfl, rfl⟩
set_option maxRecDepth 20000 in
theorem yw_X3_hasEntry : YV yX3_hasEntry cX3_hasEntry 2 (some .boolean) 1 3 := ⟨⟨(gq_5 90 rfl rfl), (gq_1 8 (by decide +kernel) rfl), by decide +kernel, by decide⟩, (gq_5 88 (by decide +kernel) rfl), (gq_5 89 (by decide +kernel) rfl), _, rfl, rfl⟩
set_option maxRecDepth 20000 in
theorem yw_X3_isBandSet : YV yX3_isBandSet cX3_isBandSet 2 (some .boolean) 1 3 := ⟨⟨(gq_6 98 rfl rfl), (gq_1 8 (by decide +kernel) rfl), by decide +kernel, by decide⟩, (gq_6 96 (by decide +kernel) rfl), (gq_6 97 (by decide +kernel) rfl), _, rfl, rfl⟩
set_option maxRecDepth 20000 in
theorem yw_X3_countCells : YV yX3_countCells cX3_countCells 2 (some .int) 0 3 := ⟨⟨(gq_4 203 rfl rfl), (gq_1 8 (by decide +kernel) rfl), by decide +kernel, by decide⟩, (gq_4 201 (by decide +kernel) rfl), (gq_4 202 (by decide +kernel) rfl), _, rfl, rfl⟩
set_option maxRecDepth 20000 in
theorem yw_X3_cellAt : YV yX3_cellAt cX3_cellAt 4 (some .int) 2 3 := ⟨⟨(gq_4 64 rfl rfl), (gq_1 8 (by decide +kernel) rfl), by decide +kernel, by decide⟩, (gq_4 62 (by decide +kernel) rfl), (gq_4 63 (by decide +kernel) rfl), _, rfl, rfl⟩
set_option maxRecDepth 20000 in
theorem yw_X3_countPonds : YV yX3_countPonds cX3_countPonds 3 (some .int) 0 3 := ⟨⟨(gq_4 199 rfl rfl), (gq_1 8 (by decide +kernel) rfl), by decide +kernel, by decide⟩, (gq_4 197 (by decide +kernel) rfl), (gq_4 198 (by decide +kernel) rfl), _, rfl, rfl⟩
set_option maxRecDepth 20000 in
theorem yw_X3_bandIsAt : YV yX3_bandIsAt cX3_bandIsAt 4 (some .boolean) 2 3 := ⟨⟨(gq_4 102 rfl rfl), (gq_1 8 (by decide +kernel) rfl), by decide +kernel, by decide⟩, (gq_4 100 (by decide +kernel) rfl), (gq_4 101 (by decide +kernel) rfl), _, rfl, rfl⟩
set_option maxRecDepth 20000 in
theorem yw_X3_placeBand : YV yX3_placeBand cX3_placeBand 4 none 3 3 := ⟨⟨(gq_5 104 rfl rfl), (gq_1 8 (by decide +kernel) rfl), by decide +kernel, by decide⟩, (gq_5 102 (by decide +kernel) rfl), (gq_5 103 (by decide +kernel) rfl), _, rfl, rfl⟩
set_option maxRecDepth 20000 in
theorem yw_X3_turnWind : YV yX3_turnWind cX3_turnWind 2 (some .boolean) 1 3 := ⟨⟨(gq_5 74 rfl rfl), (gq_1 8 (by decide +kernel) rfl), by decide +kernel, by decide⟩, (gq_5 72 (by decide +kernel) rfl), (gq_5 73 (by decide +kernel) rfl), _, rfl, rfl⟩
set_option maxRecDepth 20000 in
theorem yw_X3_turnRain : YV yX3_turnRain cX3_turnRain 2 (some .boolean) 1 3 := ⟨⟨(gq_5 82 rfl rfl), (gq_1 8 (by decide +kernel) rfl), by decide +kernel, by decide⟩, (gq_5 80 (by decide +kernel) rfl), (gq_5 81 (by decide +kernel) rfl), _, rfl, rfl⟩
set_option maxRecDepth 20000 in
theorem yw_X3_changeRule : YV yX3_changeRule cX3_changeRule 3 (some .boolean) 2 3 := ⟨⟨(gq_5 121 rfl rfl), (gq_1 8 (by decide +kernel) rfl), by decide +kernel, by decide⟩, (gq_5 119 (by decide +kernel) rfl), (gq_5 120 (by decide +kernel) rfl), _, rfl, rfl⟩
set_option maxRecDepth 20000 in
theorem yw_X3_tollOf : YV yX3_tollOf cX3_tollOf 2 (some .int) 1 3 := ⟨⟨(gq_4 228 rfl rfl), (gq_1 8 (by decide +kernel) rfl), by decide +kernel, by decide⟩, (gq_4 226 (by decide +kernel) rfl), (gq_4 227 (by decide +kernel) rfl), _, rfl, rfl⟩
set_option maxRecDepth 20000 in
theorem yw_X3_canHavePlayed : YV yX3_canHavePlayed cX3_canHavePlayed 10 (some .boolean) 4 3 := ⟨⟨(gq_6 145 rfl rfl), (gq_1 8 (by decide +kernel) rfl), by decide +kernel, by decide⟩, (gq_6 143 (by decide +kernel) rfl), (gq_6 144 (by decide +kernel) rfl), _, rfl, rfl⟩
set_option maxRecDepth 20000 in
theorem yw_X4_needBehindPark : YV yX4_needBehindPark cX4_needBehindPark 1 none 0 4 := ⟨⟨(gq_4 60 rfl rfl), (gq_1 13 (by decide +kernel) rfl), by decide +kernel, by decide⟩, (gq_4 59 (by decide +kernel) rfl), (gp_1 12 (by decide +kernel) rfl), _, rfl, rfl⟩
set_option maxRecDepth 20000 in
theorem yw_X4_readPond : YV yX4_readPond cX4_readPond 4 none 0 4 := ⟨⟨(gq_4 56 rfl rfl), (gq_1 13 (by decide +kernel) rfl), by decide +kernel, by decide⟩, (gq_4 55 (by decide +kernel) rfl), (gp_1 11 (by decide +kernel) rfl), _, rfl, rfl⟩
set_option maxRecDepth 20000 in
theorem yw_X8_needWord : YV yX8_needWord cX8_needWord 2 none 1 8 := ⟨⟨(gq_4 39 rfl rfl), (gq_1 2 (by decide +kernel) rfl), by decide +kernel, by decide⟩, (gq_4 37 (by decide +kernel) rfl), (gq_4 38 (by decide +kernel) rfl), _, rfl, rfl⟩
set_option maxRecDepth 20000 in
theorem yw_X4_needOnce : YV yX4_needOnce cX4_needOnce 2 none 1 4 := ⟨⟨(gq_4 21 rfl rfl), (gq_1 13 (by decide +kernel) rfl), by decide +kernel, by decide⟩, (gq_4 20 (by decide +kernel) rfl), (gp_1 9 (by decide +kernel) rfl), _, rfl, rfl⟩
set_option maxRecDepth 20000 in
theorem yw_X4_readSize : YV yX4_readSize cX4_readSize 3 none 0 4 := ⟨⟨(gq_4 17 rfl rfl), (gq_1 13 (by decide +kernel) rfl), by decide +kernel, by decide⟩, (gq_4 16 (by decide +kernel) rfl), (gp_1 8 (by decide +kernel) rfl), _, rfl, rfl⟩
set_option maxRecDepth 20000 in
theorem yw_X4_readProgramme : YV yX4_readProgramme cX4_readProgramme 5 none 1 4 := ⟨⟨(gq_4 106 rfl rfl), (gq_1 13 (by decide +kernel) rfl), by decide +kernel, by decide⟩, (gq_4 105 (by decide +kernel) rfl), (gp_2 1 (by decide +kernel) rfl), _, rfl, rfl⟩
set_option maxRecDepth 20000 in
theorem yw_X4_readStand : YV yX4_readStand cX4_readStand 2 none 1 4 := ⟨⟨(gq_4 97 rfl rfl), (gq_1 13 (by decide +kernel) rfl), by decide +kernel, by decide⟩, (gq_4 96 (by decide +kernel) rfl), (gp_2 0 (by decide +kernel) rfl), _, rfl, rfl⟩
set_option maxRecDepth 20000 in
theorem yw_X4_needNewName : YV yX4_needNewName cX4_needNewName 3 (some .long) 0 4 := ⟨⟨(gq_4 72 rfl rfl), (gq_1 13 (by decide +kernel) rfl), by decide +kernel, by decide⟩, (gq_4 71 (by decide +kernel) rfl), (gp_1 14 (by decide +kernel) rfl), _, rfl, rfl⟩
set_option maxRecDepth 20000 in
theorem yw_X4_readBand : YV yX4_readBand cX4_readBand 2 none 0 4 := ⟨⟨(gq_4 89 rfl rfl), (gq_1 13 (by decide +kernel) rfl), by decide +kernel, by decide⟩, (gq_4 88 (by decide +kernel) rfl), (gp_1 15 (by decide +kernel) rfl), _, rfl, rfl⟩
set_option maxRecDepth 20000 in
theorem yw_X4_readRule : YV yX4_readRule cX4_readRule 4 (some .int) 2 4 := ⟨⟨(gq_4 52 rfl rfl), (gq_1 13 (by decide +kernel) rfl), by decide +kernel, by decide⟩, (gq_4 51 (by decide +kernel) rfl), (gp_1 10 (by decide +kernel) rfl), _, rfl, rfl⟩
set_option maxRecDepth 20000 in
theorem yw_X4_readTune : YV yX4_readTune cX4_readTune 2 none 0 4 := ⟨⟨(gq_4 68 rfl rfl), (gq_1 13 (by decide +kernel) rfl), by decide +kernel, by decide⟩, (gq_4 67 (by decide +kernel) rfl), (gp_1 13 (by decide +kernel) rfl), _, rfl, rfl⟩
set_option maxRecDepth 20000 in
theorem yw_X4_readPark : YV yX4_readPark cX4_readPark 3 (some .boolean) 1 4 := ⟨⟨(gq_3 211 rfl rfl), (gq_1 13 (by decide +kernel) rfl), by decide +kernel, by decide⟩, (gq_3 209 (by decide +kernel) rfl), (gq_3 210 (by decide +kernel) rfl), _, rfl, rfl⟩
set_option maxRecDepth 20000 in
theorem yw_X6_levelAt : YV yX6_levelAt cX6_levelAt 7 (some .int) 3 6 := ⟨⟨(gq_5 1 rfl rfl), (gq_1 12 (by decide +kernel) rfl), by decide +kernel, by decide⟩, (gq_4 239 (by decide +kernel) rfl), (gq_5 0 (by decide +kernel) rfl), _, rfl, rfl⟩
set_option maxRecDepth 20000 in
theorem yw_X6_loudestBut : YV yX6_loudestBut cX6_loudestBut 6 (some .int) 3 6 := ⟨⟨(gq_5 155 rfl rfl), (gq_1 12 (by decide +kernel) rfl), by decide +kernel, by decide⟩, (gq_5 153 (by decide +kernel) rfl), (gq_5 154 (by decide +kernel) rfl), _, rfl, rfl⟩
set_option maxRecDepth 20000 in
theorem yw_X6_isKept : YS yX6_isKept cX6_isKept 2 (some .boolean) 2 := ⟨⟨(gq_5 55 rfl rfl), (gq_1 12 (by decide +kernel) rfl), by decide +kernel, by decide⟩, (gq_5 54 (by decide +kernel) rfl)⟩
set_option maxRecDepth 20000 in
theorem yw_X6_gainIn : YV yX6_gainIn cX6_gainIn 3 (some .int) 2 6 := ⟨⟨(gq_5 52 rfl rfl), (gq_1 12 (by decide +kernel) rfl), by decide +kernel, by decide⟩, (gq_5 50 (by decide +kernel) rfl), (gq_5 51 (by decide +kernel) rfl), _, rfl, rfl⟩
set_option maxRecDepth 20000 in
theorem yw_X6_lossAlong : YV yX6_lossAlong cX6_lossAlong 7 (some .int) 3 6 := ⟨⟨(gq_4 220 rfl rfl), (gq_1 12 (by decide +kernel) rfl), by decide +kernel, by decide⟩, (gq_4 219 (by decide +kernel) rfl), (gp_2 8 (by decide +kernel) rfl), _, rfl, rfl⟩
set_option maxRecDepth 20000 in
theorem yw_X6_refresh : YV yX6_refresh cX6_refresh 6 none 0 6 := ⟨⟨(gq_4 215 rfl rfl), (gq_1 12 (by decide +kernel) rfl), by decide +kernel, by decide⟩, (gq_4 213 (by decide +kernel) rfl), (gq_4 214 (by decide +kernel) rfl), _, rfl, rfl⟩
set_option maxRecDepth 20000 in
theorem yw_X7_look : YV yX7_look cX7_look 3 none 0 7 := ⟨⟨(gq_4 211 rfl rfl), (gq_1 7 (by decide +kernel) rfl), by decide +kernel, by decide⟩, (gq_4 209 (by decide +kernel) rfl), (gq_4 210 (by decide +kernel) rfl), _, rfl, rfl⟩
set_option maxRecDepth 20000 in
theorem yw_X6_holderAt : YV yX6_holderAt cX6_holderAt 7 (some .int) 2 6 := ⟨⟨(gq_4 237 rfl rfl), (gq_1 12 (by decide +kernel) rfl), by decide +kernel, by decide⟩, (gq_4 235 (by decide +kernel) rfl), (gq_4 236 (by decide +kernel) rfl), _, rfl, rfl⟩
set_option maxRecDepth 20000 in
theorem yw_X6_fillSlot : YV yX6_fillSlot cX6_fillSlot 6 none 2 6 := ⟨⟨(gq_5 47 rfl rfl), (gq_1 12 (by decide +kernel) rfl), by decide +kernel, by decide⟩, (gq_5 46 (by decide +kernel) rfl), (gp_2 9 (by decide +kernel) rfl), _, rfl, rfl⟩
set_option maxRecDepth 20000 in
theorem yw_X6_slotOf : YV yX6_slotOf cX6_slotOf 4 (some .int) 1 6 := ⟨⟨(gq_5 43 rfl rfl), (gq_1 12 (by decide +kernel) rfl), by decide +kernel, by decide⟩, (gq_5 41 (by decide +kernel) rfl), (gq_5 42 (by decide +kernel) rfl), _, rfl, rfl⟩
set_option maxRecDepth 20000 in
theorem yw_X7_passHours : YV yX7_passHours cX7_passHours 8 (some .int) 1 7 := ⟨⟨(gq_5 39 rfl rfl), (gq_1 7 (by decide +kernel) rfl), by decide +kernel, by decide⟩, (gq_5 37 (by decide +kernel) rfl), (gq_5 38 (by decide +kernel) rfl), _, rfl, rfl⟩
set_option maxRecDepth 20000 in
theorem yw_X5_lipsWith : YS yX5_lipsWith cX5_lipsWith 6 (some .int) 4 := ⟨⟨(gq_6 16 rfl rfl), (gq_1 15 (by decide +kernel) rfl), by decide +kernel, by decide⟩, (gq_6 15 (by decide +kernel) rfl)⟩
set_option maxRecDepth 20000 in
theorem yw_X5_heldWith : YV yX5_heldWith cX5_heldWith 7 (some .int) 5 5 := ⟨⟨(gq_6 12 rfl rfl), (gq_1 15 (by decide +kernel) rfl), by decide +kernel, by decide⟩, (gq_6 11 (by decide +kernel) rfl), (gp_2 15 (by decide +kernel) rfl), _, rfl, rfl⟩
set_option maxRecDepth 20000 in
theorem yw_X5_fillHeld : YV yX5_fillHeld cX5_fillHeld 7 none 3 5 := ⟨⟨(gq_6 8 rfl rfl), (gq_1 15 (by decide +kernel) rfl), by decide +kernel, by decide⟩, (gq_6 7 (by decide +kernel) rfl), (gp_2 14 (by decide +kernel) rfl), _, rfl, rfl⟩
set_option maxRecDepth 20000 in
theorem yw_X5_firstGood : YV yX5_firstGood cX5_firstGood 6 (some .int) 4 5 := ⟨⟨(gq_6 22 rfl rfl), (gq_1 15 (by decide +kernel) rfl), by decide +kernel, by decide⟩, (gq_6 21 (by decide +kernel) rfl), (gp_3 0 (by decide +kernel) rfl), _, rfl, rfl⟩
set_option maxRecDepth 20000 in
theorem yw_X7_levelAt : YV yX7_levelAt cX7_levelAt 4 (some .int) 3 7 := ⟨⟨(gq_5 142 rfl rfl), (gq_1 7 (by decide +kernel) rfl), by decide +kernel, by decide⟩, (gq_5 140 (by decide +kernel) rfl), (gq_5 141 (by decide +kernel) rfl), _, rfl, rfl⟩
set_option maxRecDepth 20000 in
theorem yw_X5_findHolding : YV yX5_findHolding cX5_findHolding 9 (some .int) 4 5 := ⟨⟨(gq_5 239 rfl rfl), (gq_1 15 (by decide +kernel) rfl), by decide +kernel, by decide⟩, (gq_5 237 (by decide +kernel) rfl), (gq_5 238 (by decide +kernel) rfl), _, rfl, rfl⟩
set_option maxRecDepth 20000 in
theorem yw_X5_takePlays : YV yX5_takePlays cX5_takePlays 3 none 1 5 := ⟨⟨(gq_6 46 rfl rfl), (gq_1 15 (by decide +kernel) rfl), by decide +kernel, by decide⟩, (gq_6 45 (by decide +kernel) rfl), (gp_3 2 (by decide +kernel) rfl), _, rfl, rfl⟩
set_option maxRecDepth 20000 in
theorem yw_X6_lawnsIn : YV yX6_lawnsIn cX6_lawnsIn 3 (some .int) 2 6 := ⟨⟨(gq_5 180 rfl rfl), (gq_1 12 (by decide +kernel) rfl), by decide +kernel, by decide⟩, (gq_5 178 (by decide +kernel) rfl), (gq_5 179 (by decide +kernel) rfl), _, rfl, rfl⟩
set_option maxRecDepth 20000 in
theorem yw_X5_lawnsWith : YV yX5_lawnsWith cX5_lawnsWith 4 (some .int) 3 5 := ⟨⟨(gq_6 42 rfl rfl), (gq_1 15 (by decide +kernel) rfl), by decide +kernel, by decide⟩, (gq_6 40 (by decide +kernel) rfl), (gq_6 41 (by decide +kernel) rfl), _, rfl, rfl⟩
set_option maxRecDepth 20000 in
theorem yw_X5_findBest : YV yX5_findBest cX5_findBest 7 (some .int) 2 5 := ⟨⟨(gq_6 38 rfl rfl), (gq_1 15 (by decide +kernel) rfl), by decide +kernel, by decide⟩, (gq_6 36 (by decide +kernel) rfl), (gq_6 37 (by decide +kernel) rfl), _, rfl, rfl⟩
set_option maxRecDepth 20000 in
theorem yw_X5_findLow : YV yX5_findLow cX5_findLow 9 (some .int) 3 5 := ⟨⟨(gq_6 61 rfl rfl), (gq_1 15 (by decide +kernel) rfl), by decide +kernel, by decide⟩, (gq_6 59 (by decide +kernel) rfl), (gq_6 60 (by decide +kernel) rfl), _, rfl, rfl⟩
set_option maxRecDepth 20000 in
theorem yw_X5_entryInOrder : YS yX5_entryInOrder cX5_entryInOrder 2 (some .int) 2 := ⟨⟨(gq_6 80 rfl rfl), (gq_1 15 (by decide +kernel) rfl), by decide +kernel, by decide⟩, (gq_6 79 (by decide +kernel) rfl)⟩
set_option maxRecDepth 20000 in
theorem yw_X5_valueOf : YS yX5_valueOf cX5_valueOf 11 (some .int) 6 := ⟨⟨(gq_6 77 rfl rfl), (gq_1 15 (by decide +kernel) rfl), by decide +kernel, by decide⟩, (gq_6 76 (by decide +kernel) rfl)⟩
set_option maxRecDepth 20000 in
theorem yw_X5_playGame : YV yX5_playGame cX5_playGame 5 (some .int) 4 5 := ⟨⟨(gq_6 74 rfl rfl), (gq_1 15 (by decide +kernel) rfl), by decide +kernel, by decide⟩, (gq_6 72 (by decide +kernel) rfl), (gq_6 73 (by decide +kernel) rfl), _, rfl, rfl⟩
set_option maxRecDepth 20000 in
theorem yw_X5_findMove : YV yX5_findMove cX5_findMove 9 (some .int) 4 5 := ⟨⟨(gq_6 89 rfl rfl), (gq_1 15 (by decide +kernel) rfl), by decide +kernel, by decide⟩, (gq_6 87 (by decide +kernel) rfl), (gq_6 88 (by decide +kernel) rfl), _, rfl, rfl⟩
set_option maxRecDepth 20000 in
theorem yw_X5_countAlly : YV yX5_countAlly cX5_countAlly 9 (some .int) 2 5 := ⟨⟨(gq_6 102 rfl rfl), (gq_1 15 (by decide +kernel) rfl), by decide +kernel, by decide⟩, (gq_6 100 (by decide +kernel) rfl), (gq_6 101 (by decide +kernel) rfl), _, rfl, rfl⟩
set_option maxRecDepth 20000 in
theorem yw_X7_lawnsOf : YV yX7_lawnsOf cX7_lawnsOf 2 (some .int) 1 7 := ⟨⟨(gq_5 176 rfl rfl), (gq_1 7 (by decide +kernel) rfl), by decide +kernel, by decide⟩, (gq_5 174 (by decide +kernel) rfl), (gq_5 175 (by decide +kernel) rfl), _, rfl, rfl⟩
set_option maxRecDepth 20000 in
theorem yw_X5_isStable : YV yX5_isStable cX5_isStable 6 (some .boolean) 2 5 := ⟨⟨(gq_6 111 rfl rfl), (gq_1 15 (by decide +kernel) rfl), by decide +kernel, by decide⟩, (gq_6 109 (by decide +kernel) rfl), (gq_6 110 (by decide +kernel) rfl), _, rfl, rfl⟩
set_option maxRecDepth 20000 in
theorem yw_X5_findAlliance : YV yX5_findAlliance cX5_findAlliance 6 (some .int) 1 5 := ⟨⟨(gq_6 122 rfl rfl), (gq_1 15 (by decide +kernel) rfl), by decide +kernel, by decide⟩, (gq_6 120 (by decide +kernel) rfl), (gq_6 121 (by decide +kernel) rfl), _, rfl, rfl⟩
set_option maxRecDepth 20000 in
theorem yw_X7_loudestAt : YV yX7_loudestAt cX7_loudestAt 2 (some .int) 1 7 := ⟨⟨(gq_5 151 rfl rfl), (gq_1 7 (by decide +kernel) rfl), by decide +kernel, by decide⟩, (gq_5 149 (by decide +kernel) rfl), (gq_5 150 (by decide +kernel) rfl), _, rfl, rfl⟩
set_option maxRecDepth 20000 in
theorem yw_X5_reach : YV yX5_reach cX5_reach 6 (some .int) 4 5 := ⟨⟨(gq_6 170 rfl rfl), (gq_1 15 (by decide +kernel) rfl), by decide +kernel, by decide⟩, (gq_6 169 (by decide +kernel) rfl), (gp_3 5 (by decide +kernel) rfl), _, rfl, rfl⟩
set_option maxRecDepth 20000 in
theorem yw_X5_countSteps : YV yX5_countSteps cX5_countSteps 12 (some .int) 4 5 := ⟨⟨(gq_6 165 rfl rfl), (gq_1 15 (by decide +kernel) rfl), by decide +kernel, by decide⟩, (gq_6 163 (by decide +kernel) rfl), (gq_6 164 (by decide +kernel) rfl), _, rfl, rfl⟩
set_option maxRecDepth 20000 in
theorem yw_X5_findQuiet : YV yX5_findQuiet cX5_findQuiet 6 (some .int) 3 5 := ⟨⟨(gq_6 160 rfl rfl), (gq_1 15 (by decide +kernel) rfl), by decide +kernel, by decide⟩, (gq_6 158 (by decide +kernel) rfl), (gq_6 159 (by decide +kernel) rfl), _, rfl, rfl⟩
set_option maxRecDepth 20000 in
theorem yw_X7_playedBy : YV yX7_playedBy cX7_playedBy 2 (some .int) 1 7 := ⟨⟨(gq_5 133 rfl rfl), (gq_1 7 (by decide +kernel) rfl), by decide +kernel, by decide⟩, (gq_5 131 (by decide +kernel) rfl), (gq_5 132 (by decide +kernel) rfl), _, rfl, rfl⟩
set_option maxRecDepth 20000 in
theorem yw_X7_playingSet : YV yX7_playingSet cX7_playingSet 3 (some .int) 0 7 := ⟨⟨(gq_5 5 rfl rfl), (gq_1 7 (by decide +kernel) rfl), by decide +kernel, by decide⟩, (gq_5 3 (by decide +kernel) rfl), (gq_5 4 (by decide +kernel) rfl), _, rfl, rfl⟩
set_option maxRecDepth 20000 in
theorem yw_X7_tiredSet : YV yX7_tiredSet cX7_tiredSet 1 (some .int) 0 7 := ⟨⟨(gq_5 9 rfl rfl), (gq_1 7 (by decide +kernel) rfl), by decide +kernel, by decide⟩, (gq_5 7 (by decide +kernel) rfl), (gq_5 8 (by decide +kernel) rfl), _, rfl, rfl⟩
set_option maxRecDepth 20000 in
theorem yw_X7_holderAt : YV yX7_holderAt cX7_holderAt 2 (some .int) 1 7 := ⟨⟨(gq_5 164 rfl rfl), (gq_1 7 (by decide +kernel) rfl), by decide +kernel, by decide⟩, (gq_5 162 (by decide +kernel) rfl), (gq_5 163 (by decide +kernel) rfl), _, rfl, rfl⟩
set_option maxRecDepth 20000 in
theorem yw_X7_countHeldBy : YV yX7_countHeldBy cX7_countHeldBy 4 (some .int) 1 7 := ⟨⟨(gq_4 207 rfl rfl), (gq_1 7 (by decide +kernel) rfl), by decide +kernel, by decide⟩, (gq_4 205 (by decide +kernel) rfl), (gq_4 206 (by decide +kernel) rfl), _, rfl, rfl⟩
set_option maxRecDepth 20000 in
theorem yw_X7_countPondsHeldBy : YV yX7_countPondsHeldBy cX7_countPondsHeldBy 4 (some .int) 1 7 := ⟨⟨(gq_5 188 rfl rfl), (gq_1 7 (by decide +kernel) rfl), by decide +kernel, by decide⟩, (gq_5 186 (by decide +kernel) rfl), (gq_5 187 (by decide +kernel) rfl), _, rfl, rfl⟩
set_option maxRecDepth 20000 in
theorem yw_X7_beginEvenings : YV yX7_beginEvenings cX7_beginEvenings 2 none 1 7 := ⟨⟨(gq_6 194 rfl rfl), (gq_1 7 (by decide +kernel) rfl), by decide +kernel, by decide⟩, (gq_6 192 (by decide +kernel) rfl), (gq_6 193 (by decide +kernel) rfl), _, rfl, rfl⟩
set_option maxRecDepth 20000 in
theorem yw_X7_copyTallies : YV yX7_copyTallies cX7_copyTallies 2 none 1 7 := ⟨⟨(gq_6 229 rfl rfl), (gq_1 7 (by decide +kernel) rfl), by decide +kernel, by decide⟩, (gq_6 227 (by decide +kernel) rfl), (gq_6 228 (by decide +kernel) rfl), _, rfl, rfl⟩
set_option maxRecDepth 20000 in
theorem yw_X7_doSet : YV yX7_doSet cX7_doSet 4 (some .boolean) 1 7 := ⟨⟨(gq_6 219 rfl rfl), (gq_1 7 (by decide +kernel) rfl), by decide +kernel, by decide⟩, (gq_6 218 (by decide +kernel) rfl), (gp_3 9 (by decide +kernel) rfl), _, rfl, rfl⟩
set_option maxRecDepth 20000 in
theorem yw_X7_draw : YV yX7_draw cX7_draw 2 (some .int) 1 7 := ⟨⟨(gq_6 223 rfl rfl), (gq_1 7 (by decide +kernel) rfl), by decide +kernel, by decide⟩, (gq_6 222 (by decide +kernel) rfl), (gp_3 10 (by decide +kernel) rfl), _, rfl, rfl⟩
set_option maxRecDepth 20000 in
theorem yw_X7_doPlain : YV yX7_doPlain cX7_doPlain 3 (some .boolean) 1 7 := ⟨⟨(gq_6 212 rfl rfl), (gq_1 7 (by decide +kernel) rfl), by decide +kernel, by decide⟩, (gq_6 211 (by decide +kernel) rfl), (gp_3 8 (by decide +kernel) rfl), _, rfl, rfl⟩
set_option maxRecDepth 20000 in
theorem yw_X7_compares : YV yX7_compares cX7_compares 4 (some .boolean) 2 7 := ⟨⟨(gq_6 207 rfl rfl), (gq_1 7 (by decide +kernel) rfl), by decide +kernel, by decide⟩, (gq_6 206 (by decide +kernel) rfl), (gp_3 7 (by decide +kernel) rfl), _, rfl, rfl⟩
set_option maxRecDepth 20000 in
theorem yw_X7_isSo : YV yX7_isSo cX7_isSo 3 (some .boolean) 1 7 := ⟨⟨(gq_6 202 rfl rfl), (gq_1 7 (by decide +kernel) rfl), by decide +kernel, by decide⟩, (gq_6 201 (by decide +kernel) rfl), (gp_3 6 (by decide +kernel) rfl), _, rfl, rfl⟩
set_option maxRecDepth 20000 in
theorem yw_X7_doSteps : YS yX7_doSteps cX7_doSteps 10 none 4 := ⟨⟨(gq_6 197 rfl rfl), (gq_1 7 (by decide +kernel) rfl), by decide +kernel, by decide⟩, (gq_6 196 (by decide +kernel) rfl)⟩
set_option maxRecDepth 20000 in
theorem yw_X8_hasRoom : YV yX8_hasRoom cX8_hasRoom 2 (some .boolean) 1 8 := ⟨⟨(gq_3 198 rfl rfl), (gq_1 2 (by decide +kernel) rfl), by decide +kernel, by decide⟩, (gq_3 196 (by decide +kernel) rfl), (gq_3 197 (by decide +kernel) rfl), _, rfl, rfl⟩
set_option maxRecDepth 20000 in
theorem yw_X8_append : YV yX8_append cX8_append 3 none 1 8 := ⟨⟨(gq_3 202 rfl rfl), (gq_1 2 (by decide +kernel) rfl), by decide +kernel, by decide⟩, (gq_3 200 (by decide +kernel) rfl), (gq_3 201 (by decide +kernel) rfl), _, rfl, rfl⟩
set_option maxRecDepth 20000 in
theorem yw_X9_lay : YV yX9_lay cX9_lay 4 none 2 9 := ⟨⟨(gq_3 145 rfl rfl), (gq_1 16 (by decide +kernel) rfl), by decide +kernel, by decide⟩, (gq_3 143 (by decide +kernel) rfl), (gq_3 144 (by decide +kernel) rfl), _, rfl, rfl⟩
set_option maxRecDepth 20000 in
theorem yw_X9_hasRow : YV yX9_hasRow cX9_hasRow 3 (some .boolean) 2 9 := ⟨⟨(gq_3 161 rfl rfl), (gq_1 16 (by decide +kernel) rfl), by decide +kernel, by decide⟩, (gq_3 159 (by decide +kernel) rfl), (gq_3 160 (by decide +kernel) rfl), _, rfl, rfl⟩
set_option maxRecDepth 20000 in
theorem yw_X9_cut : YV yX9_cut cX9_cut 3 (some .long) 1 9 := ⟨⟨(gq_3 170 rfl rfl), (gq_1 16 (by decide +kernel) rfl), by decide +kernel, by decide⟩, (gq_3 169 (by decide +kernel) rfl), (gp_1 3 (by decide +kernel) rfl), _, rfl, rfl⟩
set_option maxRecDepth 20000 in
theorem yw_X9_put : YV yX9_put cX9_put 4 none 2 9 := ⟨⟨(gq_3 165 rfl rfl), (gq_1 16 (by decide +kernel) rfl), by decide +kernel, by decide⟩, (gq_3 163 (by decide +kernel) rfl), (gq_3 164 (by decide +kernel) rfl), _, rfl, rfl⟩
set_option maxRecDepth 20000 in
theorem yw_X9_numberAt : YV yX9_numberAt cX9_numberAt 2 (some .long) 1 9 := ⟨⟨(gq_3 182 rfl rfl), (gq_1 16 (by decide +kernel) rfl), by decide +kernel, by decide⟩, (gq_3 180 (by decide +kernel) rfl), (gq_3 181 (by decide +kernel) rfl), _, rfl, rfl⟩
set_option maxRecDepth 20000 in
theorem yw_X11_status : YV yX11_status cX11_status 1 (some .int) 0 11 := ⟨⟨(gq_3 122 rfl rfl), (gq_1 1 (by decide +kernel) rfl), by decide +kernel, by decide⟩, (gq_3 120 (by decide +kernel) rfl), (gq_3 121 (by decide +kernel) rfl), _, rfl, rfl⟩
set_option maxRecDepth 20000 in
theorem yw_X11_top : YV yX11_top cX11_top 1 (some .long) 0 11 := ⟨⟨(gq_3 126 rfl rfl), (gq_1 1 (by decide +kernel) rfl), by decide +kernel, by decide⟩, (gq_3 124 (by decide +kernel) rfl), (gq_3 125 (by decide +kernel) rfl), _, rfl, rfl⟩
set_option maxRecDepth 20000 in
theorem yw_X11_bottom : YV yX11_bottom cX11_bottom 1 (some .long) 0 11 := ⟨⟨(gq_3 130 rfl rfl), (gq_1 1 (by decide +kernel) rfl), by decide +kernel, by decide⟩, (gq_3 128 (by decide +kernel) rfl), (gq_3 129 (by decide +kernel) rfl), _, rfl, rfl⟩
set_option maxRecDepth 20000 in
theorem yw_X11_agree : YV yX11_agree cX11_agree 1 (some .boolean) 0 11 := ⟨⟨(gq_3 149 rfl rfl), (gq_1 1 (by decide +kernel) rfl), by decide +kernel, by decide⟩, (gq_3 148 (by decide +kernel) rfl), (gp_1 1 (by decide +kernel) rfl), _, rfl, rfl⟩
set_option maxRecDepth 20000 in
theorem yw_X11_refuse : YV yX11_refuse cX11_refuse 2 (some .boolean) 1 11 := ⟨⟨(gq_3 141 rfl rfl), (gq_1 1 (by decide +kernel) rfl), by decide +kernel, by decide⟩, (gq_3 140 (by decide +kernel) rfl), (gp_1 0 (by decide +kernel) rfl), _, rfl, rfl⟩
set_option maxRecDepth 20000 in
theorem yw_X11_isTray : YS yX11_isTray cX11_isTray 1 (some .boolean) 1 := ⟨⟨(gq_3 137 rfl rfl), (gq_1 1 (by decide +kernel) rfl), by decide +kernel, by decide⟩, (gq_3 136 (by decide +kernel) rfl)⟩
set_option maxRecDepth 20000 in
theorem yw_X11_tray : YV yX11_tray cX11_tray 4 (some .boolean) 3 11 := ⟨⟨(gq_3 134 rfl rfl), (gq_1 1 (by decide +kernel) rfl), by decide +kernel, by decide⟩, (gq_3 132 (by decide +kernel) rfl), (gq_3 133 (by decide +kernel) rfl), _, rfl, rfl⟩
set_option maxRecDepth 20000 in
theorem yw_X11_wrongPlace : YV yX11_wrongPlace cX11_wrongPlace 3 (some .int) 2 11 := ⟨⟨(gq_3 157 rfl rfl), (gq_1 1 (by decide +kernel) rfl), by decide +kernel, by decide⟩, (gq_3 156 (by decide +kernel) rfl), (gp_1 2 (by decide +kernel) rfl), _, rfl, rfl⟩
set_option maxRecDepth 20000 in
theorem yw_X11_write : YV yX11_write cX11_write 6 (some .boolean) 3 11 := ⟨⟨(gq_3 153 rfl rfl), (gq_1 1 (by decide +kernel) rfl), by decide +kernel, by decide⟩, (gq_3 151 (by decide +kernel) rfl), (gq_3 152 (by decide +kernel) rfl), _, rfl, rfl⟩
set_option maxRecDepth 20000 in
theorem yw_X11_no : YV yX11_no cX11_no 2 (some .int) 1 11 := ⟨⟨(gq_3 178 rfl rfl), (gq_1 1 (by decide +kernel) rfl), by decide +kernel, by decide⟩, (gq_3 177 (by decide +kernel) rfl), (gp_1 4 (by decide +kernel) rfl), _, rfl, rfl⟩
set_option maxRecDepth 20000 in
theorem yw_X11_read : YV yX11_read cX11_read 4 (some .long) 2 11 := ⟨⟨(gq_3 174 rfl rfl), (gq_1 1 (by decide +kernel) rfl), by decide +kernel, by decide⟩, (gq_3 172 (by decide +kernel) rfl), (gq_3 173 (by decide +kernel) rfl), _, rfl, rfl⟩
set_option maxRecDepth 20000 in
theorem yw_X11_pour : YV yX11_pour cX11_pour 8 (some .boolean) 5 11 := ⟨⟨(gq_3 187 rfl rfl), (gq_1 1 (by decide +kernel) rfl), by decide +kernel, by decide⟩, (gq_3 185 (by decide +kernel) rfl), (gq_3 186 (by decide +kernel) rfl), _, rfl, rfl⟩
set_option maxRecDepth 20000 in
theorem yw_X11_feed : YV yX11_feed cX11_feed 6 (some .int) 5 11 := ⟨⟨(gq_3 194 rfl rfl), (gq_1 1 (by decide +kernel) rfl), by decide +kernel, by decide⟩, (gq_3 192 (by decide +kernel) rfl), (gq_3 193 (by decide +kernel) rfl), _, rfl, rfl⟩
set_option maxRecDepth 20000 in
theorem yw_X11_yes : YV yX11_yes cX11_yes 2 (some .int) 1 11 := ⟨⟨(gq_4 137 rfl rfl), (gq_1 1 (by decide +kernel) rfl), by decide +kernel, by decide⟩, (gq_4 136 (by decide +kernel) rfl), (gp_2 3 (by decide +kernel) rfl), _, rfl, rfl⟩
set_option maxRecDepth 20000 in
theorem yw_X11_keepFault : YV yX11_keepFault cX11_keepFault 1 none 0 11 := ⟨⟨(gq_4 117 rfl rfl), (gq_1 1 (by decide +kernel) rfl), by decide +kernel, by decide⟩, (gq_4 116 (by decide +kernel) rfl), (gp_2 2 (by decide +kernel) rfl), _, rfl, rfl⟩
set_option maxRecDepth 20000 in
theorem yw_X11_park : YV yX11_park cX11_park 3 (some .int) 1 11 := ⟨⟨(gq_3 207 rfl rfl), (gq_1 1 (by decide +kernel) rfl), by decide +kernel, by decide⟩, (gq_3 205 (by decide +kernel) rfl), (gq_3 206 (by decide +kernel) rfl), _, rfl, rfl⟩
set_option maxRecDepth 20000 in
theorem yw_X11_evenings : YV yX11_evenings cX11_evenings 3 (some .int) 1 11 := ⟨⟨(gq_4 141 rfl rfl), (gq_1 1 (by decide +kernel) rfl), by decide +kernel, by decide⟩, (gq_4 139 (by decide +kernel) rfl), (gq_4 140 (by decide +kernel) rfl), _, rfl, rfl⟩
set_option maxRecDepth 20000 in
theorem yw_X11_fault : YV yX11_fault cX11_fault 2 (some .int) 1 11 := ⟨⟨(gq_4 191 rfl rfl), (gq_1 1 (by decide +kernel) rfl), by decide +kernel, by decide⟩, (gq_4 189 (by decide +kernel) rfl), (gq_4 190 (by decide +kernel) rfl), _, rfl, rfl⟩
set_option maxRecDepth 20000 in
theorem yw_X11_many : YV yX11_many cX11_many 3 (some .int) 1 11 := ⟨⟨(gq_4 195 rfl rfl), (gq_1 1 (by decide +kernel) rfl), by decide +kernel, by decide⟩, (gq_4 193 (by decide +kernel) rfl), (gq_4 194 (by decide +kernel) rfl), _, rfl, rfl⟩
set_option maxRecDepth 20000 in
theorem yw_X11_tune : YV yX11_tune cX11_tune 4 (some .int) 2 11 := ⟨⟨(gq_5 13 rfl rfl), (gq_1 1 (by decide +kernel) rfl), by decide +kernel, by decide⟩, (gq_5 11 (by decide +kernel) rfl), (gq_5 12 (by decide +kernel) rfl), _, rfl, rfl⟩
set_option maxRecDepth 20000 in
theorem yw_X11_band : YV yX11_band cX11_band 4 (some .int) 2 11 := ⟨⟨(gq_5 18 rfl rfl), (gq_1 1 (by decide +kernel) rfl), by decide +kernel, by decide⟩, (gq_5 16 (by decide +kernel) rfl), (gq_5 17 (by decide +kernel) rfl), _, rfl, rfl⟩
set_option maxRecDepth 20000 in
theorem yw_X11_entry : YV yX11_entry cX11_entry 4 (some .int) 2 11 := ⟨⟨(gq_5 26 rfl rfl), (gq_1 1 (by decide +kernel) rfl), by decide +kernel, by decide⟩, (gq_5 24 (by decide +kernel) rfl), (gq_5 25 (by decide +kernel) rfl), _, rfl, rfl⟩
set_option maxRecDepth 20000 in
theorem yw_X11_pond : YV yX11_pond cX11_pond 4 (some .int) 2 11 := ⟨⟨(gq_5 30 rfl rfl), (gq_1 1 (by decide +kernel) rfl), by decide +kernel, by decide⟩, (gq_5 28 (by decide +kernel) rfl), (gq_5 29 (by decide +kernel) rfl), _, rfl, rfl⟩
set_option maxRecDepth 20000 in
theorem yw_X11_hour : YV yX11_hour cX11_hour 2 (some .int) 1 11 := ⟨⟨(gq_5 35 rfl rfl), (gq_1 1 (by decide +kernel) rfl), by decide +kernel, by decide⟩, (gq_5 33 (by decide +kernel) rfl), (gq_5 34 (by decide +kernel) rfl), _, rfl, rfl⟩
set_option maxRecDepth 20000 in
theorem yw_X11_wind : YV yX11_wind cX11_wind 2 (some .boolean) 1 11 := ⟨⟨(gq_5 70 rfl rfl), (gq_1 1 (by decide +kernel) rfl), by decide +kernel, by decide⟩, (gq_5 68 (by decide +kernel) rfl), (gq_5 69 (by decide +kernel) rfl), _, rfl, rfl⟩
set_option maxRecDepth 20000 in
theorem yw_X11_rain : YV yX11_rain cX11_rain 2 (some .boolean) 1 11 := ⟨⟨(gq_5 78 rfl rfl), (gq_1 1 (by decide +kernel) rfl), by decide +kernel, by decide⟩, (gq_5 76 (by decide +kernel) rfl), (gq_5 77 (by decide +kernel) rfl), _, rfl, rfl⟩
set_option maxRecDepth 20000 in
theorem yw_X11_set : YV yX11_set cX11_set 5 (some .int) 3 11 := ⟨⟨(gq_5 86 rfl rfl), (gq_1 1 (by decide +kernel) rfl), by decide +kernel, by decide⟩, (gq_5 84 (by decide +kernel) rfl), (gq_5 85 (by decide +kernel) rfl), _, rfl, rfl⟩
set_option maxRecDepth 20000 in
theorem yw_X11_drop : YV yX11_drop cX11_drop 3 (some .int) 1 11 := ⟨⟨(gq_5 95 rfl rfl), (gq_1 1 (by decide +kernel) rfl), by decide +kernel, by decide⟩, (gq_5 93 (by decide +kernel) rfl), (gq_5 94 (by decide +kernel) rfl), _, rfl, rfl⟩
set_option maxRecDepth 20000 in
theorem yw_X11_move : YV yX11_move cX11_move 4 (some .boolean) 3 11 := ⟨⟨(gq_5 99 rfl rfl), (gq_1 1 (by decide +kernel) rfl), by decide +kernel, by decide⟩, (gq_5 97 (by decide +kernel) rfl), (gq_5 98 (by decide +kernel) rfl), _, rfl, rfl⟩
set_option maxRecDepth 20000 in
theorem yw_X11_train : YV yX11_train cX11_train 3 (some .boolean) 2 11 := ⟨⟨(gq_5 109 rfl rfl), (gq_1 1 (by decide +kernel) rfl), by decide +kernel, by decide⟩, (gq_5 107 (by decide +kernel) rfl), (gq_5 108 (by decide +kernel) rfl), _, rfl, rfl⟩
set_option maxRecDepth 20000 in
theorem yw_X11_soothe : YV yX11_soothe cX11_soothe 4 (some .boolean) 2 11 := ⟨⟨(gq_5 113 rfl rfl), (gq_1 1 (by decide +kernel) rfl), by decide +kernel, by decide⟩, (gq_5 111 (by decide +kernel) rfl), (gq_5 112 (by decide +kernel) rfl), _, rfl, rfl⟩
set_option maxRecDepth 20000 in
theorem yw_X11_rule : YV yX11_rule cX11_rule 3 (some .boolean) 2 11 := ⟨⟨(gq_5 117 rfl rfl), (gq_1 1 (by decide +kernel) rfl), by decide +kernel, by decide⟩, (gq_5 115 (by decide +kernel) rfl), (gq_5 116 (by decide +kernel) rfl), _, rfl, rfl⟩
set_option maxRecDepth 20000 in
theorem yw_X11_dig : YV yX11_dig cX11_dig 5 (some .boolean) 3 11 := ⟨⟨(gq_5 125 rfl rfl), (gq_1 1 (by decide +kernel) rfl), by decide +kernel, by decide⟩, (gq_5 123 (by decide +kernel) rfl), (gq_5 124 (by decide +kernel) rfl), _, rfl, rfl⟩
set_option maxRecDepth 20000 in
theorem yw_X11_plays : YV yX11_plays cX11_plays 2 (some .int) 1 11 := ⟨⟨(gq_5 129 rfl rfl), (gq_1 1 (by decide +kernel) rfl), by decide +kernel, by decide⟩, (gq_5 127 (by decide +kernel) rfl), (gq_5 128 (by decide +kernel) rfl), _, rfl, rfl⟩
set_option maxRecDepth 20000 in
theorem yw_X11_heard : YV yX11_heard cX11_heard 6 (some .int) 4 11 := ⟨⟨(gq_5 138 rfl rfl), (gq_1 1 (by decide +kernel) rfl), by decide +kernel, by decide⟩, (gq_5 136 (by decide +kernel) rfl), (gq_5 137 (by decide +kernel) rfl), _, rfl, rfl⟩
set_option maxRecDepth 20000 in
theorem yw_X11_loudest : YV yX11_loudest cX11_loudest 4 (some .int) 2 11 := ⟨⟨(gq_5 147 rfl rfl), (gq_1 1 (by decide +kernel) rfl), by decide +kernel, by decide⟩, (gq_5 145 (by decide +kernel) rfl), (gq_5 146 (by decide +kernel) rfl), _, rfl, rfl⟩
set_option maxRecDepth 20000 in
theorem yw_X11_tellHolder : YV yX11_tellHolder cX11_tellHolder 2 (some .int) 1 11 := ⟨⟨(gq_5 168 rfl rfl), (gq_1 1 (by decide +kernel) rfl), by decide +kernel, by decide⟩, (gq_5 167 (by decide +kernel) rfl), (gp_2 10 (by decide +kernel) rfl), _, rfl, rfl⟩
set_option maxRecDepth 20000 in
theorem yw_X11_holder : YV yX11_holder cX11_holder 4 (some .int) 2 11 := ⟨⟨(gq_5 160 rfl rfl), (gq_1 1 (by decide +kernel) rfl), by decide +kernel, by decide⟩, (gq_5 158 (by decide +kernel) rfl), (gq_5 159 (by decide +kernel) rfl), _, rfl, rfl⟩
set_option maxRecDepth 20000 in
theorem yw_X11_lawns : YV yX11_lawns cX11_lawns 2 (some .int) 1 11 := ⟨⟨(gq_5 172 rfl rfl), (gq_1 1 (by decide +kernel) rfl), by decide +kernel, by decide⟩, (gq_5 170 (by decide +kernel) rfl), (gq_5 171 (by decide +kernel) rfl), _, rfl, rfl⟩
set_option maxRecDepth 20000 in
theorem yw_X11_commonDivisor : YS yX11_commonDivisor cX11_commonDivisor 11 (some .long) 2 := ⟨⟨(gq_5 195 rfl rfl), (gq_1 1 (by decide +kernel) rfl), by decide +kernel, by decide⟩, (gq_5 194 (by decide +kernel) rfl)⟩
set_option maxRecDepth 20000 in
theorem yw_X11_tellFraction : YV yX11_tellFraction cX11_tellFraction 7 (some .boolean) 2 11 := ⟨⟨(gq_5 192 rfl rfl), (gq_1 1 (by decide +kernel) rfl), by decide +kernel, by decide⟩, (gq_5 191 (by decide +kernel) rfl), (gp_2 11 (by decide +kernel) rfl), _, rfl, rfl⟩
set_option maxRecDepth 20000 in
theorem yw_X11_ponds : YV yX11_ponds cX11_ponds 3 (some .boolean) 1 11 := ⟨⟨(gq_5 184 rfl rfl), (gq_1 1 (by decide +kernel) rfl), by decide +kernel, by decide⟩, (gq_5 182 (by decide +kernel) rfl), (gq_5 183 (by decide +kernel) rfl), _, rfl, rfl⟩
set_option maxRecDepth 20000 in
theorem yw_X11_copyHeld : YV yX11_copyHeld cX11_copyHeld 5 (some .int) 1 11 := ⟨⟨(gq_5 199 rfl rfl), (gq_1 1 (by decide +kernel) rfl), by decide +kernel, by decide⟩, (gq_5 197 (by decide +kernel) rfl), (gq_5 198 (by decide +kernel) rfl), _, rfl, rfl⟩
set_option maxRecDepth 20000 in
theorem yw_X11_isAhead : YS yX11_isAhead cX11_isAhead 1 (some .boolean) 1 := ⟨⟨(gq_5 207 rfl rfl), (gq_1 1 (by decide +kernel) rfl), by decide +kernel, by decide⟩, (gq_5 206 (by decide +kernel) rfl)⟩
set_option maxRecDepth 20000 in
theorem yw_X11_lookAhead : YV yX11_lookAhead cX11_lookAhead 2 none 1 11 := ⟨⟨(gq_5 211 rfl rfl), (gq_1 1 (by decide +kernel) rfl), by decide +kernel, by decide⟩, (gq_5 210 (by decide +kernel) rfl), (gp_2 12 (by decide +kernel) rfl), _, rfl, rfl⟩
set_option maxRecDepth 20000 in
theorem yw_X11_holderIn : YV yX11_holderIn cX11_holderIn 5 (some .int) 3 11 := ⟨⟨(gq_5 204 rfl rfl), (gq_1 1 (by decide +kernel) rfl), by decide +kernel, by decide⟩, (gq_5 202 (by decide +kernel) rfl), (gq_5 203 (by decide +kernel) rfl), _, rfl, rfl⟩
set_option maxRecDepth 20000 in
theorem yw_X11_pointsIn : YV yX11_pointsIn cX11_pointsIn 3 (some .int) 2 11 := ⟨⟨(gq_5 215 rfl rfl), (gq_1 1 (by decide +kernel) rfl), by decide +kernel, by decide⟩, (gq_5 213 (by decide +kernel) rfl), (gq_5 214 (by decide +kernel) rfl), _, rfl, rfl⟩
set_option maxRecDepth 20000 in
theorem yw_X11_lipsIn : YV yX11_lipsIn cX11_lipsIn 3 (some .int) 2 11 := ⟨⟨(gq_5 219 rfl rfl), (gq_1 1 (by decide +kernel) rfl), by decide +kernel, by decide⟩, (gq_5 217 (by decide +kernel) rfl), (gq_5 218 (by decide +kernel) rfl), _, rfl, rfl⟩
set_option maxRecDepth 20000 in
theorem yw_X11_tiredIn : YV yX11_tiredIn cX11_tiredIn 3 (some .int) 1 11 := ⟨⟨(gq_5 223 rfl rfl), (gq_1 1 (by decide +kernel) rfl), by decide +kernel, by decide⟩, (gq_5 221 (by decide +kernel) rfl), (gq_5 222 (by decide +kernel) rfl), _, rfl, rfl⟩
set_option maxRecDepth 20000 in
theorem yw_X11_changesIn : YV yX11_changesIn cX11_changesIn 6 (some .int) 2 11 := ⟨⟨(gq_5 227 rfl rfl), (gq_1 1 (by decide +kernel) rfl), by decide +kernel, by decide⟩, (gq_5 225 (by decide +kernel) rfl), (gq_5 226 (by decide +kernel) rfl), _, rfl, rfl⟩
set_option maxRecDepth 20000 in
theorem yw_X11_wrongHolding : YV yX11_wrongHolding cX11_wrongHolding 5 (some .int) 4 11 := ⟨⟨(gq_5 235 rfl rfl), (gq_1 1 (by decide +kernel) rfl), by decide +kernel, by decide⟩, (gq_5 234 (by decide +kernel) rfl), (gp_2 13 (by decide +kernel) rfl), _, rfl, rfl⟩
set_option maxRecDepth 20000 in
theorem yw_X11_holding : YV yX11_holding cX11_holding 6 (some .int) 4 11 := ⟨⟨(gq_5 231 rfl rfl), (gq_1 1 (by decide +kernel) rfl), by decide +kernel, by decide⟩, (gq_5 229 (by decide +kernel) rfl), (gq_5 230 (by decide +kernel) rfl), _, rfl, rfl⟩
set_option maxRecDepth 20000 in
theorem yw_X11_holdingAt : YV yX11_holdingAt cX11_holdingAt 7 (some .int) 5 11 := ⟨⟨(gq_6 26 rfl rfl), (gq_1 1 (by decide +kernel) rfl), by decide +kernel, by decide⟩, (gq_6 24 (by decide +kernel) rfl), (gq_6 25 (by decide +kernel) rfl), _, rfl, rfl⟩
set_option maxRecDepth 20000 in
theorem yw_X11_wrongBest : YV yX11_wrongBest cX11_wrongBest 2 (some .int) 1 11 := ⟨⟨(gq_6 34 rfl rfl), (gq_1 1 (by decide +kernel) rfl), by decide +kernel, by decide⟩, (gq_6 33 (by decide +kernel) rfl), (gp_3 1 (by decide +kernel) rfl), _, rfl, rfl⟩
set_option maxRecDepth 20000 in
theorem yw_X11_best : YV yX11_best cX11_best 3 (some .int) 1 11 := ⟨⟨(gq_6 30 rfl rfl), (gq_1 1 (by decide +kernel) rfl), by decide +kernel, by decide⟩, (gq_6 28 (by decide +kernel) rfl), (gq_6 29 (by decide +kernel) rfl), _, rfl, rfl⟩
set_option maxRecDepth 20000 in
theorem yw_X11_bestLawns : YV yX11_bestLawns cX11_bestLawns 3 (some .int) 1 11 := ⟨⟨(gq_6 52 rfl rfl), (gq_1 1 (by decide +kernel) rfl), by decide +kernel, by decide⟩, (gq_6 50 (by decide +kernel) rfl), (gq_6 51 (by decide +kernel) rfl), _, rfl, rfl⟩
set_option maxRecDepth 20000 in
theorem yw_X11_low : YV yX11_low cX11_low 6 (some .int) 3 11 := ⟨⟨(gq_6 57 rfl rfl), (gq_1 1 (by decide +kernel) rfl), by decide +kernel, by decide⟩, (gq_6 55 (by decide +kernel) rfl), (gq_6 56 (by decide +kernel) rfl), _, rfl, rfl⟩
set_option maxRecDepth 20000 in
theorem yw_X11_wrongGame : YV yX11_wrongGame cX11_wrongGame 4 (some .int) 3 11 := ⟨⟨(gq_6 70 rfl rfl), (gq_1 1 (by decide +kernel) rfl), by decide +kernel, by decide⟩, (gq_6 69 (by decide +kernel) rfl), (gp_3 3 (by decide +kernel) rfl), _, rfl, rfl⟩
set_option maxRecDepth 20000 in
theorem yw_X11_game : YV yX11_game cX11_game 5 (some .int) 3 11 := ⟨⟨(gq_6 66 rfl rfl), (gq_1 1 (by decide +kernel) rfl), by decide +kernel, by decide⟩, (gq_6 64 (by decide +kernel) rfl), (gq_6 65 (by decide +kernel) rfl), _, rfl, rfl⟩
set_option maxRecDepth 20000 in
theorem yw_X11_moveOf : YV yX11_moveOf cX11_moveOf 6 (some .int) 3 11 := ⟨⟨(gq_6 85 rfl rfl), (gq_1 1 (by decide +kernel) rfl), by decide +kernel, by decide⟩, (gq_6 83 (by decide +kernel) rfl), (gq_6 84 (by decide +kernel) rfl), _, rfl, rfl⟩
set_option maxRecDepth 20000 in
theorem yw_X11_ally : YV yX11_ally cX11_ally 2 (some .int) 1 11 := ⟨⟨(gq_6 94 rfl rfl), (gq_1 1 (by decide +kernel) rfl), by decide +kernel, by decide⟩, (gq_6 92 (by decide +kernel) rfl), (gq_6 93 (by decide +kernel) rfl), _, rfl, rfl⟩
set_option maxRecDepth 20000 in
theorem yw_X11_stable : YV yX11_stable cX11_stable 2 (some .int) 1 11 := ⟨⟨(gq_6 107 rfl rfl), (gq_1 1 (by decide +kernel) rfl), by decide +kernel, by decide⟩, (gq_6 105 (by decide +kernel) rfl), (gq_6 106 (by decide +kernel) rfl), _, rfl, rfl⟩
set_option maxRecDepth 20000 in
theorem yw_X11_alliance : YV yX11_alliance cX11_alliance 2 (some .int) 0 11 := ⟨⟨(gq_6 118 rfl rfl), (gq_1 1 (by decide +kernel) rfl), by decide +kernel, by decide⟩, (gq_6 116 (by decide +kernel) rfl), (gq_6 117 (by decide +kernel) rfl), _, rfl, rfl⟩
set_option maxRecDepth 20000 in
theorem yw_X11_firstBeat : YS yX11_firstBeat cX11_firstBeat 6 (some .int) 4 := ⟨⟨(gq_6 133 rfl rfl), (gq_1 1 (by decide +kernel) rfl), by decide +kernel, by decide⟩, (gq_6 132 (by decide +kernel) rfl)⟩
set_option maxRecDepth 20000 in
theorem yw_X11_isLate : YS yX11_isLate cX11_isLate 1 (some .boolean) 1 := ⟨⟨(gq_6 130 rfl rfl), (gq_1 1 (by decide +kernel) rfl), by decide +kernel, by decide⟩, (gq_6 129 (by decide +kernel) rfl)⟩
set_option maxRecDepth 20000 in
theorem yw_X11_together : YV yX11_together cX11_together 6 (some .int) 4 11 := ⟨⟨(gq_6 127 rfl rfl), (gq_1 1 (by decide +kernel) rfl), by decide +kernel, by decide⟩, (gq_6 125 (by decide +kernel) rfl), (gq_6 126 (by decide +kernel) rfl), _, rfl, rfl⟩
set_option maxRecDepth 20000 in
theorem yw_X11_wrongFits : YV yX11_wrongFits cX11_wrongFits 6 (some .int) 3 11 := ⟨⟨(gq_6 141 rfl rfl), (gq_1 1 (by decide +kernel) rfl), by decide +kernel, by decide⟩, (gq_6 140 (by decide +kernel) rfl), (gp_3 4 (by decide +kernel) rfl), _, rfl, rfl⟩
set_option maxRecDepth 20000 in
theorem yw_X11_fits : YV yX11_fits cX11_fits 7 (some .int) 3 11 := ⟨⟨(gq_6 137 rfl rfl), (gq_1 1 (by decide +kernel) rfl), by decide +kernel, by decide⟩, (gq_6 135 (by decide +kernel) rfl), (gq_6 136 (by decide +kernel) rfl), _, rfl, rfl⟩
set_option maxRecDepth 20000 in
theorem yw_X11_fitsAt : YV yX11_fitsAt cX11_fitsAt 9 (some .int) 4 11 := ⟨⟨(gq_6 152 rfl rfl), (gq_1 1 (by decide +kernel) rfl), by decide +kernel, by decide⟩, (gq_6 150 (by decide +kernel) rfl), (gq_6 151 (by decide +kernel) rfl), _, rfl, rfl⟩
set_option maxRecDepth 20000 in
theorem yw_X11_quiet : YV yX11_quiet cX11_quiet 7 (some .int) 4 11 := ⟨⟨(gq_6 156 rfl rfl), (gq_1 1 (by decide +kernel) rfl), by decide +kernel, by decide⟩, (gq_6 154 (by decide +kernel) rfl), (gq_6 155 (by decide +kernel) rfl), _, rfl, rfl⟩
set_option maxRecDepth 20000 in
theorem yw_X11_quietSteps : YV yX11_quietSteps cX11_quietSteps 8 (some .int) 4 11 := ⟨⟨(gq_6 174 rfl rfl), (gq_1 1 (by decide +kernel) rfl), by decide +kernel, by decide⟩, (gq_6 172 (by decide +kernel) rfl), (gq_6 173 (by decide +kernel) rfl), _, rfl, rfl⟩
set_option maxRecDepth 20000 in
theorem yw_X11_power : YS yX11_power cX11_power 6 (some .long) 2 := ⟨⟨(gq_6 182 rfl rfl), (gq_1 1 (by decide +kernel) rfl), by decide +kernel, by decide⟩, (gq_6 181 (by decide +kernel) rfl)⟩
set_option maxRecDepth 20000 in
theorem yw_X11_choose : YS yX11_choose cX11_choose 5 (some .long) 2 := ⟨⟨(gq_6 185 rfl rfl), (gq_1 1 (by decide +kernel) rfl), by decide +kernel, by decide⟩, (gq_6 184 (by decide +kernel) rfl)⟩
set_option maxRecDepth 20000 in
theorem yw_X11_wet : YV yX11_wet cX11_wet 8 (some .boolean) 2 11 := ⟨⟨(gq_6 179 rfl rfl), (gq_1 1 (by decide +kernel) rfl), by decide +kernel, by decide⟩, (gq_6 177 (by decide +kernel) rfl), (gq_6 178 (by decide +kernel) rfl), _, rfl, rfl⟩
set_option maxRecDepth 20000 in
theorem yw_X11_live : YV yX11_live cX11_live 2 (some .int) 1 11 := ⟨⟨(gq_6 190 rfl rfl), (gq_1 1 (by decide +kernel) rfl), by decide +kernel, by decide⟩, (gq_6 188 (by decide +kernel) rfl), (gq_6 189 (by decide +kernel) rfl), _, rfl, rfl⟩
set_option maxRecDepth 20000 in
theorem yw_X11_lived : YV yX11_lived cX11_lived 2 (some .int) 1 11 := ⟨⟨(gq_6 233 rfl rfl), (gq_1 1 (by decide +kernel) rfl), by decide +kernel, by decide⟩, (gq_6 231 (by decide +kernel) rfl), (gq_6 232 (by decide +kernel) rfl), _, rfl, rfl⟩
set_option maxRecDepth 20000 in
theorem yw_X11_mean : YV yX11_mean cX11_mean 7 (some .boolean) 3 11 := ⟨⟨(gq_6 237 rfl rfl), (gq_1 1 (by decide +kernel) rfl), by decide +kernel, by decide⟩, (gq_6 235 (by decide +kernel) rfl), (gq_6 236 (by decide +kernel) rfl), _, rfl, rfl⟩
set_option maxRecDepth 20000 in
theorem yw_X11_mark : YV yX11_mark cX11_mark 1 (some .int) 0 11 := ⟨⟨(gq_7 1 rfl rfl), (gq_1 1 (by decide +kernel) rfl), by decide +kernel, by decide⟩, (gq_6 239 (by decide +kernel) rfl), (gq_7 0 (by decide +kernel) rfl), _, rfl, rfl⟩
set_option maxRecDepth 20000 in
theorem yw_X11_back : YV yX11_back cX11_back 1 (some .int) 0 11 := ⟨⟨(gq_7 5 rfl rfl), (gq_1 1 (by decide +kernel) rfl), by decide +kernel, by decide⟩, (gq_7 3 (by decide +kernel) rfl), (gq_7 4 (by decide +kernel) rfl), _, rfl, rfl⟩
set_option maxRecDepth 20000 in
theorem yw_X12_status : YV yX12_status cX12_status 1 (some .int) 0 12 := ⟨⟨(gq_7 155 rfl rfl), (gq_1 17 (by decide +kernel) rfl), by decide +kernel, by decide⟩, (gq_7 153 (by decide +kernel) rfl), (gq_7 154 (by decide +kernel) rfl), _, rfl, rfl⟩
set_option maxRecDepth 20000 in
theorem yw_X12_top : YV yX12_top cX12_top 1 (some .long) 0 12 := ⟨⟨(gq_7 159 rfl rfl), (gq_1 17 (by decide +kernel) rfl), by decide +kernel, by decide⟩, (gq_7 157 (by decide +kernel) rfl), (gq_7 158 (by decide +kernel) rfl), _, rfl, rfl⟩
set_option maxRecDepth 20000 in
theorem yw_X12_bottom : YV yX12_bottom cX12_bottom 1 (some .long) 0 12 := ⟨⟨(gq_7 163 rfl rfl), (gq_1 17 (by decide +kernel) rfl), by decide +kernel, by decide⟩, (gq_7 161 (by decide +kernel) rfl), (gq_7 162 (by decide +kernel) rfl), _, rfl, rfl⟩
set_option maxRecDepth 20000 in
theorem yw_X12_refuse : YV yX12_refuse cX12_refuse 2 (some .int) 1 12 := ⟨⟨(gq_8 213 rfl rfl), (gq_1 17 (by decide +kernel) rfl), by decide +kernel, by decide⟩, (gq_8 212 (by decide +kernel) rfl), (gp_7 4 (by decide +kernel) rfl), _, rfl, rfl⟩
set_option maxRecDepth 20000 in
theorem yw_X12_no : YV yX12_no cX12_no 2 (some .boolean) 1 12 := ⟨⟨(gq_7 171 rfl rfl), (gq_1 17 (by decide +kernel) rfl), by decide +kernel, by decide⟩, (gq_7 170 (by decide +kernel) rfl), (gp_3 12 (by decide +kernel) rfl), _, rfl, rfl⟩
set_option maxRecDepth 20000 in
theorem yw_X12_isIn : YS yX12_isIn cX12_isIn 6 (some .boolean) 3 := ⟨⟨(gq_8 36 rfl rfl), (gq_1 17 (by decide +kernel) rfl), by decide +kernel, by decide⟩, (gq_8 35 (by decide +kernel) rfl)⟩
set_option maxRecDepth 20000 in
theorem yw_X12_fraction : YV yX12_fraction cX12_fraction 11 (some .boolean) 2 12 := ⟨⟨(gq_9 139 rfl rfl), (gq_1 17 (by decide +kernel) rfl), by decide +kernel, by decide⟩, (gq_9 138 (by decide +kernel) rfl), (gp_8 7 (by decide +kernel) rfl), _, rfl, rfl⟩
set_option maxRecDepth 20000 in
theorem yw_X12_cut : YS yX12_cut cX12_cut 3 (some .long) 2 := ⟨⟨(gq_7 186 rfl rfl), (gq_1 17 (by decide +kernel) rfl), by decide +kernel, by decide⟩, (gq_7 185 (by decide +kernel) rfl)⟩
set_option maxRecDepth 20000 in
theorem yw_X12_tray : YV yX12_tray cX12_tray 5 (some .boolean) 3 12 := ⟨⟨(gq_7 167 rfl rfl), (gq_1 17 (by decide +kernel) rfl), by decide +kernel, by decide⟩, (gq_7 165 (by decide +kernel) rfl), (gq_7 166 (by decide +kernel) rfl), _, rfl, rfl⟩
set_option maxRecDepth 20000 in
theorem yw_X12_trayed : YV yX12_trayed cX12_trayed 2 (some .int) 1 12 := ⟨⟨(gq_7 183 rfl rfl), (gq_1 17 (by decide +kernel) rfl), by decide +kernel, by decide⟩, (gq_7 182 (by decide +kernel) rfl), (gp_3 14 (by decide +kernel) rfl), _, rfl, rfl⟩
set_option maxRecDepth 20000 in
theorem yw_X12_placed : YV yX12_placed cX12_placed 4 (some .int) 2 12 := ⟨⟨(gq_7 179 rfl rfl), (gq_1 17 (by decide +kernel) rfl), by decide +kernel, by decide⟩, (gq_7 178 (by decide +kernel) rfl), (gp_3 13 (by decide +kernel) rfl), _, rfl, rfl⟩
set_option maxRecDepth 20000 in
theorem yw_X12_write : YV yX12_write cX12_write 5 (some .boolean) 3 12 := ⟨⟨(gq_7 175 rfl rfl), (gq_1 17 (by decide +kernel) rfl), by decide +kernel, by decide⟩, (gq_7 173 (by decide +kernel) rfl), (gq_7 174 (by decide +kernel) rfl), _, rfl, rfl⟩
set_option maxRecDepth 20000 in
theorem yw_X12_read : YV yX12_read cX12_read 3 (some .long) 2 12 := ⟨⟨(gq_7 190 rfl rfl), (gq_1 17 (by decide +kernel) rfl), by decide +kernel, by decide⟩, (gq_7 188 (by decide +kernel) rfl), (gq_7 189 (by decide +kernel) rfl), _, rfl, rfl⟩
set_option maxRecDepth 20000 in
theorem yw_X12_pour : YV yX12_pour cX12_pour 9 (some .boolean) 5 12 := ⟨⟨(gq_7 195 rfl rfl), (gq_1 17 (by decide +kernel) rfl), by decide +kernel, by decide⟩, (gq_7 193 (by decide +kernel) rfl), (gq_7 194 (by decide +kernel) rfl), _, rfl, rfl⟩
set_option maxRecDepth 20000 in
theorem yw_X12_numberOf : YV yX12_numberOf cX12_numberOf 3 (some .long) 2 12 := ⟨⟨(gq_10 65 rfl rfl), (gq_1 17 (by decide +kernel) rfl), by decide +kernel, by decide⟩, (gq_10 64 (by decide +kernel) rfl), (gp_9 10 (by decide +kernel) rfl), _, rfl, rfl⟩
set_option maxRecDepth 20000 in
theorem yw_X12_isTray : YV yX12_isTray cX12_isTray 2 (some .boolean) 1 12 := ⟨⟨(gq_9 150 rfl rfl), (gq_1 17 (by decide +kernel) rfl), by decide +kernel, by decide⟩, (gq_9 149 (by decide +kernel) rfl), (gp_8 8 (by decide +kernel) rfl), _, rfl, rfl⟩
set_option maxRecDepth 20000 in
theorem yw_X12_has : YS yX12_has cX12_has 2 (some .boolean) 2 := ⟨⟨(gq_8 21 rfl rfl), (gq_1 17 (by decide +kernel) rfl), by decide +kernel, by decide⟩, (gq_8 20 (by decide +kernel) rfl)⟩
set_option maxRecDepth 20000 in
theorem yw_X12_sizeOf : YS yX12_sizeOf cX12_sizeOf 3 (some .int) 1 := ⟨⟨(gq_10 41 rfl rfl), (gq_1 17 (by decide +kernel) rfl), by decide +kernel, by decide⟩, (gq_10 40 (by decide +kernel) rfl)⟩
set_option maxRecDepth 20000 in
theorem yw_X12_look2 : YV yX12_look2 cX12_look2 2 (some .int) 1 12 := ⟨⟨(gq_7 223 rfl rfl), (gq_1 17 (by decide +kernel) rfl), by decide +kernel, by decide⟩, (gq_7 222 (by decide +kernel) rfl), (gp_4 2 (by decide +kernel) rfl), _, rfl, rfl⟩
set_option maxRecDepth 20000 in
theorem yw_X12_isLetter : YS yX12_isLetter cX12_isLetter 1 (some .boolean) 1 := ⟨⟨(gq_7 226 rfl rfl), (gq_1 17 (by decide +kernel) rfl), by decide +kernel, by decide⟩, (gq_7 225 (by decide +kernel) rfl)⟩
set_option maxRecDepth 20000 in
theorem yw_X12_isDigit : YS yX12_isDigit cX12_isDigit 1 (some .boolean) 1 := ⟨⟨(gq_7 231 rfl rfl), (gq_1 17 (by decide +kernel) rfl), by decide +kernel, by decide⟩, (gq_7 230 (by decide +kernel) rfl)⟩
set_option maxRecDepth 20000 in
theorem yw_X12_isSignByte : YV yX12_isSignByte cX12_isSignByte 2 (some .boolean) 1 12 := ⟨⟨(gq_7 235 rfl rfl), (gq_1 17 (by decide +kernel) rfl), by decide +kernel, by decide⟩, (gq_7 234 (by decide +kernel) rfl), (gp_4 3 (by decide +kernel) rfl), _, rfl, rfl⟩
set_option maxRecDepth 20000 in
theorem yw_X12_advance : YV yX12_advance cX12_advance 2 none 0 12 := ⟨⟨(gq_7 219 rfl rfl), (gq_1 17 (by decide +kernel) rfl), by decide +kernel, by decide⟩, (gq_7 218 (by decide +kernel) rfl), (gp_4 1 (by decide +kernel) rfl), _, rfl, rfl⟩
set_option maxRecDepth 20000 in
theorem yw_X12_isSign : YV yX12_isSign cX12_isSign 2 (some .boolean) 1 12 := ⟨⟨(gq_8 172 rfl rfl), (gq_1 17 (by decide +kernel) rfl), by decide +kernel, by decide⟩, (gq_8 171 (by decide +kernel) rfl), (gp_6 12 (by decide +kernel) rfl), _, rfl, rfl⟩
set_option maxRecDepth 20000 in
theorem yw_X12_spelled : YS yX12_spelled cX12_spelled 8 (some .long) 6 := ⟨⟨(gq_8 6 rfl rfl), (gq_1 17 (by decide +kernel) rfl), by decide +kernel, by decide⟩, (gq_8 5 (by decide +kernel) rfl)⟩
set_option maxRecDepth 20000 in
theorem yw_X12_isWord : YV yX12_isWord cX12_isWord 3 (some .boolean) 1 12 := ⟨⟨(gq_8 10 rfl rfl), (gq_1 17 (by decide +kernel) rfl), by decide +kernel, by decide⟩, (gq_8 9 (by decide +kernel) rfl), (gp_4 6 (by decide +kernel) rfl), _, rfl, rfl⟩
set_option maxRecDepth 20000 in
theorem yw_X12_isPark : YV yX12_isPark cX12_isPark 1 (some .boolean) 0 12 := ⟨⟨(gq_8 3 rfl rfl), (gq_1 17 (by decide +kernel) rfl), by decide +kernel, by decide⟩, (gq_8 2 (by decide +kernel) rfl), (gp_4 5 (by decide +kernel) rfl), _, rfl, rfl⟩
set_option maxRecDepth 20000 in
theorem yw_X12_isBy : YV yX12_isBy cX12_isBy 1 (some .boolean) 0 12 := ⟨⟨(gq_8 40 rfl rfl), (gq_1 17 (by decide +kernel) rfl), by decide +kernel, by decide⟩, (gq_8 39 (by decide +kernel) rfl), (gp_4 12 (by decide +kernel) rfl), _, rfl, rfl⟩
set_option maxRecDepth 20000 in
theorem yw_X12_isFade : YV yX12_isFade cX12_isFade 1 (some .boolean) 0 12 := ⟨⟨(gq_8 52 rfl rfl), (gq_1 17 (by decide +kernel) rfl), by decide +kernel, by decide⟩, (gq_8 51 (by decide +kernel) rfl), (gp_4 15 (by decide +kernel) rfl), _, rfl, rfl⟩
set_option maxRecDepth 20000 in
theorem yw_X12_isRest : YV yX12_isRest cX12_isRest 1 (some .boolean) 0 12 := ⟨⟨(gq_8 60 rfl rfl), (gq_1 17 (by decide +kernel) rfl), by decide +kernel, by decide⟩, (gq_8 59 (by decide +kernel) rfl), (gp_5 1 (by decide +kernel) rfl), _, rfl, rfl⟩
set_option maxRecDepth 20000 in
theorem yw_X12_isOdds : YV yX12_isOdds cX12_isOdds 1 (some .boolean) 0 12 := ⟨⟨(gq_8 64 rfl rfl), (gq_1 17 (by decide +kernel) rfl), by decide +kernel, by decide⟩, (gq_8 63 (by decide +kernel) rfl), (gp_5 2 (by decide +kernel) rfl), _, rfl, rfl⟩
set_option maxRecDepth 20000 in
theorem yw_X12_isPond : YV yX12_isPond cX12_isPond 1 (some .boolean) 0 12 := ⟨⟨(gq_8 68 rfl rfl), (gq_1 17 (by decide +kernel) rfl), by decide +kernel, by decide⟩, (gq_8 67 (by decide +kernel) rfl), (gp_5 3 (by decide +kernel) rfl), _, rfl, rfl⟩
set_option maxRecDepth 20000 in
theorem yw_X12_isTune : YV yX12_isTune cX12_isTune 1 (some .boolean) 0 12 := ⟨⟨(gq_8 76 rfl rfl), (gq_1 17 (by decide +kernel) rfl), by decide +kernel, by decide⟩, (gq_8 75 (by decide +kernel) rfl), (gp_5 5 (by decide +kernel) rfl), _, rfl, rfl⟩
set_option maxRecDepth 20000 in
theorem yw_X12_isLoud : YV yX12_isLoud cX12_isLoud 1 (some .boolean) 0 12 := ⟨⟨(gq_8 96 rfl rfl), (gq_1 17 (by decide +kernel) rfl), by decide +kernel, by decide⟩, (gq_8 95 (by decide +kernel) rfl), (gp_5 10 (by decide +kernel) rfl), _, rfl, rfl⟩
set_option maxRecDepth 20000 in
theorem yw_X12_isToll : YV yX12_isToll cX12_isToll 1 (some .boolean) 0 12 := ⟨⟨(gq_8 100 rfl rfl), (gq_1 17 (by decide +kernel) rfl), by decide +kernel, by decide⟩, (gq_8 99 (by decide +kernel) rfl), (gp_5 11 (by decide +kernel) rfl), _, rfl, rfl⟩
set_option maxRecDepth 20000 in
theorem yw_X12_isBeats : YV yX12_isBeats cX12_isBeats 1 (some .boolean) 0 12 := ⟨⟨(gq_8 104 rfl rfl), (gq_1 17 (by decide +kernel) rfl), by decide +kernel, by decide⟩, (gq_8 103 (by decide +kernel) rfl), (gp_5 12 (by decide +kernel) rfl), _, rfl, rfl⟩
set_option maxRecDepth 20000 in
theorem yw_X12_isBand : YV yX12_isBand cX12_isBand 1 (some .boolean) 0 12 := ⟨⟨(gq_8 108 rfl rfl), (gq_1 17 (by decide +kernel) rfl), by decide +kernel, by decide⟩, (gq_8 107 (by decide +kernel) rfl), (gp_5 13 (by decide +kernel) rfl), _, rfl, rfl⟩
set_option maxRecDepth 20000 in
theorem yw_X12_isAt : YV yX12_isAt cX12_isAt 1 (some .boolean) 0 12 := ⟨⟨(gq_8 112 rfl rfl), (gq_1 17 (by decide +kernel) rfl), by decide +kernel, by decide⟩, (gq_8 111 (by decide +kernel) rfl), (gp_5 14 (by decide +kernel) rfl), _, rfl, rfl⟩
set_option maxRecDepth 20000 in
theorem yw_X12_isStrength : YV yX12_isStrength cX12_isStrength 1 (some .boolean) 0 12 := ⟨⟨(gq_8 116 rfl rfl), (gq_1 17 (by decide +kernel) rfl), by decide +kernel, by decide⟩, (gq_8 115 (by decide +kernel) rfl), (gp_5 15 (by decide +kernel) rfl), _, rfl, rfl⟩
set_option maxRecDepth 20000 in
theorem yw_X12_isLips : YV yX12_isLips cX12_isLips 1 (some .boolean) 0 12 := ⟨⟨(gq_8 122 rfl rfl), (gq_1 17 (by decide +kernel) rfl), by decide +kernel, by decide⟩, (gq_8 121 (by decide +kernel) rfl), (gp_6 0 (by decide +kernel) rfl), _, rfl, rfl⟩
set_option maxRecDepth 20000 in
theorem yw_X12_isPlays : YV yX12_isPlays cX12_isPlays 1 (some .boolean) 0 12 := ⟨⟨(gq_8 126 rfl rfl), (gq_1 17 (by decide +kernel) rfl), by decide +kernel, by decide⟩, (gq_8 125 (by decide +kernel) rfl), (gp_6 1 (by decide +kernel) rfl), _, rfl, rfl⟩
set_option maxRecDepth 20000 in
theorem yw_X12_isHush : YV yX12_isHush cX12_isHush 1 (some .boolean) 0 12 := ⟨⟨(gq_8 130 rfl rfl), (gq_1 17 (by decide +kernel) rfl), by decide +kernel, by decide⟩, (gq_8 129 (by decide +kernel) rfl), (gp_6 2 (by decide +kernel) rfl), _, rfl, rfl⟩
set_option maxRecDepth 20000 in
theorem yw_X12_stepWord : YV yX12_stepWord cX12_stepWord 1 (some .int) 0 12 := ⟨⟨(gq_8 134 rfl rfl), (gq_1 17 (by decide +kernel) rfl), by decide +kernel, by decide⟩, (gq_8 133 (by decide +kernel) rfl), (gp_6 3 (by decide +kernel) rfl), _, rfl, rfl⟩
set_option maxRecDepth 20000 in
theorem yw_X12_testWord : YV yX12_testWord cX12_testWord 1 (some .int) 0 12 := ⟨⟨(gq_8 138 rfl rfl), (gq_1 17 (by decide +kernel) rfl), by decide +kernel, by decide⟩, (gq_8 137 (by decide +kernel) rfl), (gp_6 4 (by decide +kernel) rfl), _, rfl, rfl⟩
set_option maxRecDepth 20000 in
theorem yw_X12_isEnd : YV yX12_isEnd cX12_isEnd 1 (some .boolean) 0 12 := ⟨⟨(gq_8 143 rfl rfl), (gq_1 17 (by decide +kernel) rfl), by decide +kernel, by decide⟩, (gq_8 142 (by decide +kernel) rfl), (gp_6 5 (by decide +kernel) rfl), _, rfl, rfl⟩
set_option maxRecDepth 20000 in
theorem yw_X12_isKept : YV yX12_isKept cX12_isKept 1 (some .boolean) 0 12 := ⟨⟨(gq_8 92 rfl rfl), (gq_1 17 (by decide +kernel) rfl), by decide +kernel, by decide⟩, (gq_8 91 (by decide +kernel) rfl), (gp_5 9 (by decide +kernel) rfl), _, rfl, rfl⟩
set_option maxRecDepth 20000 in
theorem yw_X12_isName : YV yX12_isName cX12_isName 1 (some .boolean) 0 12 := ⟨⟨(gq_8 88 rfl rfl), (gq_1 17 (by decide +kernel) rfl), by decide +kernel, by decide⟩, (gq_8 87 (by decide +kernel) rfl), (gp_5 8 (by decide +kernel) rfl), _, rfl, rfl⟩
set_option maxRecDepth 20000 in
theorem yw_X12_fail : YV yX12_fail cX12_fail 3 none 2 12 := ⟨⟨(gq_8 25 rfl rfl), (gq_1 17 (by decide +kernel) rfl), by decide +kernel, by decide⟩, (gq_8 24 (by decide +kernel) rfl), (gp_4 9 (by decide +kernel) rfl), _, rfl, rfl⟩
set_option maxRecDepth 20000 in
theorem yw_X12_amiss : YV yX12_amiss cX12_amiss 1 none 0 12 := ⟨⟨(gq_8 33 rfl rfl), (gq_1 17 (by decide +kernel) rfl), by decide +kernel, by decide⟩, (gq_8 32 (by decide +kernel) rfl), (gp_4 11 (by decide +kernel) rfl), _, rfl, rfl⟩
set_option maxRecDepth 20000 in
theorem yw_X12_must : YV yX12_must cX12_must 2 none 1 12 := ⟨⟨(gq_8 48 rfl rfl), (gq_1 17 (by decide +kernel) rfl), by decide +kernel, by decide⟩, (gq_8 47 (by decide +kernel) rfl), (gp_4 14 (by decide +kernel) rfl), _, rfl, rfl⟩
set_option maxRecDepth 20000 in
theorem yw_X12_count : YV yX12_count cX12_count 4 (some .int) 2 12 := ⟨⟨(gq_8 29 rfl rfl), (gq_1 17 (by decide +kernel) rfl), by decide +kernel, by decide⟩, (gq_8 28 (by decide +kernel) rfl), (gp_4 10 (by decide +kernel) rfl), _, rfl, rfl⟩
set_option maxRecDepth 20000 in
theorem yw_X12_behindWord : YV yX12_behindWord cX12_behindWord 4 (some .int) 3 12 := ⟨⟨(gq_8 44 rfl rfl), (gq_1 17 (by decide +kernel) rfl), by decide +kernel, by decide⟩, (gq_8 43 (by decide +kernel) rfl), (gp_4 13 (by decide +kernel) rfl), _, rfl, rfl⟩
set_option maxRecDepth 20000 in
theorem yw_X12_lay : YV yX12_lay cX12_lay 3 none 1 12 := ⟨⟨(gq_7 203 rfl rfl), (gq_1 17 (by decide +kernel) rfl), by decide +kernel, by decide⟩, (gq_7 202 (by decide +kernel) rfl), (gp_3 15 (by decide +kernel) rfl), _, rfl, rfl⟩
set_option maxRecDepth 20000 in
theorem yw_X12_feed : YV yX12_feed cX12_feed 6 (some .int) 5 12 := ⟨⟨(gq_7 199 rfl rfl), (gq_1 17 (by decide +kernel) rfl), by decide +kernel, by decide⟩, (gq_7 197 (by decide +kernel) rfl), (gq_7 198 (by decide +kernel) rfl), _, rfl, rfl⟩
set_option maxRecDepth 20000 in
theorem yw_X12_starts : YV yX12_starts cX12_starts 3 (some .boolean) 2 12 := ⟨⟨(gq_7 215 rfl rfl), (gq_1 17 (by decide +kernel) rfl), by decide +kernel, by decide⟩, (gq_7 214 (by decide +kernel) rfl), (gp_4 0 (by decide +kernel) rfl), _, rfl, rfl⟩
set_option maxRecDepth 20000 in
theorem yw_X12_isWell : YV yX12_isWell cX12_isWell 1 (some .boolean) 0 12 := ⟨⟨(gq_8 176 rfl rfl), (gq_1 17 (by decide +kernel) rfl), by decide +kernel, by decide⟩, (gq_8 175 (by decide +kernel) rfl), (gp_6 13 (by decide +kernel) rfl), _, rfl, rfl⟩
set_option maxRecDepth 20000 in
theorem yw_X12_fault : YV yX12_fault cX12_fault 2 (some .int) 1 12 := ⟨⟨(gq_7 207 rfl rfl), (gq_1 17 (by decide +kernel) rfl), by decide +kernel, by decide⟩, (gq_7 205 (by decide +kernel) rfl), (gq_7 206 (by decide +kernel) rfl), _, rfl, rfl⟩
set_option maxRecDepth 20000 in
theorem yw_X12_empties : YV yX12_empties cX12_empties 4 none 1 12 := ⟨⟨(gq_7 15 rfl rfl), (gq_1 17 (by decide +kernel) rfl), by decide +kernel, by decide⟩, (gq_7 14 (by decide +kernel) rfl), (gp_3 11 (by decide +kernel) rfl), _, rfl, rfl⟩
set_option maxRecDepth 20000 in
theorem yw_X12_named : YV yX12_named cX12_named 4 (some .int) 2 12 := ⟨⟨(gq_8 147 rfl rfl), (gq_1 17 (by decide +kernel) rfl), by decide +kernel, by decide⟩, (gq_8 146 (by decide +kernel) rfl), (gp_6 6 (by decide +kernel) rfl), _, rfl, rfl⟩
set_option maxRecDepth 20000 in
theorem yw_X12_readNew : YV yX12_readNew cX12_readNew 3 (some .int) 1 12 := ⟨⟨(gq_8 84 rfl rfl), (gq_1 17 (by decide +kernel) rfl), by decide +kernel, by decide⟩, (gq_8 83 (by decide +kernel) rfl), (gp_5 7 (by decide +kernel) rfl), _, rfl, rfl⟩
set_option maxRecDepth 20000 in
theorem yw_X12_told : YV yX12_told cX12_told 4 (some .int) 2 12 := ⟨⟨(gq_8 167 rfl rfl), (gq_1 17 (by decide +kernel) rfl), by decide +kernel, by decide⟩, (gq_8 166 (by decide +kernel) rfl), (gp_6 11 (by decide +kernel) rfl), _, rfl, rfl⟩
set_option maxRecDepth 20000 in
theorem yw_X12_readTold : YV yX12_readTold cX12_readTold 4 (some .int) 2 12 := ⟨⟨(gq_8 200 rfl rfl), (gq_1 17 (by decide +kernel) rfl), by decide +kernel, by decide⟩, (gq_8 199 (by decide +kernel) rfl), (gp_7 2 (by decide +kernel) rfl), _, rfl, rfl⟩
set_option maxRecDepth 20000 in
theorem yw_X12_entryToken : YV yX12_entryToken cX12_entryToken 2 (some .int) 1 12 := ⟨⟨(gq_8 163 rfl rfl), (gq_1 17 (by decide +kernel) rfl), by decide +kernel, by decide⟩, (gq_8 162 (by decide +kernel) rfl), (gp_6 10 (by decide +kernel) rfl), _, rfl, rfl⟩
set_option maxRecDepth 20000 in
theorem yw_X12_isOnce : YV yX12_isOnce cX12_isOnce 2 (some .boolean) 1 12 := ⟨⟨(gq_8 18 rfl rfl), (gq_1 17 (by decide +kernel) rfl), by decide +kernel, by decide⟩, (gq_8 17 (by decide +kernel) rfl), (gp_4 8 (by decide +kernel) rfl), _, rfl, rfl⟩
set_option maxRecDepth 20000 in
theorem yw_X12_readOnce : YV yX12_readOnce cX12_readOnce 3 none 2 12 := ⟨⟨(gq_8 56 rfl rfl), (gq_1 17 (by decide +kernel) rfl), by decide +kernel, by decide⟩, (gq_8 55 (by decide +kernel) rfl), (gp_5 0 (by decide +kernel) rfl), _, rfl, rfl⟩
set_option maxRecDepth 20000 in
theorem yw_X12_readPark : YV yX12_readPark cX12_readPark 1 none 0 12 := ⟨⟨(gq_8 14 rfl rfl), (gq_1 17 (by decide +kernel) rfl), by decide +kernel, by decide⟩, (gq_8 13 (by decide +kernel) rfl), (gp_4 7 (by decide +kernel) rfl), _, rfl, rfl⟩
set_option maxRecDepth 20000 in
theorem yw_X12_readPond : YV yX12_readPond cX12_readPond 3 none 0 12 := ⟨⟨(gq_8 72 rfl rfl), (gq_1 17 (by decide +kernel) rfl), by decide +kernel, by decide⟩, (gq_8 71 (by decide +kernel) rfl), (gp_5 4 (by decide +kernel) rfl), _, rfl, rfl⟩
set_option maxRecDepth 20000 in
theorem yw_X12_readTune : YV yX12_readTune cX12_readTune 2 none 0 12 := ⟨⟨(gq_8 80 rfl rfl), (gq_1 17 (by decide +kernel) rfl), by decide +kernel, by decide⟩, (gq_8 79 (by decide +kernel) rfl), (gp_5 6 (by decide +kernel) rfl), _, rfl, rfl⟩
set_option maxRecDepth 20000 in
theorem yw_X12_bandAt : YV yX12_bandAt cX12_bandAt 6 (some .int) 3 12 := ⟨⟨(gq_8 155 rfl rfl), (gq_1 17 (by decide +kernel) rfl), by decide +kernel, by decide⟩, (gq_8 154 (by decide +kernel) rfl), (gp_6 8 (by decide +kernel) rfl), _, rfl, rfl⟩
set_option maxRecDepth 20000 in
theorem yw_X12_readPlays : YV yX12_readPlays cX12_readPlays 4 none 1 12 := ⟨⟨(gq_8 159 rfl rfl), (gq_1 17 (by decide +kernel) rfl), by decide +kernel, by decide⟩, (gq_8 158 (by decide +kernel) rfl), (gp_6 9 (by decide +kernel) rfl), _, rfl, rfl⟩
set_option maxRecDepth 20000 in
theorem yw_X12_readBand : YV yX12_readBand cX12_readBand 5 none 0 12 := ⟨⟨(gq_8 151 rfl rfl), (gq_1 17 (by decide +kernel) rfl), by decide +kernel, by decide⟩, (gq_8 150 (by decide +kernel) rfl), (gp_6 7 (by decide +kernel) rfl), _, rfl, rfl⟩
set_option maxRecDepth 20000 in
theorem yw_X12_readPart : YV yX12_readPart cX12_readPart 1 none 0 12 := ⟨⟨(gq_7 239 rfl rfl), (gq_1 17 (by decide +kernel) rfl), by decide +kernel, by decide⟩, (gq_7 238 (by decide +kernel) rfl), (gp_4 4 (by decide +kernel) rfl), _, rfl, rfl⟩
set_option maxRecDepth 20000 in
theorem yw_X12_copy : YV yX12_copy cX12_copy 4 none 2 12 := ⟨⟨(gq_8 180 rfl rfl), (gq_1 17 (by decide +kernel) rfl), by decide +kernel, by decide⟩, (gq_8 179 (by decide +kernel) rfl), (gp_6 14 (by decide +kernel) rfl), _, rfl, rfl⟩
set_option maxRecDepth 20000 in
theorem yw_X12_park : YV yX12_park cX12_park 2 (some .int) 1 12 := ⟨⟨(gq_7 211 rfl rfl), (gq_1 17 (by decide +kernel) rfl), by decide +kernel, by decide⟩, (gq_7 209 (by decide +kernel) rfl), (gq_7 210 (by decide +kernel) rfl), _, rfl, rfl⟩
set_option maxRecDepth 20000 in
theorem yw_X12_readTest : YV yX12_readTest cX12_readTest 3 none 1 12 := ⟨⟨(gq_8 204 rfl rfl), (gq_1 17 (by decide +kernel) rfl), by decide +kernel, by decide⟩, (gq_8 203 (by decide +kernel) rfl), (gp_7 3 (by decide +kernel) rfl), _, rfl, rfl⟩
set_option maxRecDepth 20000 in
theorem yw_X12_readSet : YV yX12_readSet cX12_readSet 2 none 1 12 := ⟨⟨(gq_8 196 rfl rfl), (gq_1 17 (by decide +kernel) rfl), by decide +kernel, by decide⟩, (gq_8 195 (by decide +kernel) rfl), (gp_7 1 (by decide +kernel) rfl), _, rfl, rfl⟩
set_option maxRecDepth 20000 in
theorem yw_X12_readRest : YV yX12_readRest cX12_readRest 3 none 1 12 := ⟨⟨(gq_8 192 rfl rfl), (gq_1 17 (by decide +kernel) rfl), by decide +kernel, by decide⟩, (gq_8 191 (by decide +kernel) rfl), (gp_7 0 (by decide +kernel) rfl), _, rfl, rfl⟩
set_option maxRecDepth 20000 in
theorem yw_X12_readStep : YV yX12_readStep cX12_readStep 5 none 1 12 := ⟨⟨(gq_8 188 rfl rfl), (gq_1 17 (by decide +kernel) rfl), by decide +kernel, by decide⟩, (gq_8 187 (by decide +kernel) rfl), (gp_6 15 (by decide +kernel) rfl), _, rfl, rfl⟩
set_option maxRecDepth 20000 in
theorem yw_X12_evenings : YV yX12_evenings cX12_evenings 3 (some .int) 1 12 := ⟨⟨(gq_8 184 rfl rfl), (gq_1 17 (by decide +kernel) rfl), by decide +kernel, by decide⟩, (gq_8 182 (by decide +kernel) rfl), (gq_8 183 (by decide +kernel) rfl), _, rfl, rfl⟩
set_option maxRecDepth 20000 in
theorem yw_X12_isField : YV yX12_isField cX12_isField 3 (some .boolean) 2 12 := ⟨⟨(gq_9 46 rfl rfl), (gq_1 17 (by decide +kernel) rfl), by decide +kernel, by decide⟩, (gq_9 45 (by decide +kernel) rfl), (gp_8 1 (by decide +kernel) rfl), _, rfl, rfl⟩
set_option maxRecDepth 20000 in
theorem yw_X12_isTuneAt : YV yX12_isTuneAt cX12_isTuneAt 2 (some .boolean) 1 12 := ⟨⟨(gq_9 24 rfl rfl), (gq_1 17 (by decide +kernel) rfl), by decide +kernel, by decide⟩, (gq_9 23 (by decide +kernel) rfl), (gp_7 15 (by decide +kernel) rfl), _, rfl, rfl⟩
set_option maxRecDepth 20000 in
theorem yw_X12_isBandAt : YV yX12_isBandAt cX12_isBandAt 2 (some .boolean) 1 12 := ⟨⟨(gq_9 33 rfl rfl), (gq_1 17 (by decide +kernel) rfl), by decide +kernel, by decide⟩, (gq_9 32 (by decide +kernel) rfl), (gp_8 0 (by decide +kernel) rfl), _, rfl, rfl⟩
set_option maxRecDepth 20000 in
theorem yw_X12_isPondAt : YV yX12_isPondAt cX12_isPondAt 3 (some .boolean) 2 12 := ⟨⟨(gq_9 50 rfl rfl), (gq_1 17 (by decide +kernel) rfl), by decide +kernel, by decide⟩, (gq_9 49 (by decide +kernel) rfl), (gp_8 2 (by decide +kernel) rfl), _, rfl, rfl⟩
set_option maxRecDepth 20000 in
theorem yw_X12_wanted : YV yX12_wanted cX12_wanted 3 (some .int) 2 12 := ⟨⟨(gq_8 221 rfl rfl), (gq_1 17 (by decide +kernel) rfl), by decide +kernel, by decide⟩, (gq_8 220 (by decide +kernel) rfl), (gp_7 6 (by decide +kernel) rfl), _, rfl, rfl⟩
set_option maxRecDepth 20000 in
theorem yw_X12_played : YV yX12_played cX12_played 3 (some .int) 2 12 := ⟨⟨(gq_8 225 rfl rfl), (gq_1 17 (by decide +kernel) rfl), by decide +kernel, by decide⟩, (gq_8 224 (by decide +kernel) rfl), (gp_7 7 (by decide +kernel) rfl), _, rfl, rfl⟩
set_option maxRecDepth 20000 in
theorem yw_X12_laysNow : YV yX12_laysNow cX12_laysNow 3 none 0 12 := ⟨⟨(gq_8 217 rfl rfl), (gq_1 17 (by decide +kernel) rfl), by decide +kernel, by decide⟩, (gq_8 216 (by decide +kernel) rfl), (gp_7 5 (by decide +kernel) rfl), _, rfl, rfl⟩
set_option maxRecDepth 20000 in
theorem yw_X12_faded : YV yX12_faded cX12_faded 3 (some .int) 2 12 := ⟨⟨(gq_9 12 rfl rfl), (gq_1 17 (by decide +kernel) rfl), by decide +kernel, by decide⟩, (gq_9 11 (by decide +kernel) rfl), (gp_7 13 (by decide +kernel) rfl), _, rfl, rfl⟩
set_option maxRecDepth 20000 in
theorem yw_X12_heardOf : YV yX12_heardOf cX12_heardOf 8 (some .int) 4 12 := ⟨⟨(gq_9 5 rfl rfl), (gq_1 17 (by decide +kernel) rfl), by decide +kernel, by decide⟩, (gq_9 4 (by decide +kernel) rfl), (gp_7 12 (by decide +kernel) rfl), _, rfl, rfl⟩
set_option maxRecDepth 20000 in
theorem yw_X12_laysNoise : YV yX12_laysNoise cX12_laysNoise 4 none 2 12 := ⟨⟨(gq_9 1 rfl rfl), (gq_1 17 (by decide +kernel) rfl), by decide +kernel, by decide⟩, (gq_9 0 (by decide +kernel) rfl), (gp_7 11 (by decide +kernel) rfl), _, rfl, rfl⟩
set_option maxRecDepth 20000 in
theorem yw_X12_holds : YV yX12_holds cX12_holds 6 (some .int) 2 12 := ⟨⟨(gq_8 237 rfl rfl), (gq_1 17 (by decide +kernel) rfl), by decide +kernel, by decide⟩, (gq_8 236 (by decide +kernel) rfl), (gp_7 10 (by decide +kernel) rfl), _, rfl, rfl⟩
set_option maxRecDepth 20000 in
theorem yw_X12_cellsOf : YV yX12_cellsOf cX12_cellsOf 5 (some .int) 1 12 := ⟨⟨(gq_8 233 rfl rfl), (gq_1 17 (by decide +kernel) rfl), by decide +kernel, by decide⟩, (gq_8 232 (by decide +kernel) rfl), (gp_7 9 (by decide +kernel) rfl), _, rfl, rfl⟩
set_option maxRecDepth 20000 in
theorem yw_X12_playing : YV yX12_playing cX12_playing 3 (some .int) 0 12 := ⟨⟨(gq_9 16 rfl rfl), (gq_1 17 (by decide +kernel) rfl), by decide +kernel, by decide⟩, (gq_9 15 (by decide +kernel) rfl), (gp_7 14 (by decide +kernel) rfl), _, rfl, rfl⟩
set_option maxRecDepth 20000 in
theorem yw_X12_pondMany : YV yX12_pondMany cX12_pondMany 3 (some .int) 0 12 := ⟨⟨(gq_8 229 rfl rfl), (gq_1 17 (by decide +kernel) rfl), by decide +kernel, by decide⟩, (gq_8 228 (by decide +kernel) rfl), (gp_7 8 (by decide +kernel) rfl), _, rfl, rfl⟩
set_option maxRecDepth 20000 in
theorem yw_X12_many : YV yX12_many cX12_many 2 (some .int) 1 12 := ⟨⟨(gq_8 208 rfl rfl), (gq_1 17 (by decide +kernel) rfl), by decide +kernel, by decide⟩, (gq_8 206 (by decide +kernel) rfl), (gq_8 207 (by decide +kernel) rfl), _, rfl, rfl⟩
set_option maxRecDepth 20000 in
theorem yw_X12_tune : YV yX12_tune cX12_tune 3 (some .int) 2 12 := ⟨⟨(gq_9 20 rfl rfl), (gq_1 17 (by decide +kernel) rfl), by decide +kernel, by decide⟩, (gq_9 18 (by decide +kernel) rfl), (gq_9 19 (by decide +kernel) rfl), _, rfl, rfl⟩
set_option maxRecDepth 20000 in
theorem yw_X12_band : YV yX12_band cX12_band 3 (some .int) 2 12 := ⟨⟨(gq_9 29 rfl rfl), (gq_1 17 (by decide +kernel) rfl), by decide +kernel, by decide⟩, (gq_9 27 (by decide +kernel) rfl), (gq_9 28 (by decide +kernel) rfl), _, rfl, rfl⟩
set_option maxRecDepth 20000 in
theorem yw_X12_entry : YV yX12_entry cX12_entry 3 (some .int) 2 12 := ⟨⟨(gq_9 38 rfl rfl), (gq_1 17 (by decide +kernel) rfl), by decide +kernel, by decide⟩, (gq_9 36 (by decide +kernel) rfl), (gq_9 37 (by decide +kernel) rfl), _, rfl, rfl⟩
set_option maxRecDepth 20000 in
theorem yw_X12_pond : YV yX12_pond cX12_pond 3 (some .int) 2 12 := ⟨⟨(gq_9 42 rfl rfl), (gq_1 17 (by decide +kernel) rfl), by decide +kernel, by decide⟩, (gq_9 40 (by decide +kernel) rfl), (gq_9 41 (by decide +kernel) rfl), _, rfl, rfl⟩
set_option maxRecDepth 20000 in
theorem yw_X12_goesHour : YV yX12_goesHour cX12_goesHour 6 (some .int) 0 12 := ⟨⟨(gq_9 59 rfl rfl), (gq_1 17 (by decide +kernel) rfl), by decide +kernel, by decide⟩, (gq_9 58 (by decide +kernel) rfl), (gp_8 3 (by decide +kernel) rfl), _, rfl, rfl⟩
set_option maxRecDepth 20000 in
theorem yw_X12_hour : YV yX12_hour cX12_hour 4 (some .int) 1 12 := ⟨⟨(gq_9 54 rfl rfl), (gq_1 17 (by decide +kernel) rfl), by decide +kernel, by decide⟩, (gq_9 52 (by decide +kernel) rfl), (gq_9 53 (by decide +kernel) rfl), _, rfl, rfl⟩
set_option maxRecDepth 20000 in
theorem yw_X12_becomes : YV yX12_becomes cX12_becomes 3 (some .boolean) 2 12 := ⟨⟨(gq_9 69 rfl rfl), (gq_1 17 (by decide +kernel) rfl), by decide +kernel, by decide⟩, (gq_9 68 (by decide +kernel) rfl), (gp_8 4 (by decide +kernel) rfl), _, rfl, rfl⟩
set_option maxRecDepth 20000 in
theorem yw_X12_wind : YV yX12_wind cX12_wind 2 (some .boolean) 1 12 := ⟨⟨(gq_9 64 rfl rfl), (gq_1 17 (by decide +kernel) rfl), by decide +kernel, by decide⟩, (gq_9 62 (by decide +kernel) rfl), (gq_9 63 (by decide +kernel) rfl), _, rfl, rfl⟩
set_option maxRecDepth 20000 in
theorem yw_X12_rain : YV yX12_rain cX12_rain 2 (some .boolean) 1 12 := ⟨⟨(gq_9 73 rfl rfl), (gq_1 17 (by decide +kernel) rfl), by decide +kernel, by decide⟩, (gq_9 71 (by decide +kernel) rfl), (gq_9 72 (by decide +kernel) rfl), _, rfl, rfl⟩
set_option maxRecDepth 20000 in
theorem yw_X12_set : YV yX12_set cX12_set 4 (some .int) 3 12 := ⟨⟨(gq_9 77 rfl rfl), (gq_1 17 (by decide +kernel) rfl), by decide +kernel, by decide⟩, (gq_9 75 (by decide +kernel) rfl), (gq_9 76 (by decide +kernel) rfl), _, rfl, rfl⟩
set_option maxRecDepth 20000 in
theorem yw_X12_drop : YV yX12_drop cX12_drop 2 (some .int) 1 12 := ⟨⟨(gq_9 81 rfl rfl), (gq_1 17 (by decide +kernel) rfl), by decide +kernel, by decide⟩, (gq_9 79 (by decide +kernel) rfl), (gq_9 80 (by decide +kernel) rfl), _, rfl, rfl⟩
set_option maxRecDepth 20000 in
theorem yw_X12_move : YV yX12_move cX12_move 4 (some .boolean) 3 12 := ⟨⟨(gq_9 85 rfl rfl), (gq_1 17 (by decide +kernel) rfl), by decide +kernel, by decide⟩, (gq_9 83 (by decide +kernel) rfl), (gq_9 84 (by decide +kernel) rfl), _, rfl, rfl⟩
set_option maxRecDepth 20000 in
theorem yw_X12_train : YV yX12_train cX12_train 3 (some .boolean) 2 12 := ⟨⟨(gq_9 89 rfl rfl), (gq_1 17 (by decide +kernel) rfl), by decide +kernel, by decide⟩, (gq_9 87 (by decide +kernel) rfl), (gq_9 88 (by decide +kernel) rfl), _, rfl, rfl⟩
set_option maxRecDepth 20000 in
theorem yw_X12_soothe : YV yX12_soothe cX12_soothe 3 (some .boolean) 2 12 := ⟨⟨(gq_9 93 rfl rfl), (gq_1 17 (by decide +kernel) rfl), by decide +kernel, by decide⟩, (gq_9 91 (by decide +kernel) rfl), (gq_9 92 (by decide +kernel) rfl), _, rfl, rfl⟩
set_option maxRecDepth 20000 in
theorem yw_X12_rule : YV yX12_rule cX12_rule 3 (some .boolean) 2 12 := ⟨⟨(gq_9 97 rfl rfl), (gq_1 17 (by decide +kernel) rfl), by decide +kernel, by decide⟩, (gq_9 95 (by decide +kernel) rfl), (gq_9 96 (by decide +kernel) rfl), _, rfl, rfl⟩
set_option maxRecDepth 20000 in
theorem yw_X12_dig : YV yX12_dig cX12_dig 4 (some .boolean) 3 12 := ⟨⟨(gq_9 103 rfl rfl), (gq_1 17 (by decide +kernel) rfl), by decide +kernel, by decide⟩, (gq_9 101 (by decide +kernel) rfl), (gq_9 102 (by decide +kernel) rfl), _, rfl, rfl⟩
set_option maxRecDepth 20000 in
theorem yw_X12_plays : YV yX12_plays cX12_plays 2 (some .int) 1 12 := ⟨⟨(gq_9 107 rfl rfl), (gq_1 17 (by decide +kernel) rfl), by decide +kernel, by decide⟩, (gq_9 105 (by decide +kernel) rfl), (gq_9 106 (by decide +kernel) rfl), _, rfl, rfl⟩
set_option maxRecDepth 20000 in
theorem yw_X12_heard : YV yX12_heard cX12_heard 5 (some .int) 4 12 := ⟨⟨(gq_9 111 rfl rfl), (gq_1 17 (by decide +kernel) rfl), by decide +kernel, by decide⟩, (gq_9 109 (by decide +kernel) rfl), (gq_9 110 (by decide +kernel) rfl), _, rfl, rfl⟩
set_option maxRecDepth 20000 in
theorem yw_X12_loudestAt : YV yX12_loudestAt cX12_loudestAt 5 (some .int) 2 12 := ⟨⟨(gq_9 119 rfl rfl), (gq_1 17 (by decide +kernel) rfl), by decide +kernel, by decide⟩, (gq_9 118 (by decide +kernel) rfl), (gp_8 5 (by decide +kernel) rfl), _, rfl, rfl⟩
set_option maxRecDepth 20000 in
theorem yw_X12_loudest : YV yX12_loudest cX12_loudest 3 (some .int) 2 12 := ⟨⟨(gq_9 115 rfl rfl), (gq_1 17 (by decide +kernel) rfl), by decide +kernel, by decide⟩, (gq_9 113 (by decide +kernel) rfl), (gq_9 114 (by decide +kernel) rfl), _, rfl, rfl⟩
set_option maxRecDepth 20000 in
theorem yw_X12_answerHeld : YV yX12_answerHeld cX12_answerHeld 2 (some .int) 1 12 := ⟨⟨(gq_9 127 rfl rfl), (gq_1 17 (by decide +kernel) rfl), by decide +kernel, by decide⟩, (gq_9 126 (by decide +kernel) rfl), (gp_8 6 (by decide +kernel) rfl), _, rfl, rfl⟩
set_option maxRecDepth 20000 in
theorem yw_X12_holder : YV yX12_holder cX12_holder 3 (some .int) 2 12 := ⟨⟨(gq_9 123 rfl rfl), (gq_1 17 (by decide +kernel) rfl), by decide +kernel, by decide⟩, (gq_9 121 (by decide +kernel) rfl), (gq_9 122 (by decide +kernel) rfl), _, rfl, rfl⟩
set_option maxRecDepth 20000 in
theorem yw_X12_lawns : YV yX12_lawns cX12_lawns 2 (some .int) 1 12 := ⟨⟨(gq_9 131 rfl rfl), (gq_1 17 (by decide +kernel) rfl), by decide +kernel, by decide⟩, (gq_9 129 (by decide +kernel) rfl), (gq_9 130 (by decide +kernel) rfl), _, rfl, rfl⟩
set_option maxRecDepth 20000 in
theorem yw_X12_ponds : YV yX12_ponds cX12_ponds 5 (some .boolean) 1 12 := ⟨⟨(gq_9 135 rfl rfl), (gq_1 17 (by decide +kernel) rfl), by decide +kernel, by decide⟩, (gq_9 133 (by decide +kernel) rfl), (gq_9 134 (by decide +kernel) rfl), _, rfl, rfl⟩
set_option maxRecDepth 20000 in
theorem yw_X12_copyHeld : YV yX12_copyHeld cX12_copyHeld 4 (some .int) 1 12 := ⟨⟨(gq_9 146 rfl rfl), (gq_1 17 (by decide +kernel) rfl), by decide +kernel, by decide⟩, (gq_9 144 (by decide +kernel) rfl), (gq_9 145 (by decide +kernel) rfl), _, rfl, rfl⟩
set_option maxRecDepth 20000 in
theorem yw_X12_keeps : YV yX12_keeps cX12_keeps 2 none 0 12 := ⟨⟨(gq_9 167 rfl rfl), (gq_1 17 (by decide +kernel) rfl), by decide +kernel, by decide⟩, (gq_9 166 (by decide +kernel) rfl), (gp_8 10 (by decide +kernel) rfl), _, rfl, rfl⟩
set_option maxRecDepth 20000 in
theorem yw_X12_gives : YV yX12_gives cX12_gives 2 none 0 12 := ⟨⟨(gq_9 171 rfl rfl), (gq_1 17 (by decide +kernel) rfl), by decide +kernel, by decide⟩, (gq_9 170 (by decide +kernel) rfl), (gp_8 11 (by decide +kernel) rfl), _, rfl, rfl⟩
set_option maxRecDepth 20000 in
theorem yw_X12_isAhead : YS yX12_isAhead cX12_isAhead 1 (some .boolean) 1 := ⟨⟨(gq_9 158 rfl rfl), (gq_1 17 (by decide +kernel) rfl), by decide +kernel, by decide⟩, (gq_9 157 (by decide +kernel) rfl)⟩
set_option maxRecDepth 20000 in
theorem yw_X12_goesAhead : YV yX12_goesAhead cX12_goesAhead 3 none 1 12 := ⟨⟨(gq_9 163 rfl rfl), (gq_1 17 (by decide +kernel) rfl), by decide +kernel, by decide⟩, (gq_9 162 (by decide +kernel) rfl), (gp_8 9 (by decide +kernel) rfl), _, rfl, rfl⟩
set_option maxRecDepth 20000 in
theorem yw_X12_holderIn : YV yX12_holderIn cX12_holderIn 5 (some .int) 3 12 := ⟨⟨(gq_9 155 rfl rfl), (gq_1 17 (by decide +kernel) rfl), by decide +kernel, by decide⟩, (gq_9 153 (by decide +kernel) rfl), (gq_9 154 (by decide +kernel) rfl), _, rfl, rfl⟩
set_option maxRecDepth 20000 in
theorem yw_X12_cellIn : YV yX12_cellIn cX12_cellIn 4 (some .int) 2 12 := ⟨⟨(gq_9 179 rfl rfl), (gq_1 17 (by decide +kernel) rfl), by decide +kernel, by decide⟩, (gq_9 178 (by decide +kernel) rfl), (gp_8 12 (by decide +kernel) rfl), _, rfl, rfl⟩
set_option maxRecDepth 20000 in
theorem yw_X12_pointsIn : YV yX12_pointsIn cX12_pointsIn 3 (some .int) 2 12 := ⟨⟨(gq_9 175 rfl rfl), (gq_1 17 (by decide +kernel) rfl), by decide +kernel, by decide⟩, (gq_9 173 (by decide +kernel) rfl), (gq_9 174 (by decide +kernel) rfl), _, rfl, rfl⟩
set_option maxRecDepth 20000 in
theorem yw_X12_lipsIn : YV yX12_lipsIn cX12_lipsIn 3 (some .int) 2 12 := ⟨⟨(gq_9 183 rfl rfl), (gq_1 17 (by decide +kernel) rfl), by decide +kernel, by decide⟩, (gq_9 181 (by decide +kernel) rfl), (gq_9 182 (by decide +kernel) rfl), _, rfl, rfl⟩
set_option maxRecDepth 20000 in
theorem yw_X12_tiredIn : YV yX12_tiredIn cX12_tiredIn 4 (some .int) 1 12 := ⟨⟨(gq_9 187 rfl rfl), (gq_1 17 (by decide +kernel) rfl), by decide +kernel, by decide⟩, (gq_9 185 (by decide +kernel) rfl), (gq_9 186 (by decide +kernel) rfl), _, rfl, rfl⟩
set_option maxRecDepth 20000 in
theorem yw_X12_changesIn : YV yX12_changesIn cX12_changesIn 6 (some .int) 2 12 := ⟨⟨(gq_9 191 rfl rfl), (gq_1 17 (by decide +kernel) rfl), by decide +kernel, by decide⟩, (gq_9 189 (by decide +kernel) rfl), (gq_9 190 (by decide +kernel) rfl), _, rfl, rfl⟩
set_option maxRecDepth 20000 in
theorem yw_X12_digit : YS yX12_digit cX12_digit 5 (some .int) 3 := ⟨⟨(gq_9 214 rfl rfl), (gq_1 17 (by decide +kernel) rfl), by decide +kernel, by decide⟩, (gq_9 213 (by decide +kernel) rfl)⟩
set_option maxRecDepth 20000 in
theorem yw_X12_entryOf : YV yX12_entryOf cX12_entryOf 5 (some .int) 3 12 := ⟨⟨(gq_9 211 rfl rfl), (gq_1 17 (by decide +kernel) rfl), by decide +kernel, by decide⟩, (gq_9 210 (by decide +kernel) rfl), (gp_9 0 (by decide +kernel) rfl), _, rfl, rfl⟩
set_option maxRecDepth 20000 in
theorem yw_X12_heldBy : YV yX12_heldBy cX12_heldBy 8 (some .int) 5 12 := ⟨⟨(gq_9 207 rfl rfl), (gq_1 17 (by decide +kernel) rfl), by decide +kernel, by decide⟩, (gq_9 206 (by decide +kernel) rfl), (gp_8 15 (by decide +kernel) rfl), _, rfl, rfl⟩
set_option maxRecDepth 20000 in
theorem yw_X12_bestCode : YV yX12_bestCode cX12_bestCode 9 (some .int) 4 12 := ⟨⟨(gq_9 203 rfl rfl), (gq_1 17 (by decide +kernel) rfl), by decide +kernel, by decide⟩, (gq_9 202 (by decide +kernel) rfl), (gp_8 14 (by decide +kernel) rfl), _, rfl, rfl⟩
set_option maxRecDepth 20000 in
theorem yw_X12_whyNoHolding : YV yX12_whyNoHolding cX12_whyNoHolding 5 (some .int) 4 12 := ⟨⟨(gq_9 199 rfl rfl), (gq_1 17 (by decide +kernel) rfl), by decide +kernel, by decide⟩, (gq_9 198 (by decide +kernel) rfl), (gp_8 13 (by decide +kernel) rfl), _, rfl, rfl⟩
set_option maxRecDepth 20000 in
theorem yw_X12_holding : YV yX12_holding cX12_holding 5 (some .int) 4 12 := ⟨⟨(gq_9 195 rfl rfl), (gq_1 17 (by decide +kernel) rfl), by decide +kernel, by decide⟩, (gq_9 193 (by decide +kernel) rfl), (gq_9 194 (by decide +kernel) rfl), _, rfl, rfl⟩
set_option maxRecDepth 20000 in
theorem yw_X12_holdingAt : YV yX12_holdingAt cX12_holdingAt 6 (some .int) 5 12 := ⟨⟨(gq_9 218 rfl rfl), (gq_1 17 (by decide +kernel) rfl), by decide +kernel, by decide⟩, (gq_9 216 (by decide +kernel) rfl), (gq_9 217 (by decide +kernel) rfl), _, rfl, rfl⟩
set_option maxRecDepth 20000 in
theorem yw_X12_bestTune : YV yX12_bestTune cX12_bestTune 5 (some .int) 1 12 := ⟨⟨(gq_9 226 rfl rfl), (gq_1 17 (by decide +kernel) rfl), by decide +kernel, by decide⟩, (gq_9 225 (by decide +kernel) rfl), (gp_9 1 (by decide +kernel) rfl), _, rfl, rfl⟩
set_option maxRecDepth 20000 in
theorem yw_X12_best : YV yX12_best cX12_best 3 (some .int) 1 12 := ⟨⟨(gq_9 222 rfl rfl), (gq_1 17 (by decide +kernel) rfl), by decide +kernel, by decide⟩, (gq_9 220 (by decide +kernel) rfl), (gq_9 221 (by decide +kernel) rfl), _, rfl, rfl⟩
set_option maxRecDepth 20000 in
theorem yw_X12_bestLawns : YV yX12_bestLawns cX12_bestLawns 2 (some .int) 1 12 := ⟨⟨(gq_9 230 rfl rfl), (gq_1 17 (by decide +kernel) rfl), by decide +kernel, by decide⟩, (gq_9 228 (by decide +kernel) rfl), (gq_9 229 (by decide +kernel) rfl), _, rfl, rfl⟩
set_option maxRecDepth 20000 in
theorem yw_X12_low : YV yX12_low cX12_low 6 (some .int) 3 12 := ⟨⟨(gq_9 234 rfl rfl), (gq_1 17 (by decide +kernel) rfl), by decide +kernel, by decide⟩, (gq_9 232 (by decide +kernel) rfl), (gq_9 233 (by decide +kernel) rfl), _, rfl, rfl⟩
set_option maxRecDepth 20000 in
theorem yw_X12_canChange : YV yX12_canChange cX12_canChange 3 (some .boolean) 2 12 := ⟨⟨(gq_10 10 rfl rfl), (gq_1 17 (by decide +kernel) rfl), by decide +kernel, by decide⟩, (gq_10 9 (by decide +kernel) rfl), (gp_9 4 (by decide +kernel) rfl), _, rfl, rfl⟩
set_option maxRecDepth 20000 in
theorem yw_X12_plays2 : YV yX12_plays2 cX12_plays2 12 (some .int) 4 12 := ⟨⟨(gq_10 6 rfl rfl), (gq_1 17 (by decide +kernel) rfl), by decide +kernel, by decide⟩, (gq_10 5 (by decide +kernel) rfl), (gp_9 3 (by decide +kernel) rfl), _, rfl, rfl⟩
set_option maxRecDepth 20000 in
theorem yw_X12_whyNoGame : YV yX12_whyNoGame cX12_whyNoGame 5 (some .int) 4 12 := ⟨⟨(gq_10 2 rfl rfl), (gq_1 17 (by decide +kernel) rfl), by decide +kernel, by decide⟩, (gq_10 1 (by decide +kernel) rfl), (gp_9 2 (by decide +kernel) rfl), _, rfl, rfl⟩
set_option maxRecDepth 20000 in
theorem yw_X12_game : YV yX12_game cX12_game 4 (some .int) 3 12 := ⟨⟨(gq_9 238 rfl rfl), (gq_1 17 (by decide +kernel) rfl), by decide +kernel, by decide⟩, (gq_9 236 (by decide +kernel) rfl), (gq_9 237 (by decide +kernel) rfl), _, rfl, rfl⟩
set_option maxRecDepth 20000 in
theorem yw_X12_moveOf : YV yX12_moveOf cX12_moveOf 4 (some .int) 3 12 := ⟨⟨(gq_10 14 rfl rfl), (gq_1 17 (by decide +kernel) rfl), by decide +kernel, by decide⟩, (gq_10 12 (by decide +kernel) rfl), (gq_10 13 (by decide +kernel) rfl), _, rfl, rfl⟩
set_option maxRecDepth 20000 in
theorem yw_X12_areLouder : YV yX12_areLouder cX12_areLouder 7 (some .boolean) 3 12 := ⟨⟨(gq_10 30 rfl rfl), (gq_1 17 (by decide +kernel) rfl), by decide +kernel, by decide⟩, (gq_10 29 (by decide +kernel) rfl), (gp_9 7 (by decide +kernel) rfl), _, rfl, rfl⟩
set_option maxRecDepth 20000 in
theorem yw_X12_allyOf : YV yX12_allyOf cX12_allyOf 5 (some .int) 1 12 := ⟨⟨(gq_10 26 rfl rfl), (gq_1 17 (by decide +kernel) rfl), by decide +kernel, by decide⟩, (gq_10 25 (by decide +kernel) rfl), (gp_9 6 (by decide +kernel) rfl), _, rfl, rfl⟩
set_option maxRecDepth 20000 in
theorem yw_X12_isStable : YV yX12_isStable cX12_isStable 4 (some .boolean) 1 12 := ⟨⟨(gq_10 38 rfl rfl), (gq_1 17 (by decide +kernel) rfl), by decide +kernel, by decide⟩, (gq_10 37 (by decide +kernel) rfl), (gp_9 8 (by decide +kernel) rfl), _, rfl, rfl⟩
set_option maxRecDepth 20000 in
theorem yw_X12_areBands : YV yX12_areBands cX12_areBands 2 (some .boolean) 1 12 := ⟨⟨(gq_10 22 rfl rfl), (gq_1 17 (by decide +kernel) rfl), by decide +kernel, by decide⟩, (gq_10 21 (by decide +kernel) rfl), (gp_9 5 (by decide +kernel) rfl), _, rfl, rfl⟩
set_option maxRecDepth 20000 in
theorem yw_X12_ally : YV yX12_ally cX12_ally 2 (some .int) 1 12 := ⟨⟨(gq_10 18 rfl rfl), (gq_1 17 (by decide +kernel) rfl), by decide +kernel, by decide⟩, (gq_10 16 (by decide +kernel) rfl), (gq_10 17 (by decide +kernel) rfl), _, rfl, rfl⟩
set_option maxRecDepth 20000 in
theorem yw_X12_stable : YV yX12_stable cX12_stable 2 (some .int) 1 12 := ⟨⟨(gq_10 34 rfl rfl), (gq_1 17 (by decide +kernel) rfl), by decide +kernel, by decide⟩, (gq_10 32 (by decide +kernel) rfl), (gq_10 33 (by decide +kernel) rfl), _, rfl, rfl⟩
set_option maxRecDepth 20000 in
theorem yw_X12_alliance : YV yX12_alliance cX12_alliance 4 (some .int) 0 12 := ⟨⟨(gq_10 45 rfl rfl), (gq_1 17 (by decide +kernel) rfl), by decide +kernel, by decide⟩, (gq_10 43 (by decide +kernel) rfl), (gq_10 44 (by decide +kernel) rfl), _, rfl, rfl⟩
set_option maxRecDepth 20000 in
theorem yw_X12_begins : YS yX12_begins cX12_begins 3 (some .boolean) 3 := ⟨⟨(gq_10 52 rfl rfl), (gq_1 17 (by decide +kernel) rfl), by decide +kernel, by decide⟩, (gq_10 51 (by decide +kernel) rfl)⟩
set_option maxRecDepth 20000 in
theorem yw_X12_together : YV yX12_together cX12_together 6 (some .int) 4 12 := ⟨⟨(gq_10 49 rfl rfl), (gq_1 17 (by decide +kernel) rfl), by decide +kernel, by decide⟩, (gq_10 47 (by decide +kernel) rfl), (gq_10 48 (by decide +kernel) rfl), _, rfl, rfl⟩
set_option maxRecDepth 20000 in
theorem yw_X12_whyNoLips : YV yX12_whyNoLips cX12_whyNoLips 5 (some .int) 3 12 := ⟨⟨(gq_10 60 rfl rfl), (gq_1 17 (by decide +kernel) rfl), by decide +kernel, by decide⟩, (gq_10 59 (by decide +kernel) rfl), (gp_9 9 (by decide +kernel) rfl), _, rfl, rfl⟩
set_option maxRecDepth 20000 in
theorem yw_X12_isSo : YV yX12_isSo cX12_isSo 9 (some .boolean) 4 12 := ⟨⟨(gq_10 69 rfl rfl), (gq_1 17 (by decide +kernel) rfl), by decide +kernel, by decide⟩, (gq_10 68 (by decide +kernel) rfl), (gp_9 11 (by decide +kernel) rfl), _, rfl, rfl⟩
set_option maxRecDepth 20000 in
theorem yw_X12_fits : YV yX12_fits cX12_fits 6 (some .int) 3 12 := ⟨⟨(gq_10 56 rfl rfl), (gq_1 17 (by decide +kernel) rfl), by decide +kernel, by decide⟩, (gq_10 54 (by decide +kernel) rfl), (gq_10 55 (by decide +kernel) rfl), _, rfl, rfl⟩
set_option maxRecDepth 20000 in
theorem yw_X12_fitsAt : YV yX12_fitsAt cX12_fitsAt 7 (some .int) 4 12 := ⟨⟨(gq_10 73 rfl rfl), (gq_1 17 (by decide +kernel) rfl), by decide +kernel, by decide⟩, (gq_10 71 (by decide +kernel) rfl), (gq_10 72 (by decide +kernel) rfl), _, rfl, rfl⟩
set_option maxRecDepth 20000 in
theorem yw_X12_areBeside : YV yX12_areBeside cX12_areBeside 3 (some .boolean) 2 12 := ⟨⟨(gq_10 89 rfl rfl), (gq_1 17 (by decide +kernel) rfl), by decide +kernel, by decide⟩, (gq_10 88 (by decide +kernel) rfl), (gp_9 14 (by decide +kernel) rfl), _, rfl, rfl⟩
set_option maxRecDepth 20000 in
theorem yw_X12_stepsBy : YV yX12_stepsBy cX12_stepsBy 7 (some .int) 3 12 := ⟨⟨(gq_10 85 rfl rfl), (gq_1 17 (by decide +kernel) rfl), by decide +kernel, by decide⟩, (gq_10 84 (by decide +kernel) rfl), (gp_9 13 (by decide +kernel) rfl), _, rfl, rfl⟩
set_option maxRecDepth 20000 in
theorem yw_X12_quietest : YV yX12_quietest cX12_quietest 6 (some .int) 4 12 := ⟨⟨(gq_10 81 rfl rfl), (gq_1 17 (by decide +kernel) rfl), by decide +kernel, by decide⟩, (gq_10 80 (by decide +kernel) rfl), (gp_9 12 (by decide +kernel) rfl), _, rfl, rfl⟩
set_option maxRecDepth 20000 in
theorem yw_X12_quiet : YV yX12_quiet cX12_quiet 5 (some .int) 4 12 := ⟨⟨(gq_10 77 rfl rfl), (gq_1 17 (by decide +kernel) rfl), by decide +kernel, by decide⟩, (gq_10 75 (by decide +kernel) rfl), (gq_10 76 (by decide +kernel) rfl), _, rfl, rfl⟩
set_option maxRecDepth 20000 in
theorem yw_X12_quietSteps : YV yX12_quietSteps cX12_quietSteps 5 (some .int) 4 12 := ⟨⟨(gq_10 93 rfl rfl), (gq_1 17 (by decide +kernel) rfl), by decide +kernel, by decide⟩, (gq_10 91 (by decide +kernel) rfl), (gq_10 92 (by decide +kernel) rfl), _, rfl, rfl⟩
set_option maxRecDepth 20000 in
theorem yw_X12_wet : YV yX12_wet cX12_wet 8 (some .boolean) 2 12 := ⟨⟨(gq_10 97 rfl rfl), (gq_1 17 (by decide +kernel) rfl), by decide +kernel, by decide⟩, (gq_10 95 (by decide +kernel) rfl), (gq_10 96 (by decide +kernel) rfl), _, rfl, rfl⟩
set_option maxRecDepth 20000 in
theorem yw_X12_draw : YV yX12_draw cX12_draw 2 (some .int) 1 12 := ⟨⟨(gq_10 135 rfl rfl), (gq_1 17 (by decide +kernel) rfl), by decide +kernel, by decide⟩, (gq_10 134 (by decide +kernel) rfl), (gp_10 6 (by decide +kernel) rfl), _, rfl, rfl⟩
set_option maxRecDepth 20000 in
theorem yw_X12_anyHours : YV yX12_anyHours cX12_anyHours 3 (some .boolean) 1 12 := ⟨⟨(gq_10 123 rfl rfl), (gq_1 17 (by decide +kernel) rfl), by decide +kernel, by decide⟩, (gq_10 122 (by decide +kernel) rfl), (gp_10 3 (by decide +kernel) rfl), _, rfl, rfl⟩
set_option maxRecDepth 20000 in
theorem yw_X12_isAny : YV yX12_isAny cX12_isAny 1 (some .boolean) 0 12 := ⟨⟨(gq_10 131 rfl rfl), (gq_1 17 (by decide +kernel) rfl), by decide +kernel, by decide⟩, (gq_10 130 (by decide +kernel) rfl), (gp_10 5 (by decide +kernel) rfl), _, rfl, rfl⟩
set_option maxRecDepth 20000 in
theorem yw_X12_isSet : YV yX12_isSet cX12_isSet 4 (some .boolean) 3 12 := ⟨⟨(gq_10 127 rfl rfl), (gq_1 17 (by decide +kernel) rfl), by decide +kernel, by decide⟩, (gq_10 126 (by decide +kernel) rfl), (gp_10 4 (by decide +kernel) rfl), _, rfl, rfl⟩
set_option maxRecDepth 20000 in
theorem yw_X12_does : YV yX12_does cX12_does 3 (some .boolean) 1 12 := ⟨⟨(gq_10 119 rfl rfl), (gq_1 17 (by decide +kernel) rfl), by decide +kernel, by decide⟩, (gq_10 118 (by decide +kernel) rfl), (gp_10 2 (by decide +kernel) rfl), _, rfl, rfl⟩
set_option maxRecDepth 20000 in
theorem yw_X12_isTrue : YV yX12_isTrue cX12_isTrue 4 (some .boolean) 1 12 := ⟨⟨(gq_10 140 rfl rfl), (gq_1 17 (by decide +kernel) rfl), by decide +kernel, by decide⟩, (gq_10 139 (by decide +kernel) rfl), (gp_10 7 (by decide +kernel) rfl), _, rfl, rfl⟩
set_option maxRecDepth 20000 in
theorem yw_X12_doAll : YV yX12_doAll cX12_doAll 4 none 2 12 := ⟨⟨(gq_10 111 rfl rfl), (gq_1 17 (by decide +kernel) rfl), by decide +kernel, by decide⟩, (gq_10 110 (by decide +kernel) rfl), (gp_10 0 (by decide +kernel) rfl), _, rfl, rfl⟩
set_option maxRecDepth 20000 in
theorem yw_X12_doOne : YV yX12_doOne cX12_doOne 5 none 1 12 := ⟨⟨(gq_10 115 rfl rfl), (gq_1 17 (by decide +kernel) rfl), by decide +kernel, by decide⟩, (gq_10 114 (by decide +kernel) rfl), (gp_10 1 (by decide +kernel) rfl), _, rfl, rfl⟩
set_option maxRecDepth 20000 in
theorem yw_X12_runsSteps : YV yX12_runsSteps cX12_runsSteps 2 none 1 12 := ⟨⟨(gq_10 107 rfl rfl), (gq_1 17 (by decide +kernel) rfl), by decide +kernel, by decide⟩, (gq_10 106 (by decide +kernel) rfl), (gp_9 15 (by decide +kernel) rfl), _, rfl, rfl⟩
set_option maxRecDepth 20000 in
theorem yw_X12_live : YV yX12_live cX12_live 2 (some .int) 1 12 := ⟨⟨(gq_10 102 rfl rfl), (gq_1 17 (by decide +kernel) rfl), by decide +kernel, by decide⟩, (gq_10 100 (by decide +kernel) rfl), (gq_10 101 (by decide +kernel) rfl), _, rfl, rfl⟩
set_option maxRecDepth 20000 in
theorem yw_X12_lived : YV yX12_lived cX12_lived 2 (some .int) 1 12 := ⟨⟨(gq_10 144 rfl rfl), (gq_1 17 (by decide +kernel) rfl), by decide +kernel, by decide⟩, (gq_10 142 (by decide +kernel) rfl), (gq_10 143 (by decide +kernel) rfl), _, rfl, rfl⟩
set_option maxRecDepth 20000 in
theorem yw_X12_mean : YV yX12_mean cX12_mean 8 (some .boolean) 3 12 := ⟨⟨(gq_10 148 rfl rfl), (gq_1 17 (by decide +kernel) rfl), by decide +kernel, by decide⟩, (gq_10 146 (by decide +kernel) rfl), (gq_10 147 (by decide +kernel) rfl), _, rfl, rfl⟩
set_option maxRecDepth 20000 in
theorem yw_X12_mark : YV yX12_mark cX12_mark 1 (some .int) 0 12 := ⟨⟨(gq_10 152 rfl rfl), (gq_1 17 (by decide +kernel) rfl), by decide +kernel, by decide⟩, (gq_10 150 (by decide +kernel) rfl), (gq_10 151 (by decide +kernel) rfl), _, rfl, rfl⟩
set_option maxRecDepth 20000 in
theorem yw_X12_back : YV yX12_back cX12_back 1 (some .int) 0 12 := ⟨⟨(gq_10 156 rfl rfl), (gq_1 17 (by decide +kernel) rfl), by decide +kernel, by decide⟩, (gq_10 154 (by decide +kernel) rfl), (gq_10 155 (by decide +kernel) rfl), _, rfl, rfl⟩
