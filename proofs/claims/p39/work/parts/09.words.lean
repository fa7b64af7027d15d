set_option maxRecDepth 20000 in
theorem tw_4_236 : Cond.methodLink RX11 317 yX11_has ∈ ru_T := ru_in 4 236 (by decide +kernel)
set_option maxRecDepth 20000 in
theorem tw_3_126 : Cond.static yX11_has ∈ ru_T := ru_in 3 126 (by decide +kernel)
set_option maxRecDepth 20000 in
theorem tw_1_1 : Cond.initialized RX11 ∈ ru_T := ru_in 1 1 (by decide +kernel)
set_option maxRecDepth 20000 in
theorem tw_3_127 : Cond.code yX11_has cX11_has 3 (some .boolean) ∈ ru_T := ru_inc 3 127 rfl rfl
theorem mT_X11_has : ∀ w ∈ wsX11_has, w ∈ ru_T := ru_gc tw_3_127
set_option maxRecDepth 20000 in
theorem tw_4_12 : Cond.methodLink RX11 256 yX11_apart ∈ ru_T := ru_in 4 12 (by decide +kernel)
set_option maxRecDepth 20000 in
theorem tw_3_119 : Cond.static yX11_apart ∈ ru_T := ru_in 3 119 (by decide +kernel)
set_option maxRecDepth 20000 in
theorem tw_3_120 : Cond.code yX11_apart cX11_apart 4 (some .int) ∈ ru_T := ru_inc 3 120 rfl rfl
theorem mT_X11_apart : ∀ w ∈ wsX11_apart, w ∈ ru_T := ru_gc tw_3_120
set_option maxRecDepth 20000 in
theorem tw_4_227 : Cond.methodLink RX9 49 yX9_truth ∈ ru_T := ru_in 4 227 (by decide +kernel)
set_option maxRecDepth 20000 in
theorem tw_4_228 : Cond.static yX9_truth ∈ ru_T := ru_in 4 228 (by decide +kernel)
set_option maxRecDepth 20000 in
theorem tw_1_8 : Cond.initialized RX9 ∈ ru_T := ru_in 1 8 (by decide +kernel)
set_option maxRecDepth 20000 in
theorem tw_4_229 : Cond.code yX9_truth cX9_truth 1 (some .int) ∈ ru_T := ru_inc 4 229 rfl rfl
theorem mT_X9_truth : ∀ w ∈ wsX9_truth, w ∈ ru_T := ru_gc tw_4_229
set_option maxRecDepth 20000 in
theorem tw_3_121 : Cond.methodLink RX11 395 Lib.Math.abs.name ∈ ru_T := ru_in 3 121 (by decide +kernel)
set_option maxRecDepth 20000 in
theorem tw_3_122 : Cond.static Lib.Math.abs.name ∈ ru_T := ru_in 3 122 (by decide +kernel)
set_option maxRecDepth 20000 in
theorem tw_1_17 : Cond.initialized "java/lang/Math" ∈ ru_T := ru_in 1 17 (by decide +kernel)
set_option maxRecDepth 20000 in
theorem tw_3_123 : Cond.code Lib.Math.abs.name Lib.Math.abs.code 1 (some .int) ∈ ru_T := ru_in 3 123 (by decide +kernel)
set_option maxRecDepth 20000 in
theorem tw_3_124 : Cond.methodLink RX11 400 Lib.Math.max.name ∈ ru_T := ru_in 3 124 (by decide +kernel)
set_option maxRecDepth 20000 in
theorem tw_2_156 : Cond.static Lib.Math.max.name ∈ ru_T := ru_in 2 156 (by decide +kernel)
set_option maxRecDepth 20000 in
theorem tw_2_157 : Cond.code Lib.Math.max.name Lib.Math.max.code 2 (some .int) ∈ ru_T := ru_in 2 157 (by decide +kernel)
set_option maxRecDepth 20000 in
theorem tw_3_62 : Cond.constantLong RX11 406 (72340172838076673) ∈ ru_T := ru_in 3 62 (by decide +kernel)
set_option maxRecDepth 20000 in
theorem tw_4_237 : Cond.methodLink RX11 403 Lib.Math.min.name ∈ ru_T := ru_in 4 237 (by decide +kernel)
set_option maxRecDepth 20000 in
theorem tw_2_181 : Cond.static Lib.Math.min.name ∈ ru_T := ru_in 2 181 (by decide +kernel)
set_option maxRecDepth 20000 in
theorem tw_2_182 : Cond.code Lib.Math.min.name Lib.Math.min.code 2 (some .int) ∈ ru_T := ru_in 2 182 (by decide +kernel)
set_option maxRecDepth 20000 in
theorem tw_3_148 : Cond.constantLong RX4 69 (15) ∈ ru_T := ru_in 3 148 (by decide +kernel)
set_option maxRecDepth 20000 in
theorem tw_2_147 : Cond.methodLink RX0 62 yX0_eats ∈ ru_T := ru_in 2 147 (by decide +kernel)
set_option maxRecDepth 20000 in
theorem tw_2_148 : Cond.instanceMethod yX0_eats ∈ ru_T := ru_in 2 148 (by decide +kernel)
set_option maxRecDepth 20000 in
theorem tw_2_149 : Cond.selects RX0 yX0_eats yX0_eats ∈ ru_T := ru_in 2 149 (by decide +kernel)
set_option maxRecDepth 20000 in
theorem tw_1_18 : Cond.initialized RX0 ∈ ru_T := ru_in 1 18 (by decide +kernel)
set_option maxRecDepth 20000 in
theorem tw_2_150 : Cond.code yX0_eats cX0_eats 1 (some .int) ∈ ru_T := ru_inc 2 150 rfl rfl
theorem mT_X0_eats : ∀ w ∈ wsX0_eats, w ∈ ru_T := ru_gc tw_2_150
set_option maxRecDepth 20000 in
theorem tw_3_65 : Cond.code yX11_byRows cX11_byRows 3 (some .long) ∈ ru_T := ru_inc 3 65 rfl rfl
theorem mT_X11_byRows : ∀ w ∈ wsX11_byRows, w ∈ ru_T := ru_gc tw_3_65
set_option maxRecDepth 20000 in
theorem tw_3_61 : Cond.code yX11_byColumns cX11_byColumns 5 (some .long) ∈ ru_T := ru_inc 3 61 rfl rfl
theorem mT_X11_byColumns : ∀ w ∈ wsX11_byColumns, w ∈ ru_T := ru_gc tw_3_61
set_option maxRecDepth 20000 in
theorem tw_3_55 : Cond.methodLink RX0 75 yX10_blow ∈ ru_T := ru_in 3 55 (by decide +kernel)
set_option maxRecDepth 20000 in
theorem tw_3_56 : Cond.instanceMethod yX10_blow ∈ ru_T := ru_in 3 56 (by decide +kernel)
set_option maxRecDepth 20000 in
theorem tw_3_57 : Cond.selects RX10 yX10_blow yX10_blow ∈ ru_T := ru_in 3 57 (by decide +kernel)
set_option maxRecDepth 20000 in
theorem tw_1_2 : Cond.initialized RX10 ∈ ru_T := ru_in 1 2 (by decide +kernel)
set_option maxRecDepth 20000 in
theorem tw_3_58 : Cond.code yX10_blow cX10_blow 11 (some .long) ∈ ru_T := ru_inc 3 58 rfl rfl
theorem mT_X10_blow : ∀ w ∈ wsX10_blow, w ∈ ru_T := ru_gc tw_3_58
set_option maxRecDepth 20000 in
theorem tw_3_78 : Cond.methodLink RX0 84 yX0_forgetBehind ∈ ru_T := ru_in 3 78 (by decide +kernel)
set_option maxRecDepth 20000 in
theorem tw_2_177 : Cond.instanceMethod yX0_forgetBehind ∈ ru_T := ru_in 2 177 (by decide +kernel)
set_option maxRecDepth 20000 in
theorem tw_2_178 : Cond.selects RX0 yX0_forgetBehind yX0_forgetBehind ∈ ru_T := ru_in 2 178 (by decide +kernel)
set_option maxRecDepth 20000 in
theorem tw_2_179 : Cond.code yX0_forgetBehind cX0_forgetBehind 2 none ∈ ru_T := ru_inc 2 179 rfl rfl
theorem mT_X0_forgetBehind : ∀ w ∈ wsX0_forgetBehind, w ∈ ru_T := ru_gc tw_2_179
set_option maxRecDepth 20000 in
theorem tw_3_51 : Cond.methodLink RX0 102 yX0_driftIn ∈ ru_T := ru_in 3 51 (by decide +kernel)
set_option maxRecDepth 20000 in
theorem tw_3_52 : Cond.instanceMethod yX0_driftIn ∈ ru_T := ru_in 3 52 (by decide +kernel)
set_option maxRecDepth 20000 in
theorem tw_3_53 : Cond.selects RX0 yX0_driftIn yX0_driftIn ∈ ru_T := ru_in 3 53 (by decide +kernel)
set_option maxRecDepth 20000 in
theorem tw_3_54 : Cond.code yX0_driftIn cX0_driftIn 6 (some .long) ∈ ru_T := ru_inc 3 54 rfl rfl
theorem mT_X0_driftIn : ∀ w ∈ wsX0_driftIn, w ∈ ru_T := ru_gc tw_3_54
set_option maxRecDepth 20000 in
theorem tw_3_66 : Cond.methodLink RX0 98 yX0_narrowed ∈ ru_T := ru_in 3 66 (by decide +kernel)
set_option maxRecDepth 20000 in
theorem tw_3_68 : Cond.instanceMethod yX0_narrowed ∈ ru_T := ru_in 3 68 (by decide +kernel)
set_option maxRecDepth 20000 in
theorem tw_0_2 : Cond.selects RX0 yX0_narrowed yX0_narrowed ∈ ru_T := ru_in 0 2 (by decide +kernel)
set_option maxRecDepth 20000 in
theorem tw_3_69 : Cond.code yX0_narrowed cX0_narrowed 8 (some .long) ∈ ru_T := ru_inc 3 69 rfl rfl
theorem mT_X0_narrowed : ∀ w ∈ wsX0_narrowed, w ∈ ru_T := ru_gc tw_3_69
set_option maxRecDepth 20000 in
theorem tw_3_47 : Cond.methodLink RX0 94 yX0_placesNow ∈ ru_T := ru_in 3 47 (by decide +kernel)
set_option maxRecDepth 20000 in
theorem tw_3_48 : Cond.instanceMethod yX0_placesNow ∈ ru_T := ru_in 3 48 (by decide +kernel)
set_option maxRecDepth 20000 in
theorem tw_3_49 : Cond.selects RX0 yX0_placesNow yX0_placesNow ∈ ru_T := ru_in 3 49 (by decide +kernel)
set_option maxRecDepth 20000 in
theorem tw_3_50 : Cond.code yX0_placesNow cX0_placesNow 6 (some .long) ∈ ru_T := ru_inc 3 50 rfl rfl
theorem mT_X0_placesNow : ∀ w ∈ wsX0_placesNow, w ∈ ru_T := ru_gc tw_3_50
set_option maxRecDepth 20000 in
theorem iT_X0 : ∀ w ∈ wsX00, w ∈ ru_T := ru_inq _ [(2, 228), (2, 230), (2, 232), (2, 234), (2, 236), (2, 238), (3, 0), (3, 2), (3, 4), (3, 6), (3, 8), (3, 10), (3, 12), (3, 14), (3, 16)] (by decide +kernel) (by decide +kernel)
set_option maxRecDepth 20000 in
theorem tw_2_209 : Cond.fieldLink RX0 41 "RedTent$Body" "men" "I" ∈ ru_T := ru_in 2 209 (by decide +kernel)
set_option maxRecDepth 20000 in
theorem tw_2_203 : Cond.fieldLink RX0 31 "RedTent$Body" "kind" "I" ∈ ru_T := ru_in 2 203 (by decide +kernel)
set_option maxRecDepth 20000 in
theorem tw_2_213 : Cond.fieldLink RX0 44 "RedTent$Body" "food" "I" ∈ ru_T := ru_in 2 213 (by decide +kernel)
set_option maxRecDepth 20000 in
theorem tw_2_155 : Cond.methodLink RX0 66 Lib.Math.max.name ∈ ru_T := ru_in 2 155 (by decide +kernel)
set_option maxRecDepth 20000 in
theorem iT_X10 : ∀ w ∈ wsX100, w ∈ ru_T := ru_inq _ [(1, 41), (1, 43), (1, 45), (1, 47)] (by decide +kernel) (by decide +kernel)
set_option maxRecDepth 20000 in
theorem tw_1_35 : Cond.fieldLink RX10 9 "RedTent$Weather" "windBy" "[I" ∈ ru_T := ru_in 1 35 (by decide +kernel)
set_option maxRecDepth 20000 in
theorem tw_3_64 : Cond.static yX11_byRows ∈ ru_T := ru_in 3 64 (by decide +kernel)
set_option maxRecDepth 20000 in
theorem tw_3_60 : Cond.static yX11_byColumns ∈ ru_T := ru_in 3 60 (by decide +kernel)
set_option maxRecDepth 20000 in
theorem tw_2_215 : Cond.fieldLink RX0 9 "RedTent$Body" "fixHour" "[I" ∈ ru_T := ru_in 2 215 (by decide +kernel)
set_option maxRecDepth 20000 in
theorem tw_2_217 : Cond.fieldLink RX0 18 "RedTent$Body" "fixCells" "[J" ∈ ru_T := ru_in 2 217 (by decide +kernel)
set_option maxRecDepth 20000 in
theorem tw_2_207 : Cond.fieldLink RX0 38 "RedTent$Body" "begin" "I" ∈ ru_T := ru_in 2 207 (by decide +kernel)
set_option maxRecDepth 20000 in
theorem tw_2_227 : Cond.fieldLink RX0 50 "RedTent$Body" "sureTo" "I" ∈ ru_T := ru_in 2 227 (by decide +kernel)
set_option maxRecDepth 20000 in
theorem tw_2_180 : Cond.methodLink RX0 88 Lib.Math.min.name ∈ ru_T := ru_in 2 180 (by decide +kernel)
set_option maxRecDepth 20000 in
theorem tw_2_218 : Cond.fieldLink RX0 81 "RedTent$Body" "fixed" "I" ∈ ru_T := ru_in 2 218 (by decide +kernel)
set_option maxRecDepth 20000 in
theorem tw_2_216 : Cond.fieldLink RX0 15 "RedTent$Body" "fixTold" "[I" ∈ ru_T := ru_in 2 216 (by decide +kernel)
set_option maxRecDepth 20000 in
theorem tw_2_219 : Cond.fieldLink RX0 22 "RedTent$Body" "flownLane" "[I" ∈ ru_T := ru_in 2 219 (by decide +kernel)
set_option maxRecDepth 20000 in
theorem tw_2_224 : Cond.fieldLink RX0 91 "RedTent$Body" "flownCount" "I" ∈ ru_T := ru_in 2 224 (by decide +kernel)
set_option maxRecDepth 20000 in
theorem tw_2_221 : Cond.fieldLink RX0 25 "RedTent$Body" "flownHour" "[I" ∈ ru_T := ru_in 2 221 (by decide +kernel)
set_option maxRecDepth 20000 in
theorem tw_2_226 : Cond.fieldLink RX0 28 "RedTent$Body" "patches" "[J" ∈ ru_T := ru_in 2 226 (by decide +kernel)
set_option maxRecDepth 20000 in
theorem tw_2_205 : Cond.fieldLink RX0 35 "RedTent$Body" "start" "I" ∈ ru_T := ru_in 2 205 (by decide +kernel)
set_option maxRecDepth 20000 in
theorem tw_2_172 : Cond.methodLink RX10 18 yX10_setHours ∈ ru_T := ru_in 2 172 (by decide +kernel)
set_option maxRecDepth 20000 in
theorem tw_2_173 : Cond.static yX10_setHours ∈ ru_T := ru_in 2 173 (by decide +kernel)
set_option maxRecDepth 20000 in
theorem tw_2_174 : Cond.code yX10_setHours cX10_setHours 5 none ∈ ru_T := ru_inc 2 174 rfl rfl
theorem mT_X10_setHours : ∀ w ∈ wsX10_setHours, w ∈ ru_T := ru_gc tw_2_174
set_option maxRecDepth 20000 in
theorem tw_4_21 : Cond.methodLink RX10 35 yX10_fogAt ∈ ru_T := ru_in 4 21 (by decide +kernel)
set_option maxRecDepth 20000 in
theorem tw_3_198 : Cond.instanceMethod yX10_fogAt ∈ ru_T := ru_in 3 198 (by decide +kernel)
set_option maxRecDepth 20000 in
theorem tw_3_199 : Cond.selects RX10 yX10_fogAt yX10_fogAt ∈ ru_T := ru_in 3 199 (by decide +kernel)
set_option maxRecDepth 20000 in
theorem tw_3_200 : Cond.code yX10_fogAt cX10_fogAt 2 (some .int) ∈ ru_T := ru_inc 3 200 rfl rfl
theorem mT_X10_fogAt : ∀ w ∈ wsX10_fogAt, w ∈ ru_T := ru_gc tw_3_200
set_option maxRecDepth 20000 in
theorem tw_3_115 : Cond.methodLink RX4 53 yX4_isAnyApart ∈ ru_T := ru_in 3 115 (by decide +kernel)
set_option maxRecDepth 20000 in
theorem tw_3_116 : Cond.static yX4_isAnyApart ∈ ru_T := ru_in 3 116 (by decide +kernel)
set_option maxRecDepth 20000 in
theorem tw_1_3 : Cond.initialized RX4 ∈ ru_T := ru_in 1 3 (by decide +kernel)
set_option maxRecDepth 20000 in
theorem tw_3_117 : Cond.code yX4_isAnyApart cX4_isAnyApart 7 (some .boolean) ∈ ru_T := ru_inc 3 117 rfl rfl
theorem mT_X4_isAnyApart : ∀ w ∈ wsX4_isAnyApart, w ∈ ru_T := ru_gc tw_3_117
set_option maxRecDepth 20000 in
theorem tw_3_145 : Cond.methodLink RX4 65 yX4_digit ∈ ru_T := ru_in 3 145 (by decide +kernel)
set_option maxRecDepth 20000 in
theorem tw_3_146 : Cond.static yX4_digit ∈ ru_T := ru_in 3 146 (by decide +kernel)
set_option maxRecDepth 20000 in
theorem tw_3_147 : Cond.code yX4_digit cX4_digit 3 (some .int) ∈ ru_T := ru_inc 3 147 rfl rfl
theorem mT_X4_digit : ∀ w ∈ wsX4_digit, w ∈ ru_T := ru_gc tw_3_147
set_option maxRecDepth 20000 in
theorem tw_3_197 : Cond.methodLink RX6 52 yX10_fogAt ∈ ru_T := ru_in 3 197 (by decide +kernel)
set_option maxRecDepth 20000 in
theorem tw_3_193 : Cond.methodLink RX6 37 yX6_weightIn ∈ ru_T := ru_in 3 193 (by decide +kernel)
set_option maxRecDepth 20000 in
theorem tw_3_195 : Cond.instanceMethod yX6_weightIn ∈ ru_T := ru_in 3 195 (by decide +kernel)
set_option maxRecDepth 20000 in
theorem tw_0_4 : Cond.selects RX6 yX6_weightIn yX6_weightIn ∈ ru_T := ru_in 0 4 (by decide +kernel)
set_option maxRecDepth 20000 in
theorem tw_1_4 : Cond.initialized RX6 ∈ ru_T := ru_in 1 4 (by decide +kernel)
set_option maxRecDepth 20000 in
theorem tw_3_196 : Cond.code yX6_weightIn cX6_weightIn 8 (some .long) ∈ ru_T := ru_inc 3 196 rfl rfl
theorem mT_X6_weightIn : ∀ w ∈ wsX6_weightIn, w ∈ ru_T := ru_gc tw_3_196
set_option maxRecDepth 20000 in
theorem tw_3_206 : Cond.methodLink RX6 60 yX6_commonDivisor ∈ ru_T := ru_in 3 206 (by decide +kernel)
set_option maxRecDepth 20000 in
theorem tw_3_207 : Cond.static yX6_commonDivisor ∈ ru_T := ru_in 3 207 (by decide +kernel)
set_option maxRecDepth 20000 in
theorem tw_3_208 : Cond.code yX6_commonDivisor cX6_commonDivisor 11 (some .long) ∈ ru_T := ru_inc 3 208 rfl rfl
theorem mT_X6_commonDivisor : ∀ w ∈ wsX6_commonDivisor, w ∈ ru_T := ru_gc tw_3_208
set_option maxRecDepth 20000 in
theorem tw_3_232 : Cond.methodLink RX6 75 yX6_keepIfBetter ∈ ru_T := ru_in 3 232 (by decide +kernel)
set_option maxRecDepth 20000 in
theorem tw_3_234 : Cond.instanceMethod yX6_keepIfBetter ∈ ru_T := ru_in 3 234 (by decide +kernel)
set_option maxRecDepth 20000 in
theorem tw_0_7 : Cond.selects RX6 yX6_keepIfBetter yX6_keepIfBetter ∈ ru_T := ru_in 0 7 (by decide +kernel)
set_option maxRecDepth 20000 in
theorem tw_3_235 : Cond.code yX6_keepIfBetter cX6_keepIfBetter 6 none ∈ ru_T := ru_inc 3 235 rfl rfl
theorem mT_X6_keepIfBetter : ∀ w ∈ wsX6_keepIfBetter, w ∈ ru_T := ru_gc tw_3_235
set_option maxRecDepth 20000 in
theorem tw_3_228 : Cond.methodLink RX6 71 yX6_tryLanes ∈ ru_T := ru_in 3 228 (by decide +kernel)
set_option maxRecDepth 20000 in
theorem tw_3_230 : Cond.instanceMethod yX6_tryLanes ∈ ru_T := ru_in 3 230 (by decide +kernel)
set_option maxRecDepth 20000 in
theorem tw_0_6 : Cond.selects RX6 yX6_tryLanes yX6_tryLanes ∈ ru_T := ru_in 0 6 (by decide +kernel)
set_option maxRecDepth 20000 in
theorem tw_3_231 : Cond.code yX6_tryLanes cX6_tryLanes 8 none ∈ ru_T := ru_inc 3 231 rfl rfl
theorem mT_X6_tryLanes : ∀ w ∈ wsX6_tryLanes, w ∈ ru_T := ru_gc tw_3_231
set_option maxRecDepth 20000 in
theorem tw_5_6 : Cond.methodLink RX2 31 yX2_aheadOf ∈ ru_T := ru_in 5 6 (by decide +kernel)
set_option maxRecDepth 20000 in
theorem tw_5_8 : Cond.instanceMethod yX2_aheadOf ∈ ru_T := ru_in 5 8 (by decide +kernel)
set_option maxRecDepth 20000 in
theorem tw_0_25 : Cond.selects RX2 yX2_aheadOf yX2_aheadOf ∈ ru_T := ru_in 0 25 (by decide +kernel)
set_option maxRecDepth 20000 in
theorem tw_1_5 : Cond.initialized RX2 ∈ ru_T := ru_in 1 5 (by decide +kernel)
set_option maxRecDepth 20000 in
theorem tw_5_9 : Cond.code yX2_aheadOf cX2_aheadOf 5 (some .int) ∈ ru_T := ru_inc 5 9 rfl rfl
theorem mT_X2_aheadOf : ∀ w ∈ wsX2_aheadOf, w ∈ ru_T := ru_gc tw_5_9
set_option maxRecDepth 20000 in
theorem tw_2_175 : Cond.methodLink RX10 29 Lib.Math.max.name ∈ ru_T := ru_in 2 175 (by decide +kernel)
set_option maxRecDepth 20000 in
theorem tw_1_37 : Cond.fieldLink RX10 22 "RedTent$Weather" "windCount" "I" ∈ ru_T := ru_in 1 37 (by decide +kernel)
set_option maxRecDepth 20000 in
theorem tw_1_36 : Cond.fieldLink RX10 15 "RedTent$Weather" "fogIn" "[I" ∈ ru_T := ru_in 1 36 (by decide +kernel)
set_option maxRecDepth 20000 in
theorem tw_1_39 : Cond.fieldLink RX10 26 "RedTent$Weather" "fogCount" "I" ∈ ru_T := ru_in 1 39 (by decide +kernel)
set_option maxRecDepth 20000 in
theorem iT_X4 : ∀ w ∈ wsX40, w ∈ ru_T := ru_inq _ [(1, 77), (1, 79), (1, 81), (1, 83), (1, 85), (1, 87), (1, 89), (1, 91), (1, 93), (1, 95), (1, 97), (1, 99), (1, 101)] (by decide +kernel) (by decide +kernel)
set_option maxRecDepth 20000 in
theorem tw_1_59 : Cond.fieldLink RX4 9 "RedTent$Radio" "hearerCell" "[I" ∈ ru_T := ru_in 1 59 (by decide +kernel)
set_option maxRecDepth 20000 in
theorem tw_1_60 : Cond.fieldLink RX4 43 "RedTent$Radio" "hearers" "I" ∈ ru_T := ru_in 1 60 (by decide +kernel)
set_option maxRecDepth 20000 in
theorem tw_1_62 : Cond.fieldLink RX4 15 "RedTent$Radio" "heardFrom" "[I" ∈ ru_T := ru_in 1 62 (by decide +kernel)
set_option maxRecDepth 20000 in
theorem tw_1_63 : Cond.fieldLink RX4 18 "RedTent$Radio" "heardTo" "[I" ∈ ru_T := ru_in 1 63 (by decide +kernel)
set_option maxRecDepth 20000 in
theorem tw_1_70 : Cond.fieldLink RX4 47 "RedTent$Radio" "calls" "I" ∈ ru_T := ru_in 1 70 (by decide +kernel)
set_option maxRecDepth 20000 in
theorem tw_1_64 : Cond.fieldLink RX4 21 "RedTent$Radio" "callBody" "[I" ∈ ru_T := ru_in 1 64 (by decide +kernel)
set_option maxRecDepth 20000 in
theorem tw_1_66 : Cond.fieldLink RX4 24 "RedTent$Radio" "callWave" "[I" ∈ ru_T := ru_in 1 66 (by decide +kernel)
set_option maxRecDepth 20000 in
theorem tw_1_67 : Cond.fieldLink RX4 27 "RedTent$Radio" "callHour" "[I" ∈ ru_T := ru_in 1 67 (by decide +kernel)
set_option maxRecDepth 20000 in
theorem tw_1_69 : Cond.fieldLink RX4 30 "RedTent$Radio" "callWords" "[J" ∈ ru_T := ru_in 1 69 (by decide +kernel)
set_option maxRecDepth 20000 in
theorem tw_1_72 : Cond.fieldLink RX4 34 "RedTent$Radio" "partCall" "[I" ∈ ru_T := ru_in 1 72 (by decide +kernel)
set_option maxRecDepth 20000 in
theorem tw_1_75 : Cond.fieldLink RX4 50 "RedTent$Radio" "parts" "I" ∈ ru_T := ru_in 1 75 (by decide +kernel)
set_option maxRecDepth 20000 in
theorem tw_1_73 : Cond.fieldLink RX4 37 "RedTent$Radio" "partHeard" "[I" ∈ ru_T := ru_in 1 73 (by decide +kernel)
set_option maxRecDepth 20000 in
theorem tw_1_74 : Cond.fieldLink RX4 40 "RedTent$Radio" "partWords" "[J" ∈ ru_T := ru_in 1 74 (by decide +kernel)
set_option maxRecDepth 20000 in
theorem iT_X6 : ∀ w ∈ wsX60, w ∈ ru_T := ru_inq _ [(1, 120), (1, 122), (1, 124), (1, 126), (1, 128), (1, 130), (1, 132)] (by decide +kernel) (by decide +kernel)
set_option maxRecDepth 20000 in
theorem tw_1_111 : Cond.fieldLink RX6 9 "RedTent$Search" "lanes" "[J" ∈ ru_T := ru_in 1 111 (by decide +kernel)
set_option maxRecDepth 20000 in
theorem tw_1_112 : Cond.fieldLink RX6 25 "RedTent$Search" "laneCount" "I" ∈ ru_T := ru_in 1 112 (by decide +kernel)
set_option maxRecDepth 20000 in
theorem tw_2_223 : Cond.fieldLink RX6 41 "RedTent$Body" "flownCount" "I" ∈ ru_T := ru_in 2 223 (by decide +kernel)
set_option maxRecDepth 20000 in
theorem tw_2_220 : Cond.fieldLink RX6 46 "RedTent$Body" "flownLane" "[I" ∈ ru_T := ru_in 2 220 (by decide +kernel)
set_option maxRecDepth 20000 in
theorem tw_2_222 : Cond.fieldLink RX6 49 "RedTent$Body" "flownHour" "[I" ∈ ru_T := ru_in 2 222 (by decide +kernel)
set_option maxRecDepth 20000 in
theorem tw_3_201 : Cond.constantLong RX6 58 (16) ∈ ru_T := ru_in 3 201 (by decide +kernel)
set_option maxRecDepth 20000 in
theorem tw_1_115 : Cond.fieldLink RX6 29 "RedTent$Search" "allWeight" "J" ∈ ru_T := ru_in 1 115 (by decide +kernel)
set_option maxRecDepth 20000 in
theorem tw_1_114 : Cond.fieldLink RX6 15 "RedTent$Search" "weights" "[J" ∈ ru_T := ru_in 1 114 (by decide +kernel)
set_option maxRecDepth 20000 in
theorem tw_4_3 : Cond.constantLong RX6 64 (1000) ∈ ru_T := ru_in 4 3 (by decide +kernel)
set_option maxRecDepth 20000 in
theorem tw_1_119 : Cond.fieldLink RX6 66 "RedTent$Search" "chosenWeight" "J" ∈ ru_T := ru_in 1 119 (by decide +kernel)
set_option maxRecDepth 20000 in
theorem tw_1_116 : Cond.fieldLink RX6 18 "RedTent$Search" "tried" "[I" ∈ ru_T := ru_in 1 116 (by decide +kernel)
set_option maxRecDepth 20000 in
theorem tw_1_117 : Cond.fieldLink RX6 22 "RedTent$Search" "chosen" "[I" ∈ ru_T := ru_in 1 117 (by decide +kernel)
set_option maxRecDepth 20000 in
theorem tw_3_236 : Cond.methodLink RX6 79 arraycopyName ∈ ru_T := ru_in 3 236 (by decide +kernel)
set_option maxRecDepth 20000 in
theorem tw_3_238 : Cond.native arraycopyName ∈ ru_T := ru_in 3 238 (by decide +kernel)
set_option maxRecDepth 20000 in
theorem tw_3_237 : Cond.static arraycopyName ∈ ru_T := ru_in 3 237 (by decide +kernel)
set_option maxRecDepth 20000 in
theorem tw_1_20 : Cond.initialized "java/lang/System" ∈ ru_T := ru_in 1 20 (by decide +kernel)
set_option maxRecDepth 20000 in
theorem tw_3_227 : Cond.constantLong RX6 69 (-1) ∈ ru_T := ru_in 3 227 (by decide +kernel)
set_option maxRecDepth 20000 in
theorem iT_X2 : ∀ w ∈ wsX20, w ∈ ru_T := ru_inq _ [(1, 153), (1, 155), (1, 157), (1, 159), (1, 161), (1, 163)] (by decide +kernel) (by decide +kernel)
set_option maxRecDepth 20000 in
theorem tw_1_141 : Cond.fieldLink RX2 9 "RedTent$Crew" "body" "[I" ∈ ru_T := ru_in 1 141 (by decide +kernel)
set_option maxRecDepth 20000 in
theorem tw_1_151 : Cond.fieldLink RX2 27 "RedTent$Crew" "men" "I" ∈ ru_T := ru_in 1 151 (by decide +kernel)
set_option maxRecDepth 20000 in
theorem tw_1_143 : Cond.fieldLink RX2 15 "RedTent$Crew" "strength" "[I" ∈ ru_T := ru_in 1 143 (by decide +kernel)
set_option maxRecDepth 20000 in
theorem tw_1_145 : Cond.fieldLink RX2 18 "RedTent$Crew" "hurt" "[I" ∈ ru_T := ru_in 1 145 (by decide +kernel)
set_option maxRecDepth 20000 in
theorem tw_1_147 : Cond.fieldLink RX2 21 "RedTent$Crew" "skill" "[I" ∈ ru_T := ru_in 1 147 (by decide +kernel)
set_option maxRecDepth 20000 in
theorem tw_1_149 : Cond.fieldLink RX2 24 "RedTent$Crew" "takes" "[I" ∈ ru_T := ru_in 1 149 (by decide +kernel)
set_option maxRecDepth 20000 in
theorem iT_X8 : ∀ w ∈ wsX80, w ∈ ru_T := ru_inq _ [(2, 43), (2, 45), (2, 47), (2, 49)] (by decide +kernel) (by decide +kernel)
set_option maxRecDepth 20000 in
theorem tw_2_41 : Cond.fieldLink RX8 21 "RedTent$Stories" "told" "I" ∈ ru_T := ru_in 2 41 (by decide +kernel)
set_option maxRecDepth 20000 in
theorem tw_2_35 : Cond.fieldLink RX8 9 "RedTent$Stories" "body" "[I" ∈ ru_T := ru_in 2 35 (by decide +kernel)
set_option maxRecDepth 20000 in
theorem tw_2_37 : Cond.fieldLink RX8 15 "RedTent$Stories" "cell" "[I" ∈ ru_T := ru_in 2 37 (by decide +kernel)
set_option maxRecDepth 20000 in
theorem tw_2_39 : Cond.fieldLink RX8 18 "RedTent$Stories" "hour" "[I" ∈ ru_T := ru_in 2 39 (by decide +kernel)
set_option maxRecDepth 20000 in
theorem tw_5_59 : Cond.methodLink RX1 46 yX1_wayOn ∈ ru_T := ru_in 5 59 (by decide +kernel)
set_option maxRecDepth 20000 in
theorem tw_5_60 : Cond.instanceMethod yX1_wayOn ∈ ru_T := ru_in 5 60 (by decide +kernel)
set_option maxRecDepth 20000 in
theorem tw_5_61 : Cond.selects RX1 yX1_wayOn yX1_wayOn ∈ ru_T := ru_in 5 61 (by decide +kernel)
set_option maxRecDepth 20000 in
theorem tw_1_10 : Cond.initialized RX1 ∈ ru_T := ru_in 1 10 (by decide +kernel)
set_option maxRecDepth 20000 in
theorem tw_5_62 : Cond.code yX1_wayOn cX1_wayOn 4 (some .int) ∈ ru_T := ru_inc 5 62 rfl rfl
theorem mT_X1_wayOn : ∀ w ∈ wsX1_wayOn, w ∈ ru_T := ru_gc tw_5_62
set_option maxRecDepth 20000 in
theorem tw_5_55 : Cond.methodLink RX1 36 yX1_cellsThrough ∈ ru_T := ru_in 5 55 (by decide +kernel)
set_option maxRecDepth 20000 in
theorem tw_5_57 : Cond.instanceMethod yX1_cellsThrough ∈ ru_T := ru_in 5 57 (by decide +kernel)
set_option maxRecDepth 20000 in
theorem tw_0_27 : Cond.selects RX1 yX1_cellsThrough yX1_cellsThrough ∈ ru_T := ru_in 0 27 (by decide +kernel)
set_option maxRecDepth 20000 in
theorem tw_5_58 : Cond.code yX1_cellsThrough cX1_cellsThrough 9 (some .int) ∈ ru_T := ru_inc 5 58 rfl rfl
theorem mT_X1_cellsThrough : ∀ w ∈ wsX1_cellsThrough, w ∈ ru_T := ru_gc tw_5_58
set_option maxRecDepth 20000 in
theorem tw_5_51 : Cond.methodLink RX1 32 yX1_leastCells ∈ ru_T := ru_in 5 51 (by decide +kernel)
set_option maxRecDepth 20000 in
theorem tw_5_53 : Cond.instanceMethod yX1_leastCells ∈ ru_T := ru_in 5 53 (by decide +kernel)
set_option maxRecDepth 20000 in
theorem tw_0_26 : Cond.selects RX1 yX1_leastCells yX1_leastCells ∈ ru_T := ru_in 0 26 (by decide +kernel)
set_option maxRecDepth 20000 in
theorem tw_5_54 : Cond.code yX1_leastCells cX1_leastCells 6 (some .int) ∈ ru_T := ru_inc 5 54 rfl rfl
theorem mT_X1_leastCells : ∀ w ∈ wsX1_leastCells, w ∈ ru_T := ru_gc tw_5_54
set_option maxRecDepth 20000 in
theorem tw_4_230 : Cond.methodLink RX9 53 yX9_joined ∈ ru_T := ru_in 4 230 (by decide +kernel)
set_option maxRecDepth 20000 in
theorem tw_4_231 : Cond.static yX9_joined ∈ ru_T := ru_in 4 231 (by decide +kernel)
set_option maxRecDepth 20000 in
theorem tw_4_232 : Cond.code yX9_joined cX9_joined 3 (some .int) ∈ ru_T := ru_inc 4 232 rfl rfl
theorem mT_X9_joined : ∀ w ∈ wsX9_joined, w ∈ ru_T := ru_gc tw_4_232
set_option maxRecDepth 20000 in
theorem tw_4_224 : Cond.methodLink RX9 45 yX9_put ∈ ru_T := ru_in 4 224 (by decide +kernel)
set_option maxRecDepth 20000 in
theorem tw_4_225 : Cond.static yX9_put ∈ ru_T := ru_in 4 225 (by decide +kernel)
set_option maxRecDepth 20000 in
theorem tw_4_226 : Cond.code yX9_put cX9_put 3 (some .int) ∈ ru_T := ru_inc 4 226 rfl rfl
theorem mT_X9_put : ∀ w ∈ wsX9_put, w ∈ ru_T := ru_gc tw_4_226
set_option maxRecDepth 20000 in
theorem tw_4_221 : Cond.methodLink RX9 41 yX9_afterStep ∈ ru_T := ru_in 4 221 (by decide +kernel)
set_option maxRecDepth 20000 in
theorem tw_4_222 : Cond.static yX9_afterStep ∈ ru_T := ru_in 4 222 (by decide +kernel)
set_option maxRecDepth 20000 in
theorem tw_4_223 : Cond.code yX9_afterStep cX9_afterStep 4 (some .int) ∈ ru_T := ru_inc 4 223 rfl rfl
theorem mT_X9_afterStep : ∀ w ∈ wsX9_afterStep, w ∈ ru_T := ru_gc tw_4_223
set_option maxRecDepth 20000 in
theorem tw_4_217 : Cond.methodLink RX3 62 yX9_valueOf ∈ ru_T := ru_in 4 217 (by decide +kernel)
set_option maxRecDepth 20000 in
theorem tw_4_218 : Cond.instanceMethod yX9_valueOf ∈ ru_T := ru_in 4 218 (by decide +kernel)
set_option maxRecDepth 20000 in
theorem tw_4_219 : Cond.selects RX9 yX9_valueOf yX9_valueOf ∈ ru_T := ru_in 4 219 (by decide +kernel)
set_option maxRecDepth 20000 in
theorem tw_4_220 : Cond.code yX9_valueOf cX9_valueOf 8 (some .int) ∈ ru_T := ru_inc 4 220 rfl rfl
theorem mT_X9_valueOf : ∀ w ∈ wsX9_valueOf, w ∈ ru_T := ru_gc tw_4_220
set_option maxRecDepth 20000 in
theorem tw_5_49 : Cond.fieldLink RX1 28 "RedTent$Breaker" "POWERS_OF_3" "[I" ∈ ru_T := ru_in 5 49 (by decide +kernel)
set_option maxRecDepth 20000 in
theorem iT_X1 : ∀ w ∈ wsX10, w ∈ ru_T := ru_inq _ [(2, 67), (2, 69), (2, 71), (2, 73)] (by decide +kernel) (by decide +kernel)
set_option maxRecDepth 20000 in
theorem tw_2_60 : Cond.fieldLink RX1 11 "RedTent$Breaker" "ice" "[[I" ∈ ru_T := ru_in 2 60 (by decide +kernel)
set_option maxRecDepth 20000 in
theorem tw_2_61 : Cond.fieldLink RX1 16 "RedTent$Breaker" "rowCount" "I" ∈ ru_T := ru_in 2 61 (by decide +kernel)
set_option maxRecDepth 20000 in
theorem tw_5_63 : Cond.methodLink RX1 40 Lib.Math.min.name ∈ ru_T := ru_in 5 63 (by decide +kernel)
set_option maxRecDepth 20000 in
theorem tw_2_63 : Cond.fieldLink RX1 22 "RedTent$Breaker" "bestCells" "I" ∈ ru_T := ru_in 2 63 (by decide +kernel)
set_option maxRecDepth 20000 in
theorem tw_2_65 : Cond.fieldLink RX1 25 "RedTent$Breaker" "bestWays" "I" ∈ ru_T := ru_in 2 65 (by decide +kernel)
set_option maxRecDepth 20000 in
theorem tw_5_40 : Cond.constantLong RX1 20 (10) ∈ ru_T := ru_in 5 40 (by decide +kernel)
set_option maxRecDepth 20000 in
theorem iT_X7 : ∀ w ∈ wsX70, w ∈ ru_T := ru_inq _ [(2, 88), (2, 90), (2, 92)] (by decide +kernel) (by decide +kernel)
set_option maxRecDepth 20000 in
theorem tw_2_85 : Cond.fieldLink RX7 15 "RedTent$Sheet" "sort" "I" ∈ ru_T := ru_in 2 85 (by decide +kernel)
set_option maxRecDepth 20000 in
theorem tw_2_87 : Cond.fieldLink RX7 19 "RedTent$Sheet" "size" "I" ∈ ru_T := ru_in 2 87 (by decide +kernel)
set_option maxRecDepth 20000 in
theorem tw_2_83 : Cond.fieldLink RX7 9 "RedTent$Sheet" "items" "[I" ∈ ru_T := ru_in 2 83 (by decide +kernel)
set_option maxRecDepth 20000 in
theorem iT_X9 : ∀ w ∈ wsX90, w ∈ ru_T := ru_inq _ [(1, 191), (1, 193), (1, 195)] (by decide +kernel) (by decide +kernel)
set_option maxRecDepth 20000 in
theorem tw_1_187 : Cond.fieldLink RX9 15 "RedTent$Text" "size" "I" ∈ ru_T := ru_in 1 187 (by decide +kernel)
set_option maxRecDepth 20000 in
theorem tw_1_189 : Cond.fieldLink RX9 19 "RedTent$Text" "goFrom" "I" ∈ ru_T := ru_in 1 189 (by decide +kernel)
set_option maxRecDepth 20000 in
theorem tw_1_186 : Cond.fieldLink RX9 9 "RedTent$Text" "steps" "[I" ∈ ru_T := ru_in 1 186 (by decide +kernel)
set_option maxRecDepth 20000 in
theorem tw_4_199 : Cond.methodLink RX9 35 arraycopyName ∈ ru_T := ru_in 4 199 (by decide +kernel)
set_option maxRecDepth 20000 in
theorem iT_X3 : ∀ w ∈ wsX30, w ∈ ru_T := ru_inq _ [(2, 12), (2, 14), (2, 16), (2, 18), (2, 20), (2, 22), (2, 24), (2, 26)] (by decide +kernel) (by decide +kernel)
set_option maxRecDepth 20000 in
theorem tw_2_2 : Cond.fieldLink RX3 42 "RedTent$Orders" "tapeSize" "I" ∈ ru_T := ru_in 2 2 (by decide +kernel)
set_option maxRecDepth 20000 in
theorem tw_2_1 : Cond.fieldLink RX3 9 "RedTent$Orders" "tape" "[I" ∈ ru_T := ru_in 2 1 (by decide +kernel)
set_option maxRecDepth 20000 in
theorem tw_4_45 : Cond.constantLong RX3 45 (255) ∈ ru_T := ru_in 4 45 (by decide +kernel)
set_option maxRecDepth 20000 in
theorem tw_2_10 : Cond.fieldLink RX3 28 "RedTent$Orders" "names" "[I" ∈ ru_T := ru_in 2 10 (by decide +kernel)
set_option maxRecDepth 20000 in
theorem tw_2_4 : Cond.fieldLink RX3 17 "RedTent$Orders" "texts" "[LRedTent$Text;" ∈ ru_T := ru_in 2 4 (by decide +kernel)
set_option maxRecDepth 20000 in
theorem tw_2_7 : Cond.fieldLink RX3 59 "RedTent$Orders" "inForce" "I" ∈ ru_T := ru_in 2 7 (by decide +kernel)
set_option maxRecDepth 20000 in
theorem tw_2_11 : Cond.fieldLink RX3 31 "RedTent$Orders" "stack" "[I" ∈ ru_T := ru_in 2 11 (by decide +kernel)
set_option maxRecDepth 20000 in
theorem tw_2_139 : Cond.methodLink RX11 78 yX11_bodyAt ∈ ru_T := ru_in 2 139 (by decide +kernel)
set_option maxRecDepth 20000 in
theorem tw_2_141 : Cond.instanceMethod yX11_bodyAt ∈ ru_T := ru_in 2 141 (by decide +kernel)
set_option maxRecDepth 20000 in
theorem tw_0_0 : Cond.selects RX11 yX11_bodyAt yX11_bodyAt ∈ ru_T := ru_in 0 0 (by decide +kernel)
set_option maxRecDepth 20000 in
theorem tw_2_142 : Cond.code yX11_bodyAt cX11_bodyAt 2 (some (.object "RedTent$Body")) ∈ ru_T := ru_inc 2 142 rfl rfl
theorem mT_X11_bodyAt : ∀ w ∈ wsX11_bodyAt, w ∈ ru_T := ru_gc tw_2_142
set_option maxRecDepth 20000 in
theorem tw_3_173 : Cond.methodLink RX11 379 yX0_isUnder ∈ ru_T := ru_in 3 173 (by decide +kernel)
set_option maxRecDepth 20000 in
theorem tw_3_174 : Cond.instanceMethod yX0_isUnder ∈ ru_T := ru_in 3 174 (by decide +kernel)
set_option maxRecDepth 20000 in
theorem tw_3_175 : Cond.selects RX0 yX0_isUnder yX0_isUnder ∈ ru_T := ru_in 3 175 (by decide +kernel)
set_option maxRecDepth 20000 in
theorem tw_3_176 : Cond.code yX0_isUnder cX0_isUnder 4 (some .boolean) ∈ ru_T := ru_inc 3 176 rfl rfl
theorem mT_X0_isUnder : ∀ w ∈ wsX0_isUnder, w ∈ ru_T := ru_gc tw_3_176
set_option maxRecDepth 20000 in
theorem tw_3_217 : Cond.methodLink RX11 238 yJ6_bitCount_0f7a4 ∈ ru_T := ru_in 3 217 (by decide +kernel)
set_option maxRecDepth 20000 in
theorem tw_3_218 : Cond.static yJ6_bitCount_0f7a4 ∈ ru_T := ru_in 3 218 (by decide +kernel)
set_option maxRecDepth 20000 in
theorem tw_1_19 : Cond.initialized RJ6 ∈ ru_T := ru_in 1 19 (by decide +kernel)
set_option maxRecDepth 20000 in
theorem mT_J6_bitCount_0f7a4 : ∀ w ∈ wsJ6_bitCount_0f7a4, w ∈ ru_T := ru_inq _ [(3, 219), (3, 220), (3, 221), (3, 222)] (by decide +kernel) (by decide +kernel)
set_option maxRecDepth 20000 in
theorem tw_3_169 : Cond.methodLink RX11 214 yX11_seekerAt ∈ ru_T := ru_in 3 169 (by decide +kernel)
set_option maxRecDepth 20000 in
theorem tw_3_171 : Cond.instanceMethod yX11_seekerAt ∈ ru_T := ru_in 3 171 (by decide +kernel)
set_option maxRecDepth 20000 in
theorem tw_0_3 : Cond.selects RX11 yX11_seekerAt yX11_seekerAt ∈ ru_T := ru_in 0 3 (by decide +kernel)
set_option maxRecDepth 20000 in
theorem tw_3_172 : Cond.code yX11_seekerAt cX11_seekerAt 3 (some (.object "RedTent$Body")) ∈ ru_T := ru_inc 3 172 rfl rfl
theorem mT_X11_seekerAt : ∀ w ∈ wsX11_seekerAt, w ∈ ru_T := ru_gc tw_3_172
set_option maxRecDepth 20000 in
theorem tw_3_24 : Cond.methodLink RX11 138 yX0_burns ∈ ru_T := ru_in 3 24 (by decide +kernel)
set_option maxRecDepth 20000 in
theorem tw_3_25 : Cond.instanceMethod yX0_burns ∈ ru_T := ru_in 3 25 (by decide +kernel)
set_option maxRecDepth 20000 in
theorem tw_3_26 : Cond.selects RX0 yX0_burns yX0_burns ∈ ru_T := ru_in 3 26 (by decide +kernel)
set_option maxRecDepth 20000 in
theorem tw_3_27 : Cond.code yX0_burns cX0_burns 1 (some .int) ∈ ru_T := ru_inc 3 27 rfl rfl
theorem mT_X0_burns : ∀ w ∈ wsX0_burns, w ∈ ru_T := ru_gc tw_3_27
set_option maxRecDepth 20000 in
theorem tw_4_17 : Cond.methodLink RX11 382 yX10_isClear ∈ ru_T := ru_in 4 17 (by decide +kernel)
set_option maxRecDepth 20000 in
theorem tw_4_18 : Cond.instanceMethod yX10_isClear ∈ ru_T := ru_in 4 18 (by decide +kernel)
set_option maxRecDepth 20000 in
theorem tw_4_19 : Cond.selects RX10 yX10_isClear yX10_isClear ∈ ru_T := ru_in 4 19 (by decide +kernel)
set_option maxRecDepth 20000 in
theorem tw_4_20 : Cond.code yX10_isClear cX10_isClear 4 (some .boolean) ∈ ru_T := ru_inc 4 20 rfl rfl
theorem mT_X10_isClear : ∀ w ∈ wsX10_isClear, w ∈ ru_T := ru_gc tw_4_20
set_option maxRecDepth 20000 in
theorem tw_4_213 : Cond.methodLink RX11 292 yX3_ask ∈ ru_T := ru_in 4 213 (by decide +kernel)
set_option maxRecDepth 20000 in
theorem tw_4_214 : Cond.instanceMethod yX3_ask ∈ ru_T := ru_in 4 214 (by decide +kernel)
set_option maxRecDepth 20000 in
theorem tw_4_215 : Cond.selects RX3 yX3_ask yX3_ask ∈ ru_T := ru_in 4 215 (by decide +kernel)
set_option maxRecDepth 20000 in
theorem tw_1_6 : Cond.initialized RX3 ∈ ru_T := ru_in 1 6 (by decide +kernel)
set_option maxRecDepth 20000 in
theorem tw_4_216 : Cond.code yX3_ask cX3_ask 8 (some .int) ∈ ru_T := ru_inc 4 216 rfl rfl
theorem mT_X3_ask : ∀ w ∈ wsX3_ask, w ∈ ru_T := ru_gc tw_4_216
set_option maxRecDepth 20000 in
theorem tw_2_143 : Cond.methodLink RX11 82 yX0_eatFor ∈ ru_T := ru_in 2 143 (by decide +kernel)
set_option maxRecDepth 20000 in
theorem tw_2_144 : Cond.instanceMethod yX0_eatFor ∈ ru_T := ru_in 2 144 (by decide +kernel)
set_option maxRecDepth 20000 in
theorem tw_2_145 : Cond.selects RX0 yX0_eatFor yX0_eatFor ∈ ru_T := ru_in 2 145 (by decide +kernel)
set_option maxRecDepth 20000 in
theorem tw_2_146 : Cond.code yX0_eatFor cX0_eatFor 2 none ∈ ru_T := ru_inc 2 146 rfl rfl
theorem mT_X0_eatFor : ∀ w ∈ wsX0_eatFor, w ∈ ru_T := ru_gc tw_2_146
set_option maxRecDepth 20000 in
theorem tw_2_162 : Cond.methodLink RX11 86 yX11_isSpan ∈ ru_T := ru_in 2 162 (by decide +kernel)
set_option maxRecDepth 20000 in
theorem tw_2_163 : Cond.static yX11_isSpan ∈ ru_T := ru_in 2 163 (by decide +kernel)
set_option maxRecDepth 20000 in
theorem tw_2_164 : Cond.code yX11_isSpan cX11_isSpan 2 (some .boolean) ∈ ru_T := ru_inc 2 164 rfl rfl
theorem mT_X11_isSpan : ∀ w ∈ wsX11_isSpan, w ∈ ru_T := ru_gc tw_2_164
set_option maxRecDepth 20000 in
theorem tw_2_165 : Cond.methodLink RX11 90 yX11_isWind ∈ ru_T := ru_in 2 165 (by decide +kernel)
set_option maxRecDepth 20000 in
theorem tw_2_166 : Cond.static yX11_isWind ∈ ru_T := ru_in 2 166 (by decide +kernel)
set_option maxRecDepth 20000 in
theorem tw_2_167 : Cond.code yX11_isWind cX11_isWind 5 (some .boolean) ∈ ru_T := ru_inc 2 167 rfl rfl
theorem mT_X11_isWind : ∀ w ∈ wsX11_isWind, w ∈ ru_T := ru_gc tw_2_167
set_option maxRecDepth 20000 in
theorem tw_2_168 : Cond.methodLink RX11 97 yX10_tellWind ∈ ru_T := ru_in 2 168 (by decide +kernel)
set_option maxRecDepth 20000 in
theorem tw_2_169 : Cond.instanceMethod yX10_tellWind ∈ ru_T := ru_in 2 169 (by decide +kernel)
set_option maxRecDepth 20000 in
theorem tw_2_170 : Cond.selects RX10 yX10_tellWind yX10_tellWind ∈ ru_T := ru_in 2 170 (by decide +kernel)
set_option maxRecDepth 20000 in
theorem tw_2_171 : Cond.code yX10_tellWind cX10_tellWind 4 none ∈ ru_T := ru_inc 2 171 rfl rfl
theorem mT_X10_tellWind : ∀ w ∈ wsX10_tellWind, w ∈ ru_T := ru_gc tw_2_171
set_option maxRecDepth 20000 in
theorem tw_2_176 : Cond.methodLink RX11 101 yX0_forgetBehind ∈ ru_T := ru_in 2 176 (by decide +kernel)
set_option maxRecDepth 20000 in
theorem tw_2_187 : Cond.methodLink RX11 107 yX10_tellFog ∈ ru_T := ru_in 2 187 (by decide +kernel)
set_option maxRecDepth 20000 in
theorem tw_2_188 : Cond.instanceMethod yX10_tellFog ∈ ru_T := ru_in 2 188 (by decide +kernel)
set_option maxRecDepth 20000 in
theorem tw_2_189 : Cond.selects RX10 yX10_tellFog yX10_tellFog ∈ ru_T := ru_in 2 189 (by decide +kernel)
set_option maxRecDepth 20000 in
theorem tw_2_190 : Cond.code yX10_tellFog cX10_tellFog 4 none ∈ ru_T := ru_inc 2 190 rfl rfl
theorem mT_X10_tellFog : ∀ w ∈ wsX10_tellFog, w ∈ ru_T := ru_gc tw_2_190
set_option maxRecDepth 20000 in
theorem tw_3_23 : Cond.methodLink RX11 134 yX0_eats ∈ ru_T := ru_in 3 23 (by decide +kernel)
set_option maxRecDepth 20000 in
theorem tw_3_30 : Cond.methodLink RX11 141 yX0_foodLasts ∈ ru_T := ru_in 3 30 (by decide +kernel)
set_option maxRecDepth 20000 in
theorem tw_3_31 : Cond.instanceMethod yX0_foodLasts ∈ ru_T := ru_in 3 31 (by decide +kernel)
set_option maxRecDepth 20000 in
theorem tw_3_32 : Cond.selects RX0 yX0_foodLasts yX0_foodLasts ∈ ru_T := ru_in 3 32 (by decide +kernel)
set_option maxRecDepth 20000 in
theorem tw_3_33 : Cond.code yX0_foodLasts cX0_foodLasts 3 (some .int) ∈ ru_T := ru_inc 3 33 rfl rfl
theorem mT_X0_foodLasts : ∀ w ∈ wsX0_foodLasts, w ∈ ru_T := ru_gc tw_3_33
set_option maxRecDepth 20000 in
theorem tw_3_38 : Cond.methodLink RX11 145 yX11_isPast ∈ ru_T := ru_in 3 38 (by decide +kernel)
set_option maxRecDepth 20000 in
theorem tw_3_40 : Cond.instanceMethod yX11_isPast ∈ ru_T := ru_in 3 40 (by decide +kernel)
set_option maxRecDepth 20000 in
theorem tw_0_1 : Cond.selects RX11 yX11_isPast yX11_isPast ∈ ru_T := ru_in 0 1 (by decide +kernel)
set_option maxRecDepth 20000 in
theorem tw_3_41 : Cond.code yX11_isPast cX11_isPast 2 (some .boolean) ∈ ru_T := ru_inc 3 41 rfl rfl
theorem mT_X11_isPast : ∀ w ∈ wsX11_isPast, w ∈ ru_T := ru_gc tw_3_41
set_option maxRecDepth 20000 in
theorem tw_3_43 : Cond.methodLink RX11 150 yX0_placesKnown ∈ ru_T := ru_in 3 43 (by decide +kernel)
set_option maxRecDepth 20000 in
theorem tw_3_44 : Cond.instanceMethod yX0_placesKnown ∈ ru_T := ru_in 3 44 (by decide +kernel)
set_option maxRecDepth 20000 in
theorem tw_3_45 : Cond.selects RX0 yX0_placesKnown yX0_placesKnown ∈ ru_T := ru_in 3 45 (by decide +kernel)
set_option maxRecDepth 20000 in
theorem tw_3_46 : Cond.code yX0_placesKnown cX0_placesKnown 8 (some .long) ∈ ru_T := ru_inc 3 46 rfl rfl
theorem mT_X0_placesKnown : ∀ w ∈ wsX0_placesKnown, w ∈ ru_T := ru_gc tw_3_46
set_option maxRecDepth 20000 in
theorem tw_3_74 : Cond.methodLink RX11 157 yX0_narrowBy ∈ ru_T := ru_in 3 74 (by decide +kernel)
set_option maxRecDepth 20000 in
theorem tw_3_75 : Cond.instanceMethod yX0_narrowBy ∈ ru_T := ru_in 3 75 (by decide +kernel)
set_option maxRecDepth 20000 in
theorem tw_3_76 : Cond.selects RX0 yX0_narrowBy yX0_narrowBy ∈ ru_T := ru_in 3 76 (by decide +kernel)
set_option maxRecDepth 20000 in
theorem tw_3_77 : Cond.code yX0_narrowBy cX0_narrowBy 5 none ∈ ru_T := ru_inc 3 77 rfl rfl
theorem mT_X0_narrowBy : ∀ w ∈ wsX0_narrowBy, w ∈ ru_T := ru_gc tw_3_77
set_option maxRecDepth 20000 in
theorem tw_2_195 : Cond.methodLink RX11 110 yX11_isCell ∈ ru_T := ru_in 2 195 (by decide +kernel)
set_option maxRecDepth 20000 in
theorem tw_2_196 : Cond.static yX11_isCell ∈ ru_T := ru_in 2 196 (by decide +kernel)
set_option maxRecDepth 20000 in
theorem tw_2_197 : Cond.code yX11_isCell cX11_isCell 1 (some .boolean) ∈ ru_T := ru_inc 2 197 rfl rfl
theorem mT_X11_isCell : ∀ w ∈ wsX11_isCell, w ∈ ru_T := ru_gc tw_2_197
set_option maxRecDepth 20000 in
theorem tw_3_83 : Cond.methodLink RX11 164 yX4_addHearer ∈ ru_T := ru_in 3 83 (by decide +kernel)
set_option maxRecDepth 20000 in
theorem tw_3_84 : Cond.instanceMethod yX4_addHearer ∈ ru_T := ru_in 3 84 (by decide +kernel)
set_option maxRecDepth 20000 in
theorem tw_3_85 : Cond.selects RX4 yX4_addHearer yX4_addHearer ∈ ru_T := ru_in 3 85 (by decide +kernel)
set_option maxRecDepth 20000 in
theorem tw_3_86 : Cond.code yX4_addHearer cX4_addHearer 2 (some .int) ∈ ru_T := ru_inc 3 86 rfl rfl
theorem mT_X4_addHearer : ∀ w ∈ wsX4_addHearer, w ∈ ru_T := ru_gc tw_3_86
set_option maxRecDepth 20000 in
theorem tw_3_91 : Cond.methodLink RX11 167 yX4_setWave ∈ ru_T := ru_in 3 91 (by decide +kernel)
set_option maxRecDepth 20000 in
theorem tw_3_92 : Cond.instanceMethod yX4_setWave ∈ ru_T := ru_in 3 92 (by decide +kernel)
set_option maxRecDepth 20000 in
theorem tw_3_93 : Cond.selects RX4 yX4_setWave yX4_setWave ∈ ru_T := ru_in 3 93 (by decide +kernel)
set_option maxRecDepth 20000 in
theorem tw_3_94 : Cond.code yX4_setWave cX4_setWave 5 (some .int) ∈ ru_T := ru_inc 3 94 rfl rfl
theorem mT_X4_setWave : ∀ w ∈ wsX4_setWave, w ∈ ru_T := ru_gc tw_3_94
set_option maxRecDepth 20000 in
theorem tw_3_99 : Cond.methodLink RX11 174 yX4_addCall ∈ ru_T := ru_in 3 99 (by decide +kernel)
set_option maxRecDepth 20000 in
theorem tw_3_100 : Cond.instanceMethod yX4_addCall ∈ ru_T := ru_in 3 100 (by decide +kernel)
set_option maxRecDepth 20000 in
theorem tw_3_101 : Cond.selects RX4 yX4_addCall yX4_addCall ∈ ru_T := ru_in 3 101 (by decide +kernel)
set_option maxRecDepth 20000 in
theorem tw_3_102 : Cond.code yX4_addCall cX4_addCall 6 (some .int) ∈ ru_T := ru_inc 3 102 rfl rfl
theorem mT_X4_addCall : ∀ w ∈ wsX4_addCall, w ∈ ru_T := ru_gc tw_3_102
set_option maxRecDepth 20000 in
theorem tw_3_107 : Cond.methodLink RX11 178 yX4_hasCall ∈ ru_T := ru_in 3 107 (by decide +kernel)
set_option maxRecDepth 20000 in
theorem tw_3_108 : Cond.instanceMethod yX4_hasCall ∈ ru_T := ru_in 3 108 (by decide +kernel)
set_option maxRecDepth 20000 in
theorem tw_3_109 : Cond.selects RX4 yX4_hasCall yX4_hasCall ∈ ru_T := ru_in 3 109 (by decide +kernel)
set_option maxRecDepth 20000 in
theorem tw_3_110 : Cond.code yX4_hasCall cX4_hasCall 2 (some .boolean) ∈ ru_T := ru_inc 3 110 rfl rfl
theorem mT_X4_hasCall : ∀ w ∈ wsX4_hasCall, w ∈ ru_T := ru_gc tw_3_110
set_option maxRecDepth 20000 in
theorem tw_3_111 : Cond.methodLink RX11 188 yX4_hearersOf ∈ ru_T := ru_in 3 111 (by decide +kernel)
set_option maxRecDepth 20000 in
theorem tw_3_112 : Cond.instanceMethod yX4_hearersOf ∈ ru_T := ru_in 3 112 (by decide +kernel)
set_option maxRecDepth 20000 in
theorem tw_3_113 : Cond.selects RX4 yX4_hearersOf yX4_hearersOf ∈ ru_T := ru_in 3 113 (by decide +kernel)
set_option maxRecDepth 20000 in
theorem tw_3_114 : Cond.code yX4_hearersOf cX4_hearersOf 8 (some .int) ∈ ru_T := ru_inc 3 114 rfl rfl
theorem mT_X4_hearersOf : ∀ w ∈ wsX4_hearersOf, w ∈ ru_T := ru_gc tw_3_114
set_option maxRecDepth 20000 in
theorem tw_3_133 : Cond.methodLink RX11 196 yX4_addPart ∈ ru_T := ru_in 3 133 (by decide +kernel)
set_option maxRecDepth 20000 in
theorem tw_3_134 : Cond.instanceMethod yX4_addPart ∈ ru_T := ru_in 3 134 (by decide +kernel)
set_option maxRecDepth 20000 in
theorem tw_3_135 : Cond.selects RX4 yX4_addPart yX4_addPart ∈ ru_T := ru_in 3 135 (by decide +kernel)
set_option maxRecDepth 20000 in
theorem tw_3_136 : Cond.code yX4_addPart cX4_addPart 5 (some .int) ∈ ru_T := ru_inc 3 136 rfl rfl
theorem mT_X4_addPart : ∀ w ∈ wsX4_addPart, w ∈ ru_T := ru_gc tw_3_136
set_option maxRecDepth 20000 in
theorem tw_3_141 : Cond.methodLink RX11 200 yX4_putTogether ∈ ru_T := ru_in 3 141 (by decide +kernel)
set_option maxRecDepth 20000 in
theorem tw_3_142 : Cond.instanceMethod yX4_putTogether ∈ ru_T := ru_in 3 142 (by decide +kernel)
set_option maxRecDepth 20000 in
theorem tw_3_143 : Cond.selects RX4 yX4_putTogether yX4_putTogether ∈ ru_T := ru_in 3 143 (by decide +kernel)
set_option maxRecDepth 20000 in
theorem tw_3_144 : Cond.code yX4_putTogether cX4_putTogether 6 (some .int) ∈ ru_T := ru_inc 3 144 rfl rfl
theorem mT_X4_putTogether : ∀ w ∈ wsX4_putTogether, w ∈ ru_T := ru_gc tw_3_144
set_option maxRecDepth 20000 in
theorem tw_3_153 : Cond.methodLink RX11 204 yX4_isAsSent ∈ ru_T := ru_in 3 153 (by decide +kernel)
set_option maxRecDepth 20000 in
theorem tw_3_154 : Cond.instanceMethod yX4_isAsSent ∈ ru_T := ru_in 3 154 (by decide +kernel)
set_option maxRecDepth 20000 in
theorem tw_3_155 : Cond.selects RX4 yX4_isAsSent yX4_isAsSent ∈ ru_T := ru_in 3 155 (by decide +kernel)
set_option maxRecDepth 20000 in
theorem tw_3_156 : Cond.code yX4_isAsSent cX4_isAsSent 5 (some .boolean) ∈ ru_T := ru_inc 3 156 rfl rfl
theorem mT_X4_isAsSent : ∀ w ∈ wsX4_isAsSent, w ∈ ru_T := ru_gc tw_3_156
set_option maxRecDepth 20000 in
theorem tw_3_161 : Cond.methodLink RX11 210 yX6_addLane ∈ ru_T := ru_in 3 161 (by decide +kernel)
set_option maxRecDepth 20000 in
theorem tw_3_162 : Cond.instanceMethod yX6_addLane ∈ ru_T := ru_in 3 162 (by decide +kernel)
set_option maxRecDepth 20000 in
theorem tw_3_163 : Cond.selects RX6 yX6_addLane yX6_addLane ∈ ru_T := ru_in 3 163 (by decide +kernel)
set_option maxRecDepth 20000 in
theorem tw_3_164 : Cond.code yX6_addLane cX6_addLane 3 (some .int) ∈ ru_T := ru_inc 3 164 rfl rfl
theorem mT_X6_addLane : ∀ w ∈ wsX6_addLane, w ∈ ru_T := ru_gc tw_3_164
set_option maxRecDepth 20000 in
theorem tw_3_179 : Cond.methodLink RX11 220 yX0_addFlown ∈ ru_T := ru_in 3 179 (by decide +kernel)
set_option maxRecDepth 20000 in
theorem tw_3_180 : Cond.instanceMethod yX0_addFlown ∈ ru_T := ru_in 3 180 (by decide +kernel)
set_option maxRecDepth 20000 in
theorem tw_3_181 : Cond.selects RX0 yX0_addFlown yX0_addFlown ∈ ru_T := ru_in 3 181 (by decide +kernel)
set_option maxRecDepth 20000 in
theorem tw_3_182 : Cond.code yX0_addFlown cX0_addFlown 3 (some .int) ∈ ru_T := ru_inc 3 182 rfl rfl
theorem mT_X0_addFlown : ∀ w ∈ wsX0_addFlown, w ∈ ru_T := ru_gc tw_3_182
set_option maxRecDepth 20000 in
theorem tw_3_187 : Cond.methodLink RX11 223 yX0_placesNow ∈ ru_T := ru_in 3 187 (by decide +kernel)
set_option maxRecDepth 20000 in
theorem tw_3_188 : Cond.methodLink RX11 227 yX6_weigh ∈ ru_T := ru_in 3 188 (by decide +kernel)
set_option maxRecDepth 20000 in
theorem tw_3_189 : Cond.instanceMethod yX6_weigh ∈ ru_T := ru_in 3 189 (by decide +kernel)
set_option maxRecDepth 20000 in
theorem tw_3_190 : Cond.selects RX6 yX6_weigh yX6_weigh ∈ ru_T := ru_in 3 190 (by decide +kernel)
set_option maxRecDepth 20000 in
theorem tw_3_191 : Cond.code yX6_weigh cX6_weigh 6 none ∈ ru_T := ru_inc 3 191 rfl rfl
theorem mT_X6_weigh : ∀ w ∈ wsX6_weigh, w ∈ ru_T := ru_gc tw_3_191
set_option maxRecDepth 20000 in
theorem tw_3_202 : Cond.methodLink RX11 231 yX6_shareOf ∈ ru_T := ru_in 3 202 (by decide +kernel)
set_option maxRecDepth 20000 in
theorem tw_3_203 : Cond.instanceMethod yX6_shareOf ∈ ru_T := ru_in 3 203 (by decide +kernel)
set_option maxRecDepth 20000 in
theorem tw_3_204 : Cond.selects RX6 yX6_shareOf yX6_shareOf ∈ ru_T := ru_in 3 204 (by decide +kernel)
set_option maxRecDepth 20000 in
theorem tw_3_205 : Cond.code yX6_shareOf cX6_shareOf 5 (some .long) ∈ ru_T := ru_inc 3 205 rfl rfl
theorem mT_X6_shareOf : ∀ w ∈ wsX6_shareOf, w ∈ ru_T := ru_gc tw_3_205
set_option maxRecDepth 20000 in
theorem tw_3_213 : Cond.methodLink RX11 235 yX11_areSeekers ∈ ru_T := ru_in 3 213 (by decide +kernel)
set_option maxRecDepth 20000 in
theorem tw_3_215 : Cond.instanceMethod yX11_areSeekers ∈ ru_T := ru_in 3 215 (by decide +kernel)
set_option maxRecDepth 20000 in
theorem tw_0_5 : Cond.selects RX11 yX11_areSeekers yX11_areSeekers ∈ ru_T := ru_in 0 5 (by decide +kernel)
set_option maxRecDepth 20000 in
theorem tw_3_216 : Cond.code yX11_areSeekers cX11_areSeekers 3 (some .boolean) ∈ ru_T := ru_inc 3 216 rfl rfl
theorem mT_X11_areSeekers : ∀ w ∈ wsX11_areSeekers, w ∈ ru_T := ru_gc tw_3_216
set_option maxRecDepth 20000 in
theorem tw_3_223 : Cond.methodLink RX11 243 yX6_choose ∈ ru_T := ru_in 3 223 (by decide +kernel)
set_option maxRecDepth 20000 in
theorem tw_3_224 : Cond.instanceMethod yX6_choose ∈ ru_T := ru_in 3 224 (by decide +kernel)
set_option maxRecDepth 20000 in
theorem tw_3_225 : Cond.selects RX6 yX6_choose yX6_choose ∈ ru_T := ru_in 3 225 (by decide +kernel)
set_option maxRecDepth 20000 in
theorem tw_3_226 : Cond.code yX6_choose cX6_choose 3 none ∈ ru_T := ru_inc 3 226 rfl rfl
theorem mT_X6_choose : ∀ w ∈ wsX6_choose, w ∈ ru_T := ru_gc tw_3_226
set_option maxRecDepth 20000 in
theorem tw_3_239 : Cond.methodLink RX11 247 yX6_thousandths ∈ ru_T := ru_in 3 239 (by decide +kernel)
set_option maxRecDepth 20000 in
theorem tw_4_0 : Cond.instanceMethod yX6_thousandths ∈ ru_T := ru_in 4 0 (by decide +kernel)
set_option maxRecDepth 20000 in
theorem tw_4_1 : Cond.selects RX6 yX6_thousandths yX6_thousandths ∈ ru_T := ru_in 4 1 (by decide +kernel)
set_option maxRecDepth 20000 in
theorem tw_4_2 : Cond.code yX6_thousandths cX6_thousandths 1 (some .int) ∈ ru_T := ru_inc 4 2 rfl rfl
theorem mT_X6_thousandths : ∀ w ∈ wsX6_thousandths, w ∈ ru_T := ru_gc tw_4_2
set_option maxRecDepth 20000 in
theorem iT_X11 : ∀ w ∈ wsX110, w ∈ ru_T := ru_inq _ [(2, 108), (2, 110), (2, 112), (2, 114), (2, 116), (2, 118), (2, 120), (2, 122), (2, 124), (2, 126), (2, 128), (2, 130), (2, 132)] (by decide +kernel) (by decide +kernel)
set_option maxRecDepth 20000 in
theorem tw_2_105 : Cond.fieldLink RX11 75 "RedTent" "bodyCount" "I" ∈ ru_T := ru_in 2 105 (by decide +kernel)
set_option maxRecDepth 20000 in
theorem tw_2_96 : Cond.fieldLink RX11 18 "RedTent" "bodies" "[LRedTent$Body;" ∈ ru_T := ru_in 2 96 (by decide +kernel)
set_option maxRecDepth 20000 in
theorem tw_2_103 : Cond.fieldLink RX11 66 "RedTent" "sheets" "[LRedTent$Sheet;" ∈ ru_T := ru_in 2 103 (by decide +kernel)
set_option maxRecDepth 20000 in
theorem tw_2_104 : Cond.fieldLink RX11 71 "RedTent" "now" "I" ∈ ru_T := ru_in 2 104 (by decide +kernel)
set_option maxRecDepth 20000 in
theorem tw_2_212 : Cond.fieldLink RX11 131 "RedTent$Body" "fuel" "I" ∈ ru_T := ru_in 2 212 (by decide +kernel)
set_option maxRecDepth 20000 in
theorem tw_2_95 : Cond.fieldLink RX11 10 "RedTent" "weather" "LRedTent$Weather;" ∈ ru_T := ru_in 2 95 (by decide +kernel)
set_option maxRecDepth 20000 in
theorem tw_2_107 : Cond.fieldLink RX11 253 "RedTent" "stayHours" "I" ∈ ru_T := ru_in 2 107 (by decide +kernel)
set_option maxRecDepth 20000 in
theorem tw_2_99 : Cond.fieldLink RX11 39 "RedTent" "crew" "LRedTent$Crew;" ∈ ru_T := ru_in 2 99 (by decide +kernel)
set_option maxRecDepth 20000 in
theorem tw_1_152 : Cond.fieldLink RX11 266 "RedTent$Crew" "men" "I" ∈ ru_T := ru_in 1 152 (by decide +kernel)
set_option maxRecDepth 20000 in
theorem tw_2_100 : Cond.fieldLink RX11 46 "RedTent" "orders" "LRedTent$Orders;" ∈ ru_T := ru_in 2 100 (by decide +kernel)
set_option maxRecDepth 20000 in
theorem tw_1_144 : Cond.fieldLink RX11 386 "RedTent$Crew" "strength" "[I" ∈ ru_T := ru_in 1 144 (by decide +kernel)
set_option maxRecDepth 20000 in
theorem tw_1_146 : Cond.fieldLink RX11 389 "RedTent$Crew" "hurt" "[I" ∈ ru_T := ru_in 1 146 (by decide +kernel)
set_option maxRecDepth 20000 in
theorem tw_1_148 : Cond.fieldLink RX11 392 "RedTent$Crew" "skill" "[I" ∈ ru_T := ru_in 1 148 (by decide +kernel)
set_option maxRecDepth 20000 in
theorem tw_1_142 : Cond.fieldLink RX11 385 "RedTent$Crew" "body" "[I" ∈ ru_T := ru_in 1 142 (by decide +kernel)
set_option maxRecDepth 20000 in
theorem tw_1_38 : Cond.fieldLink RX11 94 "RedTent$Weather" "windCount" "I" ∈ ru_T := ru_in 1 38 (by decide +kernel)
set_option maxRecDepth 20000 in
theorem tw_1_40 : Cond.fieldLink RX11 104 "RedTent$Weather" "fogCount" "I" ∈ ru_T := ru_in 1 40 (by decide +kernel)
set_option maxRecDepth 20000 in
theorem tw_2_204 : Cond.fieldLink RX11 116 "RedTent$Body" "kind" "I" ∈ ru_T := ru_in 2 204 (by decide +kernel)
set_option maxRecDepth 20000 in
theorem tw_2_206 : Cond.fieldLink RX11 119 "RedTent$Body" "start" "I" ∈ ru_T := ru_in 2 206 (by decide +kernel)
set_option maxRecDepth 20000 in
theorem tw_2_208 : Cond.fieldLink RX11 122 "RedTent$Body" "begin" "I" ∈ ru_T := ru_in 2 208 (by decide +kernel)
set_option maxRecDepth 20000 in
theorem tw_2_210 : Cond.fieldLink RX11 125 "RedTent$Body" "men" "I" ∈ ru_T := ru_in 2 210 (by decide +kernel)
set_option maxRecDepth 20000 in
theorem tw_2_214 : Cond.fieldLink RX11 128 "RedTent$Body" "food" "I" ∈ ru_T := ru_in 2 214 (by decide +kernel)
set_option maxRecDepth 20000 in
theorem tw_3_42 : Cond.constantLong RX11 148 (-4611686018427387904) ∈ ru_T := ru_in 3 42 (by decide +kernel)
set_option maxRecDepth 20000 in
theorem tw_2_106 : Cond.fieldLink RX11 154 "RedTent" "fixCount" "I" ∈ ru_T := ru_in 2 106 (by decide +kernel)
set_option maxRecDepth 20000 in
theorem tw_2_97 : Cond.fieldLink RX11 25 "RedTent" "radio" "LRedTent$Radio;" ∈ ru_T := ru_in 2 97 (by decide +kernel)
set_option maxRecDepth 20000 in
theorem tw_1_61 : Cond.fieldLink RX11 161 "RedTent$Radio" "hearers" "I" ∈ ru_T := ru_in 1 61 (by decide +kernel)
set_option maxRecDepth 20000 in
theorem tw_1_71 : Cond.fieldLink RX11 171 "RedTent$Radio" "calls" "I" ∈ ru_T := ru_in 1 71 (by decide +kernel)
set_option maxRecDepth 20000 in
theorem tw_1_65 : Cond.fieldLink RX11 181 "RedTent$Radio" "callBody" "[I" ∈ ru_T := ru_in 1 65 (by decide +kernel)
set_option maxRecDepth 20000 in
theorem tw_1_68 : Cond.fieldLink RX11 185 "RedTent$Radio" "callHour" "[I" ∈ ru_T := ru_in 1 68 (by decide +kernel)
set_option maxRecDepth 20000 in
theorem tw_3_132 : Cond.constant RX11 192 (65536) ∈ ru_T := ru_in 3 132 (by decide +kernel)
set_option maxRecDepth 20000 in
theorem tw_1_76 : Cond.fieldLink RX11 193 "RedTent$Radio" "parts" "I" ∈ ru_T := ru_in 1 76 (by decide +kernel)
set_option maxRecDepth 20000 in
theorem tw_2_98 : Cond.fieldLink RX11 32 "RedTent" "search" "LRedTent$Search;" ∈ ru_T := ru_in 2 98 (by decide +kernel)
set_option maxRecDepth 20000 in
theorem tw_1_113 : Cond.fieldLink RX11 207 "RedTent$Search" "laneCount" "I" ∈ ru_T := ru_in 1 113 (by decide +kernel)
set_option maxRecDepth 20000 in
theorem tw_2_225 : Cond.fieldLink RX11 217 "RedTent$Body" "flownCount" "I" ∈ ru_T := ru_in 2 225 (by decide +kernel)
set_option maxRecDepth 20000 in
theorem tw_1_118 : Cond.fieldLink RX11 250 "RedTent$Search" "chosen" "[I" ∈ ru_T := ru_in 1 118 (by decide +kernel)
set_option maxRecDepth 20000 in
theorem tw_4_13 : Cond.methodLink RX11 259 yX11_backFrom ∈ ru_T := ru_in 4 13 (by decide +kernel)
set_option maxRecDepth 20000 in
theorem tw_4_15 : Cond.instanceMethod yX11_backFrom ∈ ru_T := ru_in 4 15 (by decide +kernel)
set_option maxRecDepth 20000 in
theorem tw_0_8 : Cond.selects RX11 yX11_backFrom yX11_backFrom ∈ ru_T := ru_in 0 8 (by decide +kernel)
set_option maxRecDepth 20000 in
theorem tw_4_16 : Cond.code yX11_backFrom cX11_backFrom 6 (some .int) ∈ ru_T := ru_inc 4 16 rfl rfl
theorem mT_X11_backFrom : ∀ w ∈ wsX11_backFrom, w ∈ ru_T := ru_gc tw_4_16
set_option maxRecDepth 20000 in
theorem tw_4_30 : Cond.methodLink RX11 263 yX11_isMark ∈ ru_T := ru_in 4 30 (by decide +kernel)
set_option maxRecDepth 20000 in
theorem tw_4_31 : Cond.static yX11_isMark ∈ ru_T := ru_in 4 31 (by decide +kernel)
set_option maxRecDepth 20000 in
theorem tw_4_32 : Cond.code yX11_isMark cX11_isMark 1 (some .boolean) ∈ ru_T := ru_inc 4 32 rfl rfl
theorem mT_X11_isMark : ∀ w ∈ wsX11_isMark, w ∈ ru_T := ru_gc tw_4_32
set_option maxRecDepth 20000 in
theorem tw_4_33 : Cond.methodLink RX11 267 yX2_addMan ∈ ru_T := ru_in 4 33 (by decide +kernel)
set_option maxRecDepth 20000 in
theorem tw_4_34 : Cond.instanceMethod yX2_addMan ∈ ru_T := ru_in 4 34 (by decide +kernel)
set_option maxRecDepth 20000 in
theorem tw_4_35 : Cond.selects RX2 yX2_addMan yX2_addMan ∈ ru_T := ru_in 4 35 (by decide +kernel)
set_option maxRecDepth 20000 in
theorem tw_4_36 : Cond.code yX2_addMan cX2_addMan 5 (some .int) ∈ ru_T := ru_inc 4 36 rfl rfl
theorem mT_X2_addMan : ∀ w ∈ wsX2_addMan, w ∈ ru_T := ru_gc tw_4_36
set_option maxRecDepth 20000 in
theorem tw_4_41 : Cond.methodLink RX11 274 yX3_addBytes ∈ ru_T := ru_in 4 41 (by decide +kernel)
set_option maxRecDepth 20000 in
theorem tw_4_42 : Cond.instanceMethod yX3_addBytes ∈ ru_T := ru_in 4 42 (by decide +kernel)
set_option maxRecDepth 20000 in
theorem tw_4_43 : Cond.selects RX3 yX3_addBytes yX3_addBytes ∈ ru_T := ru_in 4 43 (by decide +kernel)
set_option maxRecDepth 20000 in
theorem tw_4_44 : Cond.code yX3_addBytes cX3_addBytes 5 (some .int) ∈ ru_T := ru_inc 4 44 rfl rfl
theorem mT_X3_addBytes : ∀ w ∈ wsX3_addBytes, w ∈ ru_T := ru_gc tw_4_44
set_option maxRecDepth 20000 in
theorem tw_4_233 : Cond.methodLink RX11 289 yX11_nearest ∈ ru_T := ru_in 4 233 (by decide +kernel)
set_option maxRecDepth 20000 in
theorem tw_4_234 : Cond.static yX11_nearest ∈ ru_T := ru_in 4 234 (by decide +kernel)
set_option maxRecDepth 20000 in
theorem tw_4_235 : Cond.code yX11_nearest cX11_nearest 5 (some .int) ∈ ru_T := ru_inc 4 235 rfl rfl
theorem mT_X11_nearest : ∀ w ∈ wsX11_nearest, w ∈ ru_T := ru_gc tw_4_235
set_option maxRecDepth 20000 in
theorem tw_4_209 : Cond.methodLink RX11 286 yX11_takeOf ∈ ru_T := ru_in 4 209 (by decide +kernel)
set_option maxRecDepth 20000 in
theorem tw_4_211 : Cond.instanceMethod yX11_takeOf ∈ ru_T := ru_in 4 211 (by decide +kernel)
set_option maxRecDepth 20000 in
theorem tw_0_24 : Cond.selects RX11 yX11_takeOf yX11_takeOf ∈ ru_T := ru_in 0 24 (by decide +kernel)
set_option maxRecDepth 20000 in
theorem tw_4_212 : Cond.code yX11_takeOf cX11_takeOf 4 (some .int) ∈ ru_T := ru_inc 4 212 rfl rfl
theorem mT_X11_takeOf : ∀ w ∈ wsX11_takeOf, w ∈ ru_T := ru_gc tw_4_212
set_option maxRecDepth 20000 in
theorem tw_5_2 : Cond.methodLink RX11 299 yX2_inTurn ∈ ru_T := ru_in 5 2 (by decide +kernel)
set_option maxRecDepth 20000 in
theorem tw_5_3 : Cond.instanceMethod yX2_inTurn ∈ ru_T := ru_in 5 3 (by decide +kernel)
set_option maxRecDepth 20000 in
theorem tw_5_4 : Cond.selects RX2 yX2_inTurn yX2_inTurn ∈ ru_T := ru_in 5 4 (by decide +kernel)
set_option maxRecDepth 20000 in
theorem tw_5_5 : Cond.code yX2_inTurn cX2_inTurn 4 (some .int) ∈ ru_T := ru_inc 5 5 rfl rfl
theorem mT_X2_inTurn : ∀ w ∈ wsX2_inTurn, w ∈ ru_T := ru_gc tw_5_5
set_option maxRecDepth 20000 in
theorem tw_5_14 : Cond.methodLink RX11 305 yX8_addStory ∈ ru_T := ru_in 5 14 (by decide +kernel)
set_option maxRecDepth 20000 in
theorem tw_5_15 : Cond.instanceMethod yX8_addStory ∈ ru_T := ru_in 5 15 (by decide +kernel)
set_option maxRecDepth 20000 in
theorem tw_5_16 : Cond.selects RX8 yX8_addStory yX8_addStory ∈ ru_T := ru_in 5 16 (by decide +kernel)
set_option maxRecDepth 20000 in
theorem tw_1_9 : Cond.initialized RX8 ∈ ru_T := ru_in 1 9 (by decide +kernel)
set_option maxRecDepth 20000 in
theorem tw_5_17 : Cond.code yX8_addStory cX8_addStory 4 (some .int) ∈ ru_T := ru_inc 5 17 rfl rfl
theorem mT_X8_addStory : ∀ w ∈ wsX8_addStory, w ∈ ru_T := ru_gc tw_5_17
set_option maxRecDepth 20000 in
theorem tw_5_26 : Cond.methodLink RX11 321 yX8_hasStory ∈ ru_T := ru_in 5 26 (by decide +kernel)
set_option maxRecDepth 20000 in
theorem tw_5_27 : Cond.instanceMethod yX8_hasStory ∈ ru_T := ru_in 5 27 (by decide +kernel)
set_option maxRecDepth 20000 in
theorem tw_5_28 : Cond.selects RX8 yX8_hasStory yX8_hasStory ∈ ru_T := ru_in 5 28 (by decide +kernel)
set_option maxRecDepth 20000 in
theorem tw_5_29 : Cond.code yX8_hasStory cX8_hasStory 2 (some .boolean) ∈ ru_T := ru_inc 5 29 rfl rfl
theorem mT_X8_hasStory : ∀ w ∈ wsX8_hasStory, w ∈ ru_T := ru_gc tw_5_29
set_option maxRecDepth 20000 in
theorem tw_5_30 : Cond.methodLink RX11 324 yX0_driftIn ∈ ru_T := ru_in 5 30 (by decide +kernel)
set_option maxRecDepth 20000 in
theorem tw_5_36 : Cond.methodLink RX11 333 yX1_addRow ∈ ru_T := ru_in 5 36 (by decide +kernel)
set_option maxRecDepth 20000 in
theorem tw_5_37 : Cond.instanceMethod yX1_addRow ∈ ru_T := ru_in 5 37 (by decide +kernel)
set_option maxRecDepth 20000 in
theorem tw_5_38 : Cond.selects RX1 yX1_addRow yX1_addRow ∈ ru_T := ru_in 5 38 (by decide +kernel)
set_option maxRecDepth 20000 in
theorem tw_5_39 : Cond.code yX1_addRow cX1_addRow 6 (some .int) ∈ ru_T := ru_inc 5 39 rfl rfl
theorem mT_X1_addRow : ∀ w ∈ wsX1_addRow, w ∈ ru_T := ru_gc tw_5_39
set_option maxRecDepth 20000 in
theorem tw_5_45 : Cond.methodLink RX11 336 yX1_plan ∈ ru_T := ru_in 5 45 (by decide +kernel)
set_option maxRecDepth 20000 in
theorem tw_5_46 : Cond.instanceMethod yX1_plan ∈ ru_T := ru_in 5 46 (by decide +kernel)
set_option maxRecDepth 20000 in
theorem tw_5_47 : Cond.selects RX1 yX1_plan yX1_plan ∈ ru_T := ru_in 5 47 (by decide +kernel)
set_option maxRecDepth 20000 in
theorem tw_5_48 : Cond.code yX1_plan cX1_plan 5 none ∈ ru_T := ru_inc 5 48 rfl rfl
theorem mT_X1_plan : ∀ w ∈ wsX1_plan, w ∈ ru_T := ru_gc tw_5_48
set_option maxRecDepth 20000 in
theorem tw_5_64 : Cond.methodLink RX11 345 yX1_wayOn ∈ ru_T := ru_in 5 64 (by decide +kernel)
set_option maxRecDepth 20000 in
theorem tw_5_73 : Cond.methodLink RX11 348 yX11_sheetAt ∈ ru_T := ru_in 5 73 (by decide +kernel)
set_option maxRecDepth 20000 in
theorem tw_5_75 : Cond.instanceMethod yX11_sheetAt ∈ ru_T := ru_in 5 75 (by decide +kernel)
set_option maxRecDepth 20000 in
theorem tw_0_28 : Cond.selects RX11 yX11_sheetAt yX11_sheetAt ∈ ru_T := ru_in 0 28 (by decide +kernel)
set_option maxRecDepth 20000 in
theorem tw_5_76 : Cond.code yX11_sheetAt cX11_sheetAt 2 (some (.object "RedTent$Sheet")) ∈ ru_T := ru_inc 5 76 rfl rfl
theorem mT_X11_sheetAt : ∀ w ∈ wsX11_sheetAt, w ∈ ru_T := ru_gc tw_5_76
set_option maxRecDepth 20000 in
theorem tw_5_77 : Cond.methodLink RX11 352 yX7_become ∈ ru_T := ru_in 5 77 (by decide +kernel)
set_option maxRecDepth 20000 in
theorem tw_5_78 : Cond.instanceMethod yX7_become ∈ ru_T := ru_in 5 78 (by decide +kernel)
set_option maxRecDepth 20000 in
theorem tw_5_79 : Cond.selects RX7 yX7_become yX7_become ∈ ru_T := ru_in 5 79 (by decide +kernel)
set_option maxRecDepth 20000 in
theorem tw_1_11 : Cond.initialized RX7 ∈ ru_T := ru_in 1 11 (by decide +kernel)
set_option maxRecDepth 20000 in
theorem tw_5_80 : Cond.code yX7_become cX7_become 4 none ∈ ru_T := ru_inc 5 80 rfl rfl
theorem mT_X7_become : ∀ w ∈ wsX7_become, w ∈ ru_T := ru_gc tw_5_80
set_option maxRecDepth 20000 in
theorem tw_5_85 : Cond.methodLink RX11 358 yX7_hasItem ∈ ru_T := ru_in 5 85 (by decide +kernel)
set_option maxRecDepth 20000 in
theorem tw_5_86 : Cond.instanceMethod yX7_hasItem ∈ ru_T := ru_in 5 86 (by decide +kernel)
set_option maxRecDepth 20000 in
theorem tw_5_87 : Cond.selects RX7 yX7_hasItem yX7_hasItem ∈ ru_T := ru_in 5 87 (by decide +kernel)
set_option maxRecDepth 20000 in
theorem tw_5_88 : Cond.code yX7_hasItem cX7_hasItem 2 (some .boolean) ∈ ru_T := ru_inc 5 88 rfl rfl
theorem mT_X7_hasItem : ∀ w ∈ wsX7_hasItem, w ∈ ru_T := ru_gc tw_5_88
set_option maxRecDepth 20000 in
theorem tw_5_89 : Cond.methodLink RX11 361 yX7_put ∈ ru_T := ru_in 5 89 (by decide +kernel)
set_option maxRecDepth 20000 in
theorem tw_5_90 : Cond.instanceMethod yX7_put ∈ ru_T := ru_in 5 90 (by decide +kernel)
set_option maxRecDepth 20000 in
theorem tw_5_91 : Cond.selects RX7 yX7_put yX7_put ∈ ru_T := ru_in 5 91 (by decide +kernel)
set_option maxRecDepth 20000 in
theorem tw_5_92 : Cond.code yX7_put cX7_put 3 none ∈ ru_T := ru_inc 5 92 rfl rfl
theorem mT_X7_put : ∀ w ∈ wsX7_put, w ∈ ru_T := ru_gc tw_5_92
set_option maxRecDepth 20000 in
theorem tw_5_97 : Cond.methodLink RX11 364 yX7_hasStretch ∈ ru_T := ru_in 5 97 (by decide +kernel)
set_option maxRecDepth 20000 in
theorem tw_5_98 : Cond.instanceMethod yX7_hasStretch ∈ ru_T := ru_in 5 98 (by decide +kernel)
set_option maxRecDepth 20000 in
theorem tw_5_99 : Cond.selects RX7 yX7_hasStretch yX7_hasStretch ∈ ru_T := ru_in 5 99 (by decide +kernel)
set_option maxRecDepth 20000 in
theorem tw_5_100 : Cond.code yX7_hasStretch cX7_hasStretch 3 (some .boolean) ∈ ru_T := ru_inc 5 100 rfl rfl
theorem mT_X7_hasStretch : ∀ w ∈ wsX7_hasStretch, w ∈ ru_T := ru_gc tw_5_100
set_option maxRecDepth 20000 in
theorem tw_5_106 : Cond.methodLink RX11 376 yX11_fix ∈ ru_T := ru_in 5 106 (by decide +kernel)
set_option maxRecDepth 20000 in
theorem tw_3_71 : Cond.instanceMethod yX11_fix ∈ ru_T := ru_in 3 71 (by decide +kernel)
set_option maxRecDepth 20000 in
theorem tw_3_72 : Cond.selects RX11 yX11_fix yX11_fix ∈ ru_T := ru_in 3 72 (by decide +kernel)
set_option maxRecDepth 20000 in
theorem tw_3_73 : Cond.code yX11_fix cX11_fix 6 (some .int) ∈ ru_T := ru_inc 3 73 rfl rfl
theorem mT_X11_fix : ∀ w ∈ wsX11_fix, w ∈ ru_T := ru_gc tw_3_73
set_option maxRecDepth 20000 in
theorem tw_2_3 : Cond.fieldLink RX11 271 "RedTent$Orders" "tapeSize" "I" ∈ ru_T := ru_in 2 3 (by decide +kernel)
set_option maxRecDepth 20000 in
theorem tw_2_6 : Cond.fieldLink RX11 280 "RedTent$Orders" "textCount" "I" ∈ ru_T := ru_in 2 6 (by decide +kernel)
set_option maxRecDepth 20000 in
theorem tw_2_8 : Cond.fieldLink RX11 283 "RedTent$Orders" "inForce" "I" ∈ ru_T := ru_in 2 8 (by decide +kernel)
set_option maxRecDepth 20000 in
theorem tw_1_150 : Cond.fieldLink RX11 296 "RedTent$Crew" "takes" "[I" ∈ ru_T := ru_in 1 150 (by decide +kernel)
set_option maxRecDepth 20000 in
theorem tw_2_101 : Cond.fieldLink RX11 53 "RedTent" "stories" "LRedTent$Stories;" ∈ ru_T := ru_in 2 101 (by decide +kernel)
set_option maxRecDepth 20000 in
theorem tw_2_42 : Cond.fieldLink RX11 302 "RedTent$Stories" "told" "I" ∈ ru_T := ru_in 2 42 (by decide +kernel)
set_option maxRecDepth 20000 in
theorem tw_2_36 : Cond.fieldLink RX11 308 "RedTent$Stories" "body" "[I" ∈ ru_T := ru_in 2 36 (by decide +kernel)
set_option maxRecDepth 20000 in
theorem tw_2_40 : Cond.fieldLink RX11 311 "RedTent$Stories" "hour" "[I" ∈ ru_T := ru_in 2 40 (by decide +kernel)
set_option maxRecDepth 20000 in
theorem tw_2_38 : Cond.fieldLink RX11 314 "RedTent$Stories" "cell" "[I" ∈ ru_T := ru_in 2 38 (by decide +kernel)
set_option maxRecDepth 20000 in
theorem tw_5_35 : Cond.constantLong RX11 328 (999999999999999) ∈ ru_T := ru_in 5 35 (by decide +kernel)
set_option maxRecDepth 20000 in
theorem tw_2_102 : Cond.fieldLink RX11 60 "RedTent" "breaker" "LRedTent$Breaker;" ∈ ru_T := ru_in 2 102 (by decide +kernel)
set_option maxRecDepth 20000 in
theorem tw_2_62 : Cond.fieldLink RX11 330 "RedTent$Breaker" "rowCount" "I" ∈ ru_T := ru_in 2 62 (by decide +kernel)
set_option maxRecDepth 20000 in
theorem tw_2_66 : Cond.fieldLink RX11 342 "RedTent$Breaker" "bestWays" "I" ∈ ru_T := ru_in 2 66 (by decide +kernel)
set_option maxRecDepth 20000 in
theorem tw_2_64 : Cond.fieldLink RX11 339 "RedTent$Breaker" "bestCells" "I" ∈ ru_T := ru_in 2 64 (by decide +kernel)
set_option maxRecDepth 20000 in
theorem tw_2_86 : Cond.fieldLink RX11 355 "RedTent$Sheet" "sort" "I" ∈ ru_T := ru_in 2 86 (by decide +kernel)
set_option maxRecDepth 20000 in
theorem tw_2_84 : Cond.fieldLink RX11 367 "RedTent$Sheet" "items" "[I" ∈ ru_T := ru_in 2 84 (by decide +kernel)
set_option maxRecDepth 20000 in
theorem tw_5_101 : Cond.methodLink RX11 370 arraycopyName ∈ ru_T := ru_in 5 101 (by decide +kernel)
set_option maxRecDepth 20000 in
theorem tw_6_122 : Cond.methodLink RX12 186 yX12_within ∈ ru_T := ru_in 6 122 (by decide +kernel)
set_option maxRecDepth 20000 in
theorem tw_6_123 : Cond.static yX12_within ∈ ru_T := ru_in 6 123 (by decide +kernel)
set_option maxRecDepth 20000 in
theorem tw_1_12 : Cond.initialized RX12 ∈ ru_T := ru_in 1 12 (by decide +kernel)
set_option maxRecDepth 20000 in
theorem tw_6_124 : Cond.code yX12_within cX12_within 3 (some .boolean) ∈ ru_T := ru_inc 6 124 rfl rfl
theorem mT_X12_within : ∀ w ∈ wsX12_within, w ∈ ru_T := ru_gc tw_6_124
set_option maxRecDepth 20000 in
theorem tw_6_211 : Cond.methodLink RX12 197 yX12_size ∈ ru_T := ru_in 6 211 (by decide +kernel)
set_option maxRecDepth 20000 in
theorem tw_6_212 : Cond.static yX12_size ∈ ru_T := ru_in 6 212 (by decide +kernel)
set_option maxRecDepth 20000 in
theorem tw_6_213 : Cond.code yX12_size cX12_size 1 (some .int) ∈ ru_T := ru_inc 6 213 rfl rfl
theorem mT_X12_size : ∀ w ∈ wsX12_size, w ∈ ru_T := ru_gc tw_6_213
set_option maxRecDepth 20000 in
theorem tw_6_151 : Cond.methodLink RX12 193 yX12_isBody ∈ ru_T := ru_in 6 151 (by decide +kernel)
set_option maxRecDepth 20000 in
theorem tw_6_153 : Cond.instanceMethod yX12_isBody ∈ ru_T := ru_in 6 153 (by decide +kernel)
set_option maxRecDepth 20000 in
theorem tw_0_30 : Cond.selects RX12 yX12_isBody yX12_isBody ∈ ru_T := ru_in 0 30 (by decide +kernel)
set_option maxRecDepth 20000 in
theorem tw_6_154 : Cond.code yX12_isBody cX12_isBody 2 (some .boolean) ∈ ru_T := ru_inc 6 154 rfl rfl
theorem mT_X12_isBody : ∀ w ∈ wsX12_isBody, w ∈ ru_T := ru_gc tw_6_154
set_option maxRecDepth 20000 in
theorem tw_6_168 : Cond.methodLink RX12 228 yX12_narrowed ∈ ru_T := ru_in 6 168 (by decide +kernel)
set_option maxRecDepth 20000 in
theorem tw_6_170 : Cond.instanceMethod yX12_narrowed ∈ ru_T := ru_in 6 170 (by decide +kernel)
set_option maxRecDepth 20000 in
theorem tw_0_33 : Cond.selects RX12 yX12_narrowed yX12_narrowed ∈ ru_T := ru_in 0 33 (by decide +kernel)
set_option maxRecDepth 20000 in
theorem tw_6_171 : Cond.code yX12_narrowed cX12_narrowed 9 (some .long) ∈ ru_T := ru_inc 6 171 rfl rfl
theorem mT_X12_narrowed : ∀ w ∈ wsX12_narrowed, w ∈ ru_T := ru_gc tw_6_171
set_option maxRecDepth 20000 in
theorem tw_6_173 : Cond.methodLink RX12 232 yX12_drifted ∈ ru_T := ru_in 6 173 (by decide +kernel)
set_option maxRecDepth 20000 in
theorem tw_6_175 : Cond.instanceMethod yX12_drifted ∈ ru_T := ru_in 6 175 (by decide +kernel)
set_option maxRecDepth 20000 in
theorem tw_0_34 : Cond.selects RX12 yX12_drifted yX12_drifted ∈ ru_T := ru_in 0 34 (by decide +kernel)
set_option maxRecDepth 20000 in
theorem tw_6_176 : Cond.code yX12_drifted cX12_drifted 17 (some .long) ∈ ru_T := ru_inc 6 176 rfl rfl
theorem mT_X12_drifted : ∀ w ∈ wsX12_drifted, w ∈ ru_T := ru_gc tw_6_176
set_option maxRecDepth 20000 in
theorem tw_7_3 : Cond.methodLink RX12 278 yX12_fogIn ∈ ru_T := ru_in 7 3 (by decide +kernel)
set_option maxRecDepth 20000 in
theorem tw_7_5 : Cond.instanceMethod yX12_fogIn ∈ ru_T := ru_in 7 5 (by decide +kernel)
set_option maxRecDepth 20000 in
theorem tw_0_38 : Cond.selects RX12 yX12_fogIn yX12_fogIn ∈ ru_T := ru_in 0 38 (by decide +kernel)
set_option maxRecDepth 20000 in
theorem tw_7_6 : Cond.code yX12_fogIn cX12_fogIn 4 (some .int) ∈ ru_T := ru_inc 7 6 rfl rfl
theorem mT_X12_fogIn : ∀ w ∈ wsX12_fogIn, w ∈ ru_T := ru_gc tw_7_6
set_option maxRecDepth 20000 in
theorem tw_6_226 : Cond.constantLong RX12 266 (15) ∈ ru_T := ru_in 6 226 (by decide +kernel)
set_option maxRecDepth 20000 in
theorem iT_X12 : ∀ w ∈ wsX120, w ∈ ru_T := ru_inq _ [(5, 199), (5, 201), (5, 203), (5, 205), (5, 207), (5, 209), (5, 211), (5, 213), (5, 215), (5, 217), (5, 219), (5, 221), (5, 223), (5, 225), (5, 227), (5, 229), (5, 231), (5, 233), (5, 235), (5, 237), (5, 239), (6, 1), (6, 3), (6, 5), (6, 7), (6, 9), (6, 11), (6, 13), (6, 15), (6, 17), (6, 19), (6, 21), (6, 23), (6, 25), (6, 27), (6, 29), (6, 31), (6, 33), (6, 35), (6, 37), (6, 39), (6, 41), (6, 43), (6, 45), (6, 47), (6, 49), (6, 51), (6, 53), (6, 55), (6, 57), (6, 59), (6, 61), (6, 63), (6, 65), (6, 67), (6, 69), (6, 71), (6, 73), (6, 75), (6, 77), (6, 79), (6, 81), (6, 83), (6, 85), (6, 87), (6, 89), (6, 91), (6, 93), (6, 95), (6, 97), (6, 99), (6, 101), (6, 103), (6, 105), (6, 107), (6, 109), (6, 111), (6, 113), (6, 115)] (by decide +kernel) (by decide +kernel)
set_option maxRecDepth 20000 in
theorem tw_5_136 : Cond.fieldLink RX12 190 "RedTentModel" "bodies" "I" ∈ ru_T := ru_in 5 136 (by decide +kernel)
set_option maxRecDepth 20000 in
theorem tw_5_130 : Cond.fieldLink RX12 28 "RedTentModel" "kind" "[I" ∈ ru_T := ru_in 5 130 (by decide +kernel)
set_option maxRecDepth 20000 in
theorem tw_5_150 : Cond.fieldLink RX12 252 "RedTentModel" "calls" "I" ∈ ru_T := ru_in 5 150 (by decide +kernel)
set_option maxRecDepth 20000 in
theorem tw_5_168 : Cond.fieldLink RX12 440 "RedTentModel" "stories" "I" ∈ ru_T := ru_in 5 168 (by decide +kernel)
set_option maxRecDepth 20000 in
theorem tw_5_196 : Cond.fieldLink RX12 161 "RedTentModel" "many" "[I" ∈ ru_T := ru_in 5 196 (by decide +kernel)
set_option maxRecDepth 20000 in
theorem tw_5_133 : Cond.fieldLink RX12 37 "RedTentModel" "menOf" "[I" ∈ ru_T := ru_in 5 133 (by decide +kernel)
set_option maxRecDepth 20000 in
theorem tw_5_129 : Cond.fieldLink RX12 214 "RedTentModel" "fogs" "I" ∈ ru_T := ru_in 5 129 (by decide +kernel)
set_option maxRecDepth 20000 in
theorem tw_5_126 : Cond.fieldLink RX12 19 "RedTentModel" "fogFrom" "[I" ∈ ru_T := ru_in 5 126 (by decide +kernel)
set_option maxRecDepth 20000 in
theorem tw_5_127 : Cond.fieldLink RX12 22 "RedTentModel" "fogTo" "[I" ∈ ru_T := ru_in 5 127 (by decide +kernel)
set_option maxRecDepth 20000 in
theorem tw_5_128 : Cond.fieldLink RX12 25 "RedTentModel" "fogIs" "[I" ∈ ru_T := ru_in 5 128 (by decide +kernel)
set_option maxRecDepth 20000 in
theorem tw_5_125 : Cond.fieldLink RX12 211 "RedTentModel" "winds" "I" ∈ ru_T := ru_in 5 125 (by decide +kernel)
set_option maxRecDepth 20000 in
theorem tw_5_122 : Cond.fieldLink RX12 9 "RedTentModel" "windFrom" "[I" ∈ ru_T := ru_in 5 122 (by decide +kernel)
set_option maxRecDepth 20000 in
theorem tw_5_123 : Cond.fieldLink RX12 13 "RedTentModel" "windTo" "[I" ∈ ru_T := ru_in 5 123 (by decide +kernel)
set_option maxRecDepth 20000 in
theorem tw_5_124 : Cond.fieldLink RX12 16 "RedTentModel" "windBy" "[I" ∈ ru_T := ru_in 5 124 (by decide +kernel)
set_option maxRecDepth 20000 in
theorem tw_5_141 : Cond.fieldLink RX12 223 "RedTentModel" "fixings" "I" ∈ ru_T := ru_in 5 141 (by decide +kernel)
set_option maxRecDepth 20000 in
theorem tw_5_137 : Cond.fieldLink RX12 46 "RedTentModel" "fixBody" "[I" ∈ ru_T := ru_in 5 137 (by decide +kernel)
set_option maxRecDepth 20000 in
theorem tw_6_172 : Cond.constantLong RX12 226 (-1) ∈ ru_T := ru_in 6 172 (by decide +kernel)
set_option maxRecDepth 20000 in
theorem tw_5_138 : Cond.fieldLink RX12 49 "RedTentModel" "fixHour" "[I" ∈ ru_T := ru_in 5 138 (by decide +kernel)
set_option maxRecDepth 20000 in
theorem tw_5_140 : Cond.fieldLink RX12 56 "RedTentModel" "fixTold" "[I" ∈ ru_T := ru_in 5 140 (by decide +kernel)
set_option maxRecDepth 20000 in
theorem tw_5_139 : Cond.fieldLink RX12 52 "RedTentModel" "fixCells" "[J" ∈ ru_T := ru_in 5 139 (by decide +kernel)
set_option maxRecDepth 20000 in
theorem tw_5_131 : Cond.fieldLink RX12 31 "RedTentModel" "began" "[I" ∈ ru_T := ru_in 5 131 (by decide +kernel)
set_option maxRecDepth 20000 in
theorem tw_5_132 : Cond.fieldLink RX12 34 "RedTentModel" "cellOf" "[I" ∈ ru_T := ru_in 5 132 (by decide +kernel)
set_option maxRecDepth 20000 in
theorem tw_5_169 : Cond.fieldLink RX12 122 "RedTentModel" "ice" "[I" ∈ ru_T := ru_in 5 169 (by decide +kernel)
set_option maxRecDepth 20000 in
theorem tw_5_193 : Cond.fieldLink RX12 152 "RedTentModel" "ways" "[I" ∈ ru_T := ru_in 5 193 (by decide +kernel)
set_option maxRecDepth 20000 in
theorem tw_6_125 : Cond.methodLink RX12 204 yX12_eats ∈ ru_T := ru_in 6 125 (by decide +kernel)
set_option maxRecDepth 20000 in
theorem tw_6_127 : Cond.instanceMethod yX12_eats ∈ ru_T := ru_in 6 127 (by decide +kernel)
set_option maxRecDepth 20000 in
theorem tw_0_29 : Cond.selects RX12 yX12_eats yX12_eats ∈ ru_T := ru_in 0 29 (by decide +kernel)
set_option maxRecDepth 20000 in
theorem tw_6_128 : Cond.code yX12_eats cX12_eats 3 (some .int) ∈ ru_T := ru_inc 6 128 rfl rfl
theorem mT_X12_eats : ∀ w ∈ wsX12_eats, w ∈ ru_T := ru_gc tw_6_128
set_option maxRecDepth 20000 in
theorem tw_6_133 : Cond.methodLink RX12 207 yX12_areHours ∈ ru_T := ru_in 6 133 (by decide +kernel)
set_option maxRecDepth 20000 in
theorem tw_6_134 : Cond.static yX12_areHours ∈ ru_T := ru_in 6 134 (by decide +kernel)
set_option maxRecDepth 20000 in
theorem tw_6_135 : Cond.code yX12_areHours cX12_areHours 2 (some .boolean) ∈ ru_T := ru_inc 6 135 rfl rfl
theorem mT_X12_areHours : ∀ w ∈ wsX12_areHours, w ∈ ru_T := ru_gc tw_6_135
set_option maxRecDepth 20000 in
theorem tw_6_144 : Cond.methodLink RX12 217 yX12_isCell ∈ ru_T := ru_in 6 144 (by decide +kernel)
set_option maxRecDepth 20000 in
theorem tw_6_145 : Cond.static yX12_isCell ∈ ru_T := ru_in 6 145 (by decide +kernel)
set_option maxRecDepth 20000 in
theorem tw_6_146 : Cond.code yX12_isCell cX12_isCell 1 (some .boolean) ∈ ru_T := ru_inc 6 146 rfl rfl
theorem mT_X12_isCell : ∀ w ∈ wsX12_isCell, w ∈ ru_T := ru_gc tw_6_146
set_option maxRecDepth 20000 in
theorem tw_6_155 : Cond.methodLink RX12 220 yX12_burns ∈ ru_T := ru_in 6 155 (by decide +kernel)
set_option maxRecDepth 20000 in
theorem tw_6_157 : Cond.instanceMethod yX12_burns ∈ ru_T := ru_in 6 157 (by decide +kernel)
set_option maxRecDepth 20000 in
theorem tw_0_31 : Cond.selects RX12 yX12_burns yX12_burns ∈ ru_T := ru_in 0 31 (by decide +kernel)
set_option maxRecDepth 20000 in
theorem tw_6_158 : Cond.code yX12_burns cX12_burns 2 (some .int) ∈ ru_T := ru_inc 6 158 rfl rfl
theorem mT_X12_burns : ∀ w ∈ wsX12_burns, w ∈ ru_T := ru_gc tw_6_158
set_option maxRecDepth 20000 in
theorem tw_6_164 : Cond.methodLink RX12 238 yX12_patchOf ∈ ru_T := ru_in 6 164 (by decide +kernel)
set_option maxRecDepth 20000 in
theorem tw_6_166 : Cond.instanceMethod yX12_patchOf ∈ ru_T := ru_in 6 166 (by decide +kernel)
set_option maxRecDepth 20000 in
theorem tw_0_32 : Cond.selects RX12 yX12_patchOf yX12_patchOf ∈ ru_T := ru_in 0 32 (by decide +kernel)
set_option maxRecDepth 20000 in
theorem tw_6_167 : Cond.code yX12_patchOf cX12_patchOf 7 (some .long) ∈ ru_T := ru_inc 6 167 rfl rfl
theorem mT_X12_patchOf : ∀ w ∈ wsX12_patchOf, w ∈ ru_T := ru_gc tw_6_167
set_option maxRecDepth 20000 in
theorem tw_6_181 : Cond.methodLink RX12 242 yX12_addFix ∈ ru_T := ru_in 6 181 (by decide +kernel)
set_option maxRecDepth 20000 in
theorem tw_6_183 : Cond.instanceMethod yX12_addFix ∈ ru_T := ru_in 6 183 (by decide +kernel)
set_option maxRecDepth 20000 in
theorem tw_0_35 : Cond.selects RX12 yX12_addFix yX12_addFix ∈ ru_T := ru_in 0 35 (by decide +kernel)
set_option maxRecDepth 20000 in
theorem tw_6_184 : Cond.code yX12_addFix cX12_addFix 5 (some .int) ∈ ru_T := ru_inc 6 184 rfl rfl
theorem mT_X12_addFix : ∀ w ∈ wsX12_addFix, w ∈ ru_T := ru_gc tw_6_184
set_option maxRecDepth 20000 in
theorem tw_6_193 : Cond.methodLink RX12 249 yX12_isWave ∈ ru_T := ru_in 6 193 (by decide +kernel)
set_option maxRecDepth 20000 in
theorem tw_6_194 : Cond.static yX12_isWave ∈ ru_T := ru_in 6 194 (by decide +kernel)
set_option maxRecDepth 20000 in
theorem tw_6_195 : Cond.code yX12_isWave cX12_isWave 1 (some .boolean) ∈ ru_T := ru_inc 6 195 rfl rfl
theorem mT_X12_isWave : ∀ w ∈ wsX12_isWave, w ∈ ru_T := ru_gc tw_6_195
set_option maxRecDepth 20000 in
theorem tw_6_204 : Cond.methodLink RX12 255 yX12_isCall ∈ ru_T := ru_in 6 204 (by decide +kernel)
set_option maxRecDepth 20000 in
theorem tw_6_206 : Cond.instanceMethod yX12_isCall ∈ ru_T := ru_in 6 206 (by decide +kernel)
set_option maxRecDepth 20000 in
theorem tw_0_36 : Cond.selects RX12 yX12_isCall yX12_isCall ∈ ru_T := ru_in 0 36 (by decide +kernel)
set_option maxRecDepth 20000 in
theorem tw_6_207 : Cond.code yX12_isCall cX12_isCall 2 (some .boolean) ∈ ru_T := ru_inc 6 207 rfl rfl
theorem mT_X12_isCall : ∀ w ∈ wsX12_isCall, w ∈ ru_T := ru_gc tw_6_207
set_option maxRecDepth 20000 in
theorem tw_6_208 : Cond.methodLink RX12 258 yX12_apart ∈ ru_T := ru_in 6 208 (by decide +kernel)
set_option maxRecDepth 20000 in
theorem tw_6_209 : Cond.static yX12_apart ∈ ru_T := ru_in 6 209 (by decide +kernel)
set_option maxRecDepth 20000 in
theorem tw_6_210 : Cond.code yX12_apart cX12_apart 4 (some .int) ∈ ru_T := ru_inc 6 210 rfl rfl
theorem mT_X12_apart : ∀ w ∈ wsX12_apart, w ∈ ru_T := ru_gc tw_6_210
set_option maxRecDepth 20000 in
theorem tw_6_223 : Cond.methodLink RX12 268 yX12_wordOf ∈ ru_T := ru_in 6 223 (by decide +kernel)
set_option maxRecDepth 20000 in
theorem tw_6_224 : Cond.static yX12_wordOf ∈ ru_T := ru_in 6 224 (by decide +kernel)
set_option maxRecDepth 20000 in
theorem tw_6_225 : Cond.code yX12_wordOf cX12_wordOf 3 (some .int) ∈ ru_T := ru_inc 6 225 rfl rfl
theorem mT_X12_wordOf : ∀ w ∈ wsX12_wordOf, w ∈ ru_T := ru_gc tw_6_225
set_option maxRecDepth 20000 in
theorem tw_6_239 : Cond.methodLink RX12 275 yX12_isSeeker ∈ ru_T := ru_in 6 239 (by decide +kernel)
set_option maxRecDepth 20000 in
theorem tw_7_1 : Cond.instanceMethod yX12_isSeeker ∈ ru_T := ru_in 7 1 (by decide +kernel)
set_option maxRecDepth 20000 in
theorem tw_0_37 : Cond.selects RX12 yX12_isSeeker yX12_isSeeker ∈ ru_T := ru_in 0 37 (by decide +kernel)
set_option maxRecDepth 20000 in
theorem tw_7_2 : Cond.code yX12_isSeeker cX12_isSeeker 2 (some .boolean) ∈ ru_T := ru_inc 7 2 rfl rfl
theorem mT_X12_isSeeker : ∀ w ∈ wsX12_isSeeker, w ∈ ru_T := ru_gc tw_7_2
set_option maxRecDepth 20000 in
theorem tw_7_11 : Cond.methodLink RX12 287 yX12_weigh ∈ ru_T := ru_in 7 11 (by decide +kernel)
set_option maxRecDepth 20000 in
theorem tw_7_13 : Cond.instanceMethod yX12_weigh ∈ ru_T := ru_in 7 13 (by decide +kernel)
set_option maxRecDepth 20000 in
theorem tw_0_39 : Cond.selects RX12 yX12_weigh yX12_weigh ∈ ru_T := ru_in 0 39 (by decide +kernel)
set_option maxRecDepth 20000 in
theorem tw_7_14 : Cond.code yX12_weigh cX12_weigh 9 none ∈ ru_T := ru_inc 7 14 rfl rfl
theorem mT_X12_weigh : ∀ w ∈ wsX12_weigh, w ∈ ru_T := ru_gc tw_7_14
set_option maxRecDepth 20000 in
theorem tw_7_16 : Cond.methodLink RX12 291 yX12_divisor ∈ ru_T := ru_in 7 16 (by decide +kernel)
set_option maxRecDepth 20000 in
theorem tw_7_17 : Cond.static yX12_divisor ∈ ru_T := ru_in 7 17 (by decide +kernel)
set_option maxRecDepth 20000 in
theorem tw_7_18 : Cond.code yX12_divisor cX12_divisor 10 (some .long) ∈ ru_T := ru_inc 7 18 rfl rfl
theorem mT_X12_divisor : ∀ w ∈ wsX12_divisor, w ∈ ru_T := ru_gc tw_7_18
set_option maxRecDepth 20000 in
theorem tw_7_26 : Cond.methodLink RX12 298 yX12_partFrom ∈ ru_T := ru_in 7 26 (by decide +kernel)
set_option maxRecDepth 20000 in
theorem tw_7_28 : Cond.instanceMethod yX12_partFrom ∈ ru_T := ru_in 7 28 (by decide +kernel)
set_option maxRecDepth 20000 in
theorem tw_0_40 : Cond.selects RX12 yX12_partFrom yX12_partFrom ∈ ru_T := ru_in 0 40 (by decide +kernel)
set_option maxRecDepth 20000 in
theorem tw_7_29 : Cond.code yX12_partFrom cX12_partFrom 9 none ∈ ru_T := ru_inc 7 29 rfl rfl
theorem mT_X12_partFrom : ∀ w ∈ wsX12_partFrom, w ∈ ru_T := ru_gc tw_7_29
set_option maxRecDepth 20000 in
theorem tw_7_23 : Cond.methodLink RX12 302 yX12_countOf ∈ ru_T := ru_in 7 23 (by decide +kernel)
set_option maxRecDepth 20000 in
theorem tw_7_24 : Cond.static yX12_countOf ∈ ru_T := ru_in 7 24 (by decide +kernel)
set_option maxRecDepth 20000 in
theorem tw_7_25 : Cond.code yX12_countOf cX12_countOf 3 (some .int) ∈ ru_T := ru_inc 7 25 rfl rfl
theorem mT_X12_countOf : ∀ w ∈ wsX12_countOf, w ∈ ru_T := ru_gc tw_7_25
set_option maxRecDepth 20000 in
theorem tw_5_120 : Cond.fieldLink RX12 201 "RedTentModel" "hour" "I" ∈ ru_T := ru_in 5 120 (by decide +kernel)
set_option maxRecDepth 20000 in
theorem tw_5_134 : Cond.fieldLink RX12 40 "RedTentModel" "food" "[I" ∈ ru_T := ru_in 5 134 (by decide +kernel)
set_option maxRecDepth 20000 in
theorem tw_5_135 : Cond.fieldLink RX12 43 "RedTentModel" "fuel" "[I" ∈ ru_T := ru_in 5 135 (by decide +kernel)
set_option maxRecDepth 20000 in
theorem tw_6_163 : Cond.constantLong RX12 236 (-4611686018427387904) ∈ ru_T := ru_in 6 163 (by decide +kernel)
set_option maxRecDepth 20000 in
theorem tw_5_143 : Cond.fieldLink RX12 246 "RedTentModel" "hearers" "I" ∈ ru_T := ru_in 5 143 (by decide +kernel)
set_option maxRecDepth 20000 in
theorem tw_5_142 : Cond.fieldLink RX12 59 "RedTentModel" "hearerCell" "[I" ∈ ru_T := ru_in 5 142 (by decide +kernel)
set_option maxRecDepth 20000 in
theorem tw_5_144 : Cond.fieldLink RX12 62 "RedTentModel" "waveFrom" "[I" ∈ ru_T := ru_in 5 144 (by decide +kernel)
set_option maxRecDepth 20000 in
theorem tw_5_145 : Cond.fieldLink RX12 65 "RedTentModel" "waveTo" "[I" ∈ ru_T := ru_in 5 145 (by decide +kernel)
set_option maxRecDepth 20000 in
theorem tw_5_146 : Cond.fieldLink RX12 68 "RedTentModel" "callBody" "[I" ∈ ru_T := ru_in 5 146 (by decide +kernel)
set_option maxRecDepth 20000 in
theorem tw_5_147 : Cond.fieldLink RX12 71 "RedTentModel" "callWave" "[I" ∈ ru_T := ru_in 5 147 (by decide +kernel)
set_option maxRecDepth 20000 in
theorem tw_5_148 : Cond.fieldLink RX12 74 "RedTentModel" "callHour" "[I" ∈ ru_T := ru_in 5 148 (by decide +kernel)
set_option maxRecDepth 20000 in
theorem tw_5_149 : Cond.fieldLink RX12 77 "RedTentModel" "callWords" "[J" ∈ ru_T := ru_in 5 149 (by decide +kernel)
set_option maxRecDepth 20000 in
theorem tw_6_218 : Cond.constant RX12 262 (65535) ∈ ru_T := ru_in 6 218 (by decide +kernel)
set_option maxRecDepth 20000 in
theorem tw_5_154 : Cond.fieldLink RX12 263 "RedTentModel" "parts" "I" ∈ ru_T := ru_in 5 154 (by decide +kernel)
set_option maxRecDepth 20000 in
theorem tw_5_151 : Cond.fieldLink RX12 80 "RedTentModel" "partCall" "[I" ∈ ru_T := ru_in 5 151 (by decide +kernel)
set_option maxRecDepth 20000 in
theorem tw_5_152 : Cond.fieldLink RX12 83 "RedTentModel" "partHeard" "[I" ∈ ru_T := ru_in 5 152 (by decide +kernel)
set_option maxRecDepth 20000 in
theorem tw_5_153 : Cond.fieldLink RX12 86 "RedTentModel" "partWords" "[J" ∈ ru_T := ru_in 5 153 (by decide +kernel)
set_option maxRecDepth 20000 in
theorem tw_5_156 : Cond.fieldLink RX12 272 "RedTentModel" "laneMany" "I" ∈ ru_T := ru_in 5 156 (by decide +kernel)
set_option maxRecDepth 20000 in
theorem tw_5_155 : Cond.fieldLink RX12 89 "RedTentModel" "lanes" "[J" ∈ ru_T := ru_in 5 155 (by decide +kernel)
set_option maxRecDepth 20000 in
theorem tw_5_159 : Cond.fieldLink RX12 98 "RedTentModel" "flownMany" "[I" ∈ ru_T := ru_in 5 159 (by decide +kernel)
set_option maxRecDepth 20000 in
theorem tw_5_157 : Cond.fieldLink RX12 92 "RedTentModel" "flownLane" "[I" ∈ ru_T := ru_in 5 157 (by decide +kernel)
set_option maxRecDepth 20000 in
theorem tw_5_158 : Cond.fieldLink RX12 95 "RedTentModel" "flownFog" "[I" ∈ ru_T := ru_in 5 158 (by decide +kernel)
set_option maxRecDepth 20000 in
theorem tw_5_178 : Cond.fieldLink RX12 281 "RedTentModel" "allWeigh" "J" ∈ ru_T := ru_in 5 178 (by decide +kernel)
set_option maxRecDepth 20000 in
theorem tw_5_177 : Cond.fieldLink RX12 134 "RedTentModel" "weight" "[J" ∈ ru_T := ru_in 5 177 (by decide +kernel)
set_option maxRecDepth 20000 in
theorem tw_7_15 : Cond.constantLong RX12 285 (16) ∈ ru_T := ru_in 7 15 (by decide +kernel)
set_option maxRecDepth 20000 in
theorem tw_5_181 : Cond.fieldLink RX12 295 "RedTentModel" "bestWeigh" "J" ∈ ru_T := ru_in 5 181 (by decide +kernel)
set_option maxRecDepth 20000 in
theorem tw_5_180 : Cond.fieldLink RX12 140 "RedTentModel" "best" "[I" ∈ ru_T := ru_in 5 180 (by decide +kernel)
set_option maxRecDepth 20000 in
theorem tw_5_179 : Cond.fieldLink RX12 137 "RedTentModel" "trying" "[I" ∈ ru_T := ru_in 5 179 (by decide +kernel)
set_option maxRecDepth 20000 in
theorem tw_7_30 : Cond.constantLong RX12 305 (1000) ∈ ru_T := ru_in 7 30 (by decide +kernel)
set_option maxRecDepth 20000 in
theorem tw_7_46 : Cond.methodLink RX12 310 yX12_canFly ∈ ru_T := ru_in 7 46 (by decide +kernel)
set_option maxRecDepth 20000 in
theorem tw_7_48 : Cond.instanceMethod yX12_canFly ∈ ru_T := ru_in 7 48 (by decide +kernel)
set_option maxRecDepth 20000 in
theorem tw_0_42 : Cond.selects RX12 yX12_canFly yX12_canFly ∈ ru_T := ru_in 0 42 (by decide +kernel)
set_option maxRecDepth 20000 in
theorem tw_7_49 : Cond.code yX12_canFly cX12_canFly 5 (some .boolean) ∈ ru_T := ru_inc 7 49 rfl rfl
theorem mT_X12_canFly : ∀ w ∈ wsX12_canFly, w ∈ ru_T := ru_gc tw_7_49
set_option maxRecDepth 20000 in
theorem tw_7_39 : Cond.methodLink RX12 313 yX12_isHour ∈ ru_T := ru_in 7 39 (by decide +kernel)
set_option maxRecDepth 20000 in
theorem tw_7_40 : Cond.static yX12_isHour ∈ ru_T := ru_in 7 40 (by decide +kernel)
set_option maxRecDepth 20000 in
theorem tw_7_41 : Cond.code yX12_isHour cX12_isHour 1 (some .boolean) ∈ ru_T := ru_inc 7 41 rfl rfl
theorem mT_X12_isHour : ∀ w ∈ wsX12_isHour, w ∈ ru_T := ru_gc tw_7_41
set_option maxRecDepth 20000 in
theorem tw_7_42 : Cond.methodLink RX12 316 yX12_comesBack ∈ ru_T := ru_in 7 42 (by decide +kernel)
set_option maxRecDepth 20000 in
theorem tw_7_44 : Cond.instanceMethod yX12_comesBack ∈ ru_T := ru_in 7 44 (by decide +kernel)
set_option maxRecDepth 20000 in
theorem tw_0_41 : Cond.selects RX12 yX12_comesBack yX12_comesBack ∈ ru_T := ru_in 0 41 (by decide +kernel)
set_option maxRecDepth 20000 in
theorem tw_7_45 : Cond.code yX12_comesBack cX12_comesBack 7 (some .int) ∈ ru_T := ru_inc 7 45 rfl rfl
theorem mT_X12_comesBack : ∀ w ∈ wsX12_comesBack, w ∈ ru_T := ru_gc tw_7_45
set_option maxRecDepth 20000 in
theorem tw_7_178 : Cond.methodLink RX12 443 yX12_isStory ∈ ru_T := ru_in 7 178 (by decide +kernel)
set_option maxRecDepth 20000 in
theorem tw_7_180 : Cond.instanceMethod yX12_isStory ∈ ru_T := ru_in 7 180 (by decide +kernel)
set_option maxRecDepth 20000 in
theorem tw_0_60 : Cond.selects RX12 yX12_isStory yX12_isStory ∈ ru_T := ru_in 0 60 (by decide +kernel)
set_option maxRecDepth 20000 in
theorem tw_7_181 : Cond.code yX12_isStory cX12_isStory 2 (some .boolean) ∈ ru_T := ru_inc 7 181 rfl rfl
theorem mT_X12_isStory : ∀ w ∈ wsX12_isStory, w ∈ ru_T := ru_gc tw_7_181
set_option maxRecDepth 20000 in
theorem tw_7_192 : Cond.methodLink RX12 453 yX12_goesIn ∈ ru_T := ru_in 7 192 (by decide +kernel)
set_option maxRecDepth 20000 in
theorem tw_7_194 : Cond.instanceMethod yX12_goesIn ∈ ru_T := ru_in 7 194 (by decide +kernel)
set_option maxRecDepth 20000 in
theorem tw_0_61 : Cond.selects RX12 yX12_goesIn yX12_goesIn ∈ ru_T := ru_in 0 61 (by decide +kernel)
set_option maxRecDepth 20000 in
theorem tw_7_195 : Cond.code yX12_goesIn cX12_goesIn 8 (some .int) ∈ ru_T := ru_inc 7 195 rfl rfl
theorem mT_X12_goesIn : ∀ w ∈ wsX12_goesIn, w ∈ ru_T := ru_gc tw_7_195
set_option maxRecDepth 20000 in
theorem tw_7_204 : Cond.methodLink RX12 457 yX12_isSheet ∈ ru_T := ru_in 7 204 (by decide +kernel)
set_option maxRecDepth 20000 in
theorem tw_7_205 : Cond.static yX12_isSheet ∈ ru_T := ru_in 7 205 (by decide +kernel)
set_option maxRecDepth 20000 in
theorem tw_7_206 : Cond.code yX12_isSheet cX12_isSheet 1 (some .boolean) ∈ ru_T := ru_inc 7 206 rfl rfl
theorem mT_X12_isSheet : ∀ w ∈ wsX12_isSheet, w ∈ ru_T := ru_gc tw_7_206
set_option maxRecDepth 20000 in
theorem tw_7_211 : Cond.methodLink RX12 460 yX12_isItem ∈ ru_T := ru_in 7 211 (by decide +kernel)
set_option maxRecDepth 20000 in
theorem tw_7_213 : Cond.instanceMethod yX12_isItem ∈ ru_T := ru_in 7 213 (by decide +kernel)
set_option maxRecDepth 20000 in
theorem tw_0_62 : Cond.selects RX12 yX12_isItem yX12_isItem ∈ ru_T := ru_in 0 62 (by decide +kernel)
set_option maxRecDepth 20000 in
theorem tw_7_214 : Cond.code yX12_isItem cX12_isItem 4 (some .boolean) ∈ ru_T := ru_inc 7 214 rfl rfl
theorem mT_X12_isItem : ∀ w ∈ wsX12_isItem, w ∈ ru_T := ru_gc tw_7_214
set_option maxRecDepth 20000 in
theorem tw_7_228 : Cond.methodLink RX12 466 yX12_above ∈ ru_T := ru_in 7 228 (by decide +kernel)
set_option maxRecDepth 20000 in
theorem tw_7_229 : Cond.static yX12_above ∈ ru_T := ru_in 7 229 (by decide +kernel)
set_option maxRecDepth 20000 in
theorem tw_7_230 : Cond.code yX12_above cX12_above 1 (some .int) ∈ ru_T := ru_inc 7 230 rfl rfl
theorem mT_X12_above : ∀ w ∈ wsX12_above, w ∈ ru_T := ru_gc tw_7_230
set_option maxRecDepth 20000 in
theorem tw_5_121 : Cond.fieldLink RX12 307 "RedTentModel" "stay" "I" ∈ ru_T := ru_in 5 121 (by decide +kernel)
set_option maxRecDepth 20000 in
theorem tw_5_164 : Cond.fieldLink RX12 320 "RedTentModel" "men" "I" ∈ ru_T := ru_in 5 164 (by decide +kernel)
set_option maxRecDepth 20000 in
theorem tw_5_160 : Cond.fieldLink RX12 101 "RedTentModel" "manBody" "[I" ∈ ru_T := ru_in 5 160 (by decide +kernel)
set_option maxRecDepth 20000 in
theorem tw_5_161 : Cond.fieldLink RX12 104 "RedTentModel" "strength" "[I" ∈ ru_T := ru_in 5 161 (by decide +kernel)
set_option maxRecDepth 20000 in
theorem tw_5_162 : Cond.fieldLink RX12 107 "RedTentModel" "hurt" "[I" ∈ ru_T := ru_in 5 162 (by decide +kernel)
set_option maxRecDepth 20000 in
theorem tw_5_163 : Cond.fieldLink RX12 110 "RedTentModel" "skill" "[I" ∈ ru_T := ru_in 5 163 (by decide +kernel)
set_option maxRecDepth 20000 in
theorem tw_5_172 : Cond.fieldLink RX12 323 "RedTentModel" "tapeMany" "I" ∈ ru_T := ru_in 5 172 (by decide +kernel)
set_option maxRecDepth 20000 in
theorem tw_5_171 : Cond.fieldLink RX12 125 "RedTentModel" "tape" "[I" ∈ ru_T := ru_in 5 171 (by decide +kernel)
set_option maxRecDepth 20000 in
theorem tw_7_62 : Cond.constantLong RX12 326 (255) ∈ ru_T := ru_in 7 62 (by decide +kernel)
set_option maxRecDepth 20000 in
theorem tw_5_175 : Cond.fieldLink RX12 182 "RedTentModel" "texts" "I" ∈ ru_T := ru_in 5 175 (by decide +kernel)
set_option maxRecDepth 20000 in
theorem tw_5_176 : Cond.fieldLink RX12 431 "RedTentModel" "order" "I" ∈ ru_T := ru_in 5 176 (by decide +kernel)
set_option maxRecDepth 20000 in
theorem tw_5_165 : Cond.fieldLink RX12 113 "RedTentModel" "storyBody" "[I" ∈ ru_T := ru_in 5 165 (by decide +kernel)
set_option maxRecDepth 20000 in
theorem tw_5_166 : Cond.fieldLink RX12 116 "RedTentModel" "storyCell" "[I" ∈ ru_T := ru_in 5 166 (by decide +kernel)
set_option maxRecDepth 20000 in
theorem tw_5_167 : Cond.fieldLink RX12 119 "RedTentModel" "storyHour" "[I" ∈ ru_T := ru_in 5 167 (by decide +kernel)
set_option maxRecDepth 20000 in
theorem tw_7_186 : Cond.constantLong RX12 446 (999999999999999) ∈ ru_T := ru_in 7 186 (by decide +kernel)
set_option maxRecDepth 20000 in
theorem tw_5_170 : Cond.fieldLink RX12 448 "RedTentModel" "rows" "I" ∈ ru_T := ru_in 5 170 (by decide +kernel)
set_option maxRecDepth 20000 in
theorem tw_7_187 : Cond.constantLong RX12 451 (10) ∈ ru_T := ru_in 7 187 (by decide +kernel)
set_option maxRecDepth 20000 in
theorem tw_5_194 : Cond.fieldLink RX12 155 "RedTentModel" "bestWays" "[I" ∈ ru_T := ru_in 5 194 (by decide +kernel)
set_option maxRecDepth 20000 in
theorem tw_5_195 : Cond.fieldLink RX12 158 "RedTentModel" "sort" "[I" ∈ ru_T := ru_in 5 195 (by decide +kernel)
set_option maxRecDepth 20000 in
theorem tw_5_197 : Cond.fieldLink RX12 164 "RedTentModel" "items" "[I" ∈ ru_T := ru_in 5 197 (by decide +kernel)
set_option maxRecDepth 20000 in
theorem tw_5_198 : Cond.fieldLink RX12 167 "RedTentModel" "carried" "[I" ∈ ru_T := ru_in 5 198 (by decide +kernel)
set_option maxRecDepth 20000 in
theorem tw_7_223 : Cond.constantLong RX12 464 (2) ∈ ru_T := ru_in 7 223 (by decide +kernel)
set_option maxRecDepth 20000 in
theorem tw_4_95 : Cond.methodLink RX5 121 yJ0_length_8abf5 ∈ ru_T := ru_in 4 95 (by decide +kernel)
set_option maxRecDepth 20000 in
theorem tw_4_96 : Cond.instanceMethod yJ0_length_8abf5 ∈ ru_T := ru_in 4 96 (by decide +kernel)
set_option maxRecDepth 20000 in
theorem tw_4_97 : Cond.selects RJ0 yJ0_length_8abf5 yJ0_length_8abf5 ∈ ru_T := ru_in 4 97 (by decide +kernel)
set_option maxRecDepth 20000 in
theorem tw_1_13 : Cond.initialized RJ0 ∈ ru_T := ru_in 1 13 (by decide +kernel)
set_option maxRecDepth 20000 in
theorem mT_J0_length_8abf5 : ∀ w ∈ wsJ0_length_8abf5, w ∈ ru_T := ru_inq _ [(4, 98), (7, 232), (4, 99), (4, 100), (4, 101), (1, 13), (4, 102), (4, 103), (7, 233)] (by decide +kernel) (by decide +kernel)
set_option maxRecDepth 20000 in
theorem tw_4_105 : Cond.methodLink RX5 127 yJ0_charAt_5068e ∈ ru_T := ru_in 4 105 (by decide +kernel)
set_option maxRecDepth 20000 in
theorem tw_4_106 : Cond.instanceMethod yJ0_charAt_5068e ∈ ru_T := ru_in 4 106 (by decide +kernel)
set_option maxRecDepth 20000 in
theorem tw_4_107 : Cond.selects RJ0 yJ0_charAt_5068e yJ0_charAt_5068e ∈ ru_T := ru_in 4 107 (by decide +kernel)
set_option maxRecDepth 20000 in
theorem mT_J0_charAt_5068e : ∀ w ∈ wsJ0_charAt_5068e, w ∈ ru_T := ru_inq _ [(4, 108), (7, 232), (4, 109), (4, 110), (4, 111), (1, 13), (4, 112), (4, 103), (7, 233), (4, 113), (4, 114), (1, 14), (4, 115), (4, 116), (4, 117), (4, 118), (4, 119), (4, 121), (4, 122), (1, 15), (4, 123), (4, 124), (4, 125), (1, 16), (4, 126), (4, 127), (4, 128), (4, 129), (4, 130), (4, 131), (4, 132), (4, 133), (4, 134), (4, 135), (4, 136), (4, 137), (4, 139), (4, 141)] (by decide +kernel) (by decide +kernel)
set_option maxRecDepth 20000 in
theorem tw_4_77 : Cond.methodLink RX5 113 yX5_nthWord ∈ ru_T := ru_in 4 77 (by decide +kernel)
set_option maxRecDepth 20000 in
theorem tw_4_78 : Cond.static yX5_nthWord ∈ ru_T := ru_in 4 78 (by decide +kernel)
set_option maxRecDepth 20000 in
theorem tw_1_7 : Cond.initialized RX5 ∈ ru_T := ru_in 1 7 (by decide +kernel)
set_option maxRecDepth 20000 in
theorem tw_4_79 : Cond.code yX5_nthWord cX5_nthWord 1 (some (.object "java/lang/String")) ∈ ru_T := ru_inc 4 79 rfl rfl
theorem mT_X5_nthWord : ∀ w ∈ wsX5_nthWord, w ∈ ru_T := ru_gc tw_4_79
set_option maxRecDepth 20000 in
theorem tw_4_91 : Cond.methodLink RX5 117 yX5_isSpelt ∈ ru_T := ru_in 4 91 (by decide +kernel)
set_option maxRecDepth 20000 in
theorem tw_4_93 : Cond.instanceMethod yX5_isSpelt ∈ ru_T := ru_in 4 93 (by decide +kernel)
set_option maxRecDepth 20000 in
theorem tw_0_12 : Cond.selects RX5 yX5_isSpelt yX5_isSpelt ∈ ru_T := ru_in 0 12 (by decide +kernel)
set_option maxRecDepth 20000 in
theorem tw_4_94 : Cond.code yX5_isSpelt cX5_isSpelt 5 (some .boolean) ∈ ru_T := ru_inc 4 94 rfl rfl
theorem mT_X5_isSpelt : ∀ w ∈ wsX5_isSpelt, w ∈ ru_T := ru_gc tw_4_94
set_option maxRecDepth 20000 in
theorem tw_4_146 : Cond.methodLink RX5 110 yX5_isSign ∈ ru_T := ru_in 4 146 (by decide +kernel)
set_option maxRecDepth 20000 in
theorem tw_4_147 : Cond.static yX5_isSign ∈ ru_T := ru_in 4 147 (by decide +kernel)
set_option maxRecDepth 20000 in
theorem tw_4_148 : Cond.code yX5_isSign cX5_isSign 1 (some .boolean) ∈ ru_T := ru_inc 4 148 rfl rfl
theorem mT_X5_isSign : ∀ w ∈ wsX5_isSign, w ∈ ru_T := ru_gc tw_4_148
set_option maxRecDepth 20000 in
theorem tw_4_143 : Cond.methodLink RX5 107 yX5_isDigit ∈ ru_T := ru_in 4 143 (by decide +kernel)
set_option maxRecDepth 20000 in
theorem tw_4_144 : Cond.static yX5_isDigit ∈ ru_T := ru_in 4 144 (by decide +kernel)
set_option maxRecDepth 20000 in
theorem tw_4_145 : Cond.code yX5_isDigit cX5_isDigit 1 (some .boolean) ∈ ru_T := ru_inc 4 145 rfl rfl
theorem mT_X5_isDigit : ∀ w ∈ wsX5_isDigit, w ∈ ru_T := ru_gc tw_4_145
set_option maxRecDepth 20000 in
theorem tw_4_73 : Cond.methodLink RX5 104 yX5_wordOf ∈ ru_T := ru_in 4 73 (by decide +kernel)
set_option maxRecDepth 20000 in
theorem tw_4_75 : Cond.instanceMethod yX5_wordOf ∈ ru_T := ru_in 4 75 (by decide +kernel)
set_option maxRecDepth 20000 in
theorem tw_0_11 : Cond.selects RX5 yX5_wordOf yX5_wordOf ∈ ru_T := ru_in 0 11 (by decide +kernel)
set_option maxRecDepth 20000 in
theorem tw_4_76 : Cond.code yX5_wordOf cX5_wordOf 4 (some .int) ∈ ru_T := ru_inc 4 76 rfl rfl
theorem mT_X5_wordOf : ∀ w ∈ wsX5_wordOf, w ∈ ru_T := ru_gc tw_4_76
set_option maxRecDepth 20000 in
theorem tw_4_70 : Cond.methodLink RX5 101 yX5_isLetter ∈ ru_T := ru_in 4 70 (by decide +kernel)
set_option maxRecDepth 20000 in
theorem tw_4_71 : Cond.static yX5_isLetter ∈ ru_T := ru_in 4 71 (by decide +kernel)
set_option maxRecDepth 20000 in
theorem tw_4_72 : Cond.code yX5_isLetter cX5_isLetter 1 (some .boolean) ∈ ru_T := ru_inc 4 72 rfl rfl
theorem mT_X5_isLetter : ∀ w ∈ wsX5_isLetter, w ∈ ru_T := ru_gc tw_4_72
set_option maxRecDepth 20000 in
theorem tw_4_63 : Cond.methodLink RX5 95 yX5_isBlank ∈ ru_T := ru_in 4 63 (by decide +kernel)
set_option maxRecDepth 20000 in
theorem tw_4_64 : Cond.static yX5_isBlank ∈ ru_T := ru_in 4 64 (by decide +kernel)
set_option maxRecDepth 20000 in
theorem tw_4_65 : Cond.code yX5_isBlank cX5_isBlank 1 (some .boolean) ∈ ru_T := ru_inc 4 65 rfl rfl
theorem mT_X5_isBlank : ∀ w ∈ wsX5_isBlank, w ∈ ru_T := ru_gc tw_4_65
set_option maxRecDepth 20000 in
theorem tw_4_66 : Cond.methodLink RX5 98 yX5_cutOne ∈ ru_T := ru_in 4 66 (by decide +kernel)
set_option maxRecDepth 20000 in
theorem tw_4_68 : Cond.instanceMethod yX5_cutOne ∈ ru_T := ru_in 4 68 (by decide +kernel)
set_option maxRecDepth 20000 in
theorem tw_0_10 : Cond.selects RX5 yX5_cutOne yX5_cutOne ∈ ru_T := ru_in 0 10 (by decide +kernel)
set_option maxRecDepth 20000 in
theorem tw_4_69 : Cond.code yX5_cutOne cX5_cutOne 5 (some .int) ∈ ru_T := ru_inc 4 69 rfl rfl
theorem mT_X5_cutOne : ∀ w ∈ wsX5_cutOne, w ∈ ru_T := ru_gc tw_4_69
set_option maxRecDepth 20000 in
theorem tw_4_154 : Cond.methodLink RX5 64 yX5_sees ∈ ru_T := ru_in 4 154 (by decide +kernel)
set_option maxRecDepth 20000 in
theorem tw_4_156 : Cond.instanceMethod yX5_sees ∈ ru_T := ru_in 4 156 (by decide +kernel)
set_option maxRecDepth 20000 in
theorem tw_0_14 : Cond.selects RX5 yX5_sees yX5_sees ∈ ru_T := ru_in 0 14 (by decide +kernel)
set_option maxRecDepth 20000 in
theorem tw_4_157 : Cond.code yX5_sees cX5_sees 2 (some .boolean) ∈ ru_T := ru_inc 4 157 rfl rfl
theorem mT_X5_sees : ∀ w ∈ wsX5_sees, w ∈ ru_T := ru_gc tw_4_157
set_option maxRecDepth 20000 in
theorem tw_4_158 : Cond.methodLink RX5 68 yX5_advance ∈ ru_T := ru_in 4 158 (by decide +kernel)
set_option maxRecDepth 20000 in
theorem tw_4_160 : Cond.instanceMethod yX5_advance ∈ ru_T := ru_in 4 160 (by decide +kernel)
set_option maxRecDepth 20000 in
theorem tw_0_15 : Cond.selects RX5 yX5_advance yX5_advance ∈ ru_T := ru_in 0 15 (by decide +kernel)
set_option maxRecDepth 20000 in
theorem tw_4_161 : Cond.code yX5_advance cX5_advance 1 none ∈ ru_T := ru_inc 4 161 rfl rfl
theorem mT_X5_advance : ∀ w ∈ wsX5_advance, w ∈ ru_T := ru_gc tw_4_161
set_option maxRecDepth 20000 in
theorem tw_4_162 : Cond.methodLink RX5 71 yX5_fail ∈ ru_T := ru_in 4 162 (by decide +kernel)
set_option maxRecDepth 20000 in
theorem tw_4_164 : Cond.instanceMethod yX5_fail ∈ ru_T := ru_in 4 164 (by decide +kernel)
set_option maxRecDepth 20000 in
theorem tw_0_16 : Cond.selects RX5 yX5_fail yX5_fail ∈ ru_T := ru_in 0 16 (by decide +kernel)
set_option maxRecDepth 20000 in
theorem tw_4_165 : Cond.code yX5_fail cX5_fail 1 none ∈ ru_T := ru_inc 4 165 rfl rfl
theorem mT_X5_fail : ∀ w ∈ wsX5_fail, w ∈ ru_T := ru_gc tw_4_165
set_option maxRecDepth 20000 in
theorem tw_4_178 : Cond.methodLink RX5 77 yX9_addStep ∈ ru_T := ru_in 4 178 (by decide +kernel)
set_option maxRecDepth 20000 in
theorem tw_1_236 : Cond.instanceMethod yX9_addStep ∈ ru_T := ru_in 1 236 (by decide +kernel)
set_option maxRecDepth 20000 in
theorem tw_1_237 : Cond.selects RX9 yX9_addStep yX9_addStep ∈ ru_T := ru_in 1 237 (by decide +kernel)
set_option maxRecDepth 20000 in
theorem tw_1_238 : Cond.code yX9_addStep cX9_addStep 2 none ∈ ru_T := ru_inc 1 238 rfl rfl
theorem mT_X9_addStep : ∀ w ∈ wsX9_addStep, w ∈ ru_T := ru_gc tw_1_238
set_option maxRecDepth 20000 in
theorem tw_4_191 : Cond.methodLink RX5 92 yX5_readOne ∈ ru_T := ru_in 4 191 (by decide +kernel)
set_option maxRecDepth 20000 in
theorem tw_4_193 : Cond.instanceMethod yX5_readOne ∈ ru_T := ru_in 4 193 (by decide +kernel)
set_option maxRecDepth 20000 in
theorem tw_0_23 : Cond.selects RX5 yX5_readOne yX5_readOne ∈ ru_T := ru_in 0 23 (by decide +kernel)
set_option maxRecDepth 20000 in
theorem tw_4_194 : Cond.code yX5_readOne cX5_readOne 2 none ∈ ru_T := ru_inc 4 194 rfl rfl
theorem mT_X5_readOne : ∀ w ∈ wsX5_readOne, w ∈ ru_T := ru_gc tw_4_194
set_option maxRecDepth 20000 in
theorem tw_4_187 : Cond.methodLink RX5 89 yX5_readTerm ∈ ru_T := ru_in 4 187 (by decide +kernel)
set_option maxRecDepth 20000 in
theorem tw_4_189 : Cond.instanceMethod yX5_readTerm ∈ ru_T := ru_in 4 189 (by decide +kernel)
set_option maxRecDepth 20000 in
theorem tw_0_22 : Cond.selects RX5 yX5_readTerm yX5_readTerm ∈ ru_T := ru_in 0 22 (by decide +kernel)
set_option maxRecDepth 20000 in
theorem tw_4_190 : Cond.code yX5_readTerm cX5_readTerm 3 none ∈ ru_T := ru_inc 4 190 rfl rfl
theorem mT_X5_readTerm : ∀ w ∈ wsX5_readTerm, w ∈ ru_T := ru_gc tw_4_190
set_option maxRecDepth 20000 in
theorem tw_4_183 : Cond.methodLink RX5 86 yX5_readSum ∈ ru_T := ru_in 4 183 (by decide +kernel)
set_option maxRecDepth 20000 in
theorem tw_4_185 : Cond.instanceMethod yX5_readSum ∈ ru_T := ru_in 4 185 (by decide +kernel)
set_option maxRecDepth 20000 in
theorem tw_0_21 : Cond.selects RX5 yX5_readSum yX5_readSum ∈ ru_T := ru_in 0 21 (by decide +kernel)
set_option maxRecDepth 20000 in
theorem tw_4_186 : Cond.code yX5_readSum cX5_readSum 4 none ∈ ru_T := ru_inc 4 186 rfl rfl
theorem mT_X5_readSum : ∀ w ∈ wsX5_readSum, w ∈ ru_T := ru_gc tw_4_186
set_option maxRecDepth 20000 in
theorem tw_4_179 : Cond.methodLink RX5 83 yX5_readCompared ∈ ru_T := ru_in 4 179 (by decide +kernel)
set_option maxRecDepth 20000 in
theorem tw_4_181 : Cond.instanceMethod yX5_readCompared ∈ ru_T := ru_in 4 181 (by decide +kernel)
set_option maxRecDepth 20000 in
theorem tw_0_20 : Cond.selects RX5 yX5_readCompared yX5_readCompared ∈ ru_T := ru_in 0 20 (by decide +kernel)
set_option maxRecDepth 20000 in
theorem tw_4_182 : Cond.code yX5_readCompared cX5_readCompared 3 none ∈ ru_T := ru_inc 4 182 rfl rfl
theorem mT_X5_readCompared : ∀ w ∈ wsX5_readCompared, w ∈ ru_T := ru_gc tw_4_182
set_option maxRecDepth 20000 in
theorem tw_4_174 : Cond.methodLink RX5 80 yX5_readNot ∈ ru_T := ru_in 4 174 (by decide +kernel)
set_option maxRecDepth 20000 in
theorem tw_4_176 : Cond.instanceMethod yX5_readNot ∈ ru_T := ru_in 4 176 (by decide +kernel)
set_option maxRecDepth 20000 in
theorem tw_0_19 : Cond.selects RX5 yX5_readNot yX5_readNot ∈ ru_T := ru_in 0 19 (by decide +kernel)
set_option maxRecDepth 20000 in
theorem tw_4_177 : Cond.code yX5_readNot cX5_readNot 2 none ∈ ru_T := ru_inc 4 177 rfl rfl
theorem mT_X5_readNot : ∀ w ∈ wsX5_readNot, w ∈ ru_T := ru_gc tw_4_177
set_option maxRecDepth 20000 in
theorem tw_4_170 : Cond.methodLink RX5 74 yX5_readBoth ∈ ru_T := ru_in 4 170 (by decide +kernel)
set_option maxRecDepth 20000 in
theorem tw_4_172 : Cond.instanceMethod yX5_readBoth ∈ ru_T := ru_in 4 172 (by decide +kernel)
set_option maxRecDepth 20000 in
theorem tw_0_18 : Cond.selects RX5 yX5_readBoth yX5_readBoth ∈ ru_T := ru_in 0 18 (by decide +kernel)
set_option maxRecDepth 20000 in
theorem tw_4_173 : Cond.code yX5_readBoth cX5_readBoth 3 none ∈ ru_T := ru_inc 4 173 rfl rfl
theorem mT_X5_readBoth : ∀ w ∈ wsX5_readBoth, w ∈ ru_T := ru_gc tw_4_173
set_option maxRecDepth 20000 in
theorem tw_4_166 : Cond.methodLink RX5 57 yX5_readChoice ∈ ru_T := ru_in 4 166 (by decide +kernel)
set_option maxRecDepth 20000 in
theorem tw_4_168 : Cond.instanceMethod yX5_readChoice ∈ ru_T := ru_in 4 168 (by decide +kernel)
set_option maxRecDepth 20000 in
theorem tw_0_17 : Cond.selects RX5 yX5_readChoice yX5_readChoice ∈ ru_T := ru_in 0 17 (by decide +kernel)
set_option maxRecDepth 20000 in
theorem tw_4_169 : Cond.code yX5_readChoice cX5_readChoice 3 none ∈ ru_T := ru_inc 4 169 rfl rfl
theorem mT_X5_readChoice : ∀ w ∈ wsX5_readChoice, w ∈ ru_T := ru_gc tw_4_169
set_option maxRecDepth 20000 in
theorem tw_4_150 : Cond.methodLink RX5 53 yX5_need ∈ ru_T := ru_in 4 150 (by decide +kernel)
set_option maxRecDepth 20000 in
theorem tw_4_152 : Cond.instanceMethod yX5_need ∈ ru_T := ru_in 4 152 (by decide +kernel)
set_option maxRecDepth 20000 in
theorem tw_0_13 : Cond.selects RX5 yX5_need yX5_need ∈ ru_T := ru_in 0 13 (by decide +kernel)
set_option maxRecDepth 20000 in
theorem tw_4_153 : Cond.code yX5_need cX5_need 2 none ∈ ru_T := ru_inc 4 153 rfl rfl
theorem mT_X5_need : ∀ w ∈ wsX5_need, w ∈ ru_T := ru_gc tw_4_153
set_option maxRecDepth 20000 in
theorem iT_X5 : ∀ w ∈ wsX50, w ∈ ru_T := ru_inq _ [(1, 207), (1, 209), (1, 211), (1, 213), (1, 215), (1, 217), (1, 219), (1, 221)] (by decide +kernel) (by decide +kernel)
set_option maxRecDepth 20000 in
theorem tw_1_198 : Cond.fieldLink RX5 11 "RedTent$Reader" "bytes" "[I" ∈ ru_T := ru_in 1 198 (by decide +kernel)
set_option maxRecDepth 20000 in
theorem tw_1_199 : Cond.fieldLink RX5 37 "RedTent$Reader" "size" "I" ∈ ru_T := ru_in 1 199 (by decide +kernel)
set_option maxRecDepth 20000 in
theorem tw_1_200 : Cond.fieldLink RX5 15 "RedTent$Reader" "tokens" "[I" ∈ ru_T := ru_in 1 200 (by decide +kernel)
set_option maxRecDepth 20000 in
theorem tw_1_202 : Cond.fieldLink RX5 21 "RedTent$Reader" "numbers" "[I" ∈ ru_T := ru_in 1 202 (by decide +kernel)
set_option maxRecDepth 20000 in
theorem tw_1_201 : Cond.fieldLink RX5 18 "RedTent$Reader" "starts" "[I" ∈ ru_T := ru_in 1 201 (by decide +kernel)
set_option maxRecDepth 20000 in
theorem tw_1_206 : Cond.fieldLink RX5 50 "RedTent$Reader" "fault" "I" ∈ ru_T := ru_in 1 206 (by decide +kernel)
set_option maxRecDepth 20000 in
theorem tw_1_205 : Cond.fieldLink RX5 47 "RedTent$Reader" "at" "I" ∈ ru_T := ru_in 1 205 (by decide +kernel)
set_option maxRecDepth 20000 in
theorem tw_1_203 : Cond.fieldLink RX5 27 "RedTent$Reader" "made" "LRedTent$Text;" ∈ ru_T := ru_in 1 203 (by decide +kernel)
set_option maxRecDepth 20000 in
theorem tw_4_59 : Cond.methodLink RX5 41 yX5_cutTokens ∈ ru_T := ru_in 4 59 (by decide +kernel)
set_option maxRecDepth 20000 in
theorem tw_4_61 : Cond.instanceMethod yX5_cutTokens ∈ ru_T := ru_in 4 61 (by decide +kernel)
set_option maxRecDepth 20000 in
theorem tw_0_9 : Cond.selects RX5 yX5_cutTokens yX5_cutTokens ∈ ru_T := ru_in 0 9 (by decide +kernel)
set_option maxRecDepth 20000 in
theorem tw_4_62 : Cond.code yX5_cutTokens cX5_cutTokens 3 none ∈ ru_T := ru_inc 4 62 rfl rfl
theorem mT_X5_cutTokens : ∀ w ∈ wsX5_cutTokens, w ∈ ru_T := ru_gc tw_4_62
set_option maxRecDepth 20000 in
theorem tw_4_149 : Cond.methodLink RX5 44 yX9_clear ∈ ru_T := ru_in 4 149 (by decide +kernel)
set_option maxRecDepth 20000 in
theorem tw_1_230 : Cond.instanceMethod yX9_clear ∈ ru_T := ru_in 1 230 (by decide +kernel)
set_option maxRecDepth 20000 in
theorem tw_1_231 : Cond.selects RX9 yX9_clear yX9_clear ∈ ru_T := ru_in 1 231 (by decide +kernel)
set_option maxRecDepth 20000 in
theorem tw_1_232 : Cond.code yX9_clear cX9_clear 1 none ∈ ru_T := ru_inc 1 232 rfl rfl
theorem mT_X9_clear : ∀ w ∈ wsX9_clear, w ∈ ru_T := ru_gc tw_1_232
set_option maxRecDepth 20000 in
theorem tw_4_54 : Cond.methodLink RX3 47 yX5_readAll ∈ ru_T := ru_in 4 54 (by decide +kernel)
set_option maxRecDepth 20000 in
theorem tw_4_55 : Cond.instanceMethod yX5_readAll ∈ ru_T := ru_in 4 55 (by decide +kernel)
set_option maxRecDepth 20000 in
theorem tw_4_56 : Cond.selects RX5 yX5_readAll yX5_readAll ∈ ru_T := ru_in 4 56 (by decide +kernel)
set_option maxRecDepth 20000 in
theorem tw_4_57 : Cond.code yX5_readAll cX5_readAll 3 (some .int) ∈ ru_T := ru_inc 4 57 rfl rfl
theorem mT_X5_readAll : ∀ w ∈ wsX5_readAll, w ∈ ru_T := ru_gc tw_4_57
set_option maxRecDepth 20000 in
theorem tw_4_195 : Cond.methodLink RX3 55 yX9_become ∈ ru_T := ru_in 4 195 (by decide +kernel)
set_option maxRecDepth 20000 in
theorem tw_4_196 : Cond.instanceMethod yX9_become ∈ ru_T := ru_in 4 196 (by decide +kernel)
set_option maxRecDepth 20000 in
theorem tw_4_197 : Cond.selects RX9 yX9_become yX9_become ∈ ru_T := ru_in 4 197 (by decide +kernel)
set_option maxRecDepth 20000 in
theorem tw_4_198 : Cond.code yX9_become cX9_become 2 none ∈ ru_T := ru_inc 4 198 rfl rfl
theorem mT_X9_become : ∀ w ∈ wsX9_become, w ∈ ru_T := ru_gc tw_4_198
set_option maxRecDepth 20000 in
theorem tw_4_50 : Cond.methodLink RX11 277 yX3_readTape ∈ ru_T := ru_in 4 50 (by decide +kernel)
set_option maxRecDepth 20000 in
theorem tw_4_51 : Cond.instanceMethod yX3_readTape ∈ ru_T := ru_in 4 51 (by decide +kernel)
set_option maxRecDepth 20000 in
theorem tw_4_52 : Cond.selects RX3 yX3_readTape yX3_readTape ∈ ru_T := ru_in 4 52 (by decide +kernel)
set_option maxRecDepth 20000 in
theorem tw_4_53 : Cond.code yX3_readTape cX3_readTape 2 (some .int) ∈ ru_T := ru_inc 4 53 rfl rfl
theorem mT_X3_readTape : ∀ w ∈ wsX3_readTape, w ∈ ru_T := ru_gc tw_4_53
set_option maxRecDepth 20000 in
theorem tw_4_58 : Cond.methodLink RX5 31 Lib.Math.min.name ∈ ru_T := ru_in 4 58 (by decide +kernel)
set_option maxRecDepth 20000 in
theorem tw_1_188 : Cond.fieldLink RX5 60 "RedTent$Text" "size" "I" ∈ ru_T := ru_in 1 188 (by decide +kernel)
set_option maxRecDepth 20000 in
theorem tw_1_190 : Cond.fieldLink RX5 61 "RedTent$Text" "goFrom" "I" ∈ ru_T := ru_in 1 190 (by decide +kernel)
set_option maxRecDepth 20000 in
theorem tw_2_5 : Cond.fieldLink RX3 38 "RedTent$Orders" "textCount" "I" ∈ ru_T := ru_in 2 5 (by decide +kernel)
set_option maxRecDepth 20000 in
theorem tw_2_9 : Cond.fieldLink RX3 24 "RedTent$Orders" "reader" "LRedTent$Reader;" ∈ ru_T := ru_in 2 9 (by decide +kernel)
set_option maxRecDepth 20000 in
theorem tw_1_204 : Cond.fieldLink RX3 51 "RedTent$Reader" "made" "LRedTent$Text;" ∈ ru_T := ru_in 1 204 (by decide +kernel)
set_option maxRecDepth 20000 in
theorem tw_1_34 : Cond.methodLink RX10 3 objectInit ∈ ru_T := ru_in 1 34 (by decide +kernel)
set_option maxRecDepth 20000 in
theorem tw_1_27 : Cond.instanceMethod objectInit ∈ ru_T := ru_in 1 27 (by decide +kernel)
set_option maxRecDepth 20000 in
theorem tw_1_28 : Cond.code objectInit ⟨#[0xb1]⟩ 1 none ∈ ru_T := ru_in 1 28 (by decide +kernel)
set_option maxRecDepth 20000 in
theorem tw_1_50 : Cond.arrayClass .int ∈ ru_T := ru_in 1 50 (by decide +kernel)
set_option maxRecDepth 20000 in
theorem tw_1_58 : Cond.methodLink RX4 3 objectInit ∈ ru_T := ru_in 1 58 (by decide +kernel)
set_option maxRecDepth 20000 in
theorem tw_1_104 : Cond.arrayClass .long ∈ ru_T := ru_in 1 104 (by decide +kernel)
set_option maxRecDepth 20000 in
theorem tw_1_110 : Cond.methodLink RX6 3 objectInit ∈ ru_T := ru_in 1 110 (by decide +kernel)
set_option maxRecDepth 20000 in
theorem tw_1_140 : Cond.methodLink RX2 3 objectInit ∈ ru_T := ru_in 1 140 (by decide +kernel)
set_option maxRecDepth 20000 in
theorem tw_2_34 : Cond.methodLink RX8 3 objectInit ∈ ru_T := ru_in 2 34 (by decide +kernel)
set_option maxRecDepth 20000 in
theorem tw_2_82 : Cond.methodLink RX7 3 objectInit ∈ ru_T := ru_in 2 82 (by decide +kernel)
set_option maxRecDepth 20000 in
theorem tw_1_185 : Cond.methodLink RX9 3 objectInit ∈ ru_T := ru_in 1 185 (by decide +kernel)
set_option maxRecDepth 20000 in
theorem tw_2_202 : Cond.methodLink RX0 3 objectInit ∈ ru_T := ru_in 2 202 (by decide +kernel)
set_option maxRecDepth 20000 in
theorem tw_2_211 : Cond.fieldLink RX0 47 "RedTent$Body" "fuel" "I" ∈ ru_T := ru_in 2 211 (by decide +kernel)
set_option maxRecDepth 20000 in
theorem tw_1_229 : Cond.methodLink RX9 22 yX9_clear ∈ ru_T := ru_in 1 229 (by decide +kernel)
set_option maxRecDepth 20000 in
theorem tw_1_235 : Cond.methodLink RX9 28 yX9_addStep ∈ ru_T := ru_in 1 235 (by decide +kernel)
set_option maxRecDepth 20000 in
theorem tw_1_184 : Cond.code yX9_init cX9_init 1 none ∈ ru_T := ru_inc 1 184 rfl rfl
theorem mT_X9_init : ∀ w ∈ wsX9_init, w ∈ ru_T := ru_gc tw_1_184
set_option maxRecDepth 20000 in
theorem tw_1_178 : Cond.code yX5_init cX5_init 1 none ∈ ru_T := ru_inc 1 178 rfl rfl
theorem mT_X5_init : ∀ w ∈ wsX5_init, w ∈ ru_T := ru_gc tw_1_178
set_option maxRecDepth 20000 in
theorem tw_1_225 : Cond.methodLink RX3 35 yX9_beFirst ∈ ru_T := ru_in 1 225 (by decide +kernel)
set_option maxRecDepth 20000 in
theorem tw_1_226 : Cond.instanceMethod yX9_beFirst ∈ ru_T := ru_in 1 226 (by decide +kernel)
set_option maxRecDepth 20000 in
theorem tw_1_227 : Cond.selects RX9 yX9_beFirst yX9_beFirst ∈ ru_T := ru_in 1 227 (by decide +kernel)
set_option maxRecDepth 20000 in
theorem tw_1_228 : Cond.code yX9_beFirst cX9_beFirst 2 none ∈ ru_T := ru_inc 1 228 rfl rfl
theorem mT_X9_beFirst : ∀ w ∈ wsX9_beFirst, w ∈ ru_T := ru_gc tw_1_228
set_option maxRecDepth 20000 in
theorem tw_1_33 : Cond.code yX10_init cX10_init 2 none ∈ ru_T := ru_inc 1 33 rfl rfl
theorem mT_X10_init : ∀ w ∈ wsX10_init, w ∈ ru_T := ru_gc tw_1_33
set_option maxRecDepth 20000 in
theorem tw_1_57 : Cond.code yX4_init cX4_init 1 none ∈ ru_T := ru_inc 1 57 rfl rfl
theorem mT_X4_init : ∀ w ∈ wsX4_init, w ∈ ru_T := ru_gc tw_1_57
set_option maxRecDepth 20000 in
theorem tw_1_109 : Cond.code yX6_init cX6_init 1 none ∈ ru_T := ru_inc 1 109 rfl rfl
theorem mT_X6_init : ∀ w ∈ wsX6_init, w ∈ ru_T := ru_gc tw_1_109
set_option maxRecDepth 20000 in
theorem tw_1_139 : Cond.code yX2_init cX2_init 1 none ∈ ru_T := ru_inc 1 139 rfl rfl
theorem mT_X2_init : ∀ w ∈ wsX2_init, w ∈ ru_T := ru_gc tw_1_139
set_option maxRecDepth 20000 in
theorem tw_1_170 : Cond.code yX3_init cX3_init 2 none ∈ ru_T := ru_inc 1 170 rfl rfl
theorem mT_X3_init : ∀ w ∈ wsX3_init, w ∈ ru_T := ru_gc tw_1_170
set_option maxRecDepth 20000 in
theorem tw_2_33 : Cond.code yX8_init cX8_init 1 none ∈ ru_T := ru_inc 2 33 rfl rfl
theorem mT_X8_init : ∀ w ∈ wsX8_init, w ∈ ru_T := ru_gc tw_2_33
set_option maxRecDepth 20000 in
theorem tw_2_56 : Cond.code yX1_init cX1_init 1 none ∈ ru_T := ru_inc 2 56 rfl rfl
theorem mT_X1_init : ∀ w ∈ wsX1_init, w ∈ ru_T := ru_gc tw_2_56
set_option maxRecDepth 20000 in
theorem tw_2_81 : Cond.code yX7_init cX7_init 1 none ∈ ru_T := ru_inc 2 81 rfl rfl
theorem mT_X7_init : ∀ w ∈ wsX7_init, w ∈ ru_T := ru_gc tw_2_81
set_option maxRecDepth 20000 in
theorem tw_1_233 : Cond.fieldLink RX9 25 "RedTent$Text" "FIRST_TAKE" "[I" ∈ ru_T := ru_in 1 233 (by decide +kernel)
set_option maxRecDepth 20000 in
theorem tw_1_239 : Cond.fieldLink RX9 32 "RedTent$Text" "FIRST_GO" "[I" ∈ ru_T := ru_in 1 239 (by decide +kernel)
set_option maxRecDepth 20000 in
theorem tw_1_179 : Cond.methodLink RX5 5 objectInit ∈ ru_T := ru_in 1 179 (by decide +kernel)
set_option maxRecDepth 20000 in
theorem tw_1_180 : Cond.classLink RX5 24 RX9 ∈ ru_T := ru_in 1 180 (by decide +kernel)
set_option maxRecDepth 20000 in
theorem tw_1_181 : Cond.instantiable RX9 3 ∈ ru_T := ru_in 1 181 (by decide +kernel)
set_option maxRecDepth 20000 in
theorem tw_1_183 : Cond.instanceMethod yX9_init ∈ ru_T := ru_in 1 183 (by decide +kernel)
set_option maxRecDepth 20000 in
theorem tw_1_171 : Cond.methodLink RX3 3 objectInit ∈ ru_T := ru_in 1 171 (by decide +kernel)
set_option maxRecDepth 20000 in
theorem tw_1_172 : Cond.classLink RX3 15 RX9 ∈ ru_T := ru_in 1 172 (by decide +kernel)
set_option maxRecDepth 20000 in
theorem tw_1_174 : Cond.classLink RX3 21 RX5 ∈ ru_T := ru_in 1 174 (by decide +kernel)
set_option maxRecDepth 20000 in
theorem tw_1_175 : Cond.instantiable RX5 8 ∈ ru_T := ru_in 1 175 (by decide +kernel)
set_option maxRecDepth 20000 in
theorem tw_1_177 : Cond.instanceMethod yX5_init ∈ ru_T := ru_in 1 177 (by decide +kernel)
set_option maxRecDepth 20000 in
theorem tw_2_57 : Cond.methodLink RX1 3 objectInit ∈ ru_T := ru_in 2 57 (by decide +kernel)
set_option maxRecDepth 20000 in
theorem tw_2_58 : Cond.classLink RX1 9 "[[I" ∈ ru_T := ru_in 2 58 (by decide +kernel)
set_option maxRecDepth 20000 in
theorem tw_1_26 : Cond.methodLink RX11 1 objectInit ∈ ru_T := ru_in 1 26 (by decide +kernel)
set_option maxRecDepth 20000 in
theorem tw_1_29 : Cond.classLink RX11 7 RX10 ∈ ru_T := ru_in 1 29 (by decide +kernel)
set_option maxRecDepth 20000 in
theorem tw_1_30 : Cond.instantiable RX10 4 ∈ ru_T := ru_in 1 30 (by decide +kernel)
set_option maxRecDepth 20000 in
theorem tw_1_31 : Cond.methodLink RX11 9 yX10_init ∈ ru_T := ru_in 1 31 (by decide +kernel)
set_option maxRecDepth 20000 in
theorem tw_1_32 : Cond.instanceMethod yX10_init ∈ ru_T := ru_in 1 32 (by decide +kernel)
set_option maxRecDepth 20000 in
theorem tw_1_51 : Cond.classLink RX11 16 RX0 ∈ ru_T := ru_in 1 51 (by decide +kernel)
set_option maxRecDepth 20000 in
theorem tw_1_53 : Cond.classLink RX11 22 RX4 ∈ ru_T := ru_in 1 53 (by decide +kernel)
set_option maxRecDepth 20000 in
theorem tw_1_54 : Cond.instantiable RX4 13 ∈ ru_T := ru_in 1 54 (by decide +kernel)
set_option maxRecDepth 20000 in
theorem tw_1_56 : Cond.instanceMethod yX4_init ∈ ru_T := ru_in 1 56 (by decide +kernel)
set_option maxRecDepth 20000 in
theorem tw_1_105 : Cond.classLink RX11 29 RX6 ∈ ru_T := ru_in 1 105 (by decide +kernel)
set_option maxRecDepth 20000 in
theorem tw_1_106 : Cond.instantiable RX6 7 ∈ ru_T := ru_in 1 106 (by decide +kernel)
set_option maxRecDepth 20000 in
theorem tw_1_108 : Cond.instanceMethod yX6_init ∈ ru_T := ru_in 1 108 (by decide +kernel)
set_option maxRecDepth 20000 in
theorem tw_1_135 : Cond.classLink RX11 36 RX2 ∈ ru_T := ru_in 1 135 (by decide +kernel)
set_option maxRecDepth 20000 in
theorem tw_1_136 : Cond.instantiable RX2 6 ∈ ru_T := ru_in 1 136 (by decide +kernel)
set_option maxRecDepth 20000 in
theorem tw_1_138 : Cond.instanceMethod yX2_init ∈ ru_T := ru_in 1 138 (by decide +kernel)
set_option maxRecDepth 20000 in
theorem tw_1_166 : Cond.classLink RX11 43 RX3 ∈ ru_T := ru_in 1 166 (by decide +kernel)
set_option maxRecDepth 20000 in
theorem tw_1_167 : Cond.instantiable RX3 8 ∈ ru_T := ru_in 1 167 (by decide +kernel)
set_option maxRecDepth 20000 in
theorem tw_1_168 : Cond.methodLink RX11 45 yX3_init ∈ ru_T := ru_in 1 168 (by decide +kernel)
set_option maxRecDepth 20000 in
theorem tw_1_169 : Cond.instanceMethod yX3_init ∈ ru_T := ru_in 1 169 (by decide +kernel)
set_option maxRecDepth 20000 in
theorem tw_2_29 : Cond.classLink RX11 50 RX8 ∈ ru_T := ru_in 2 29 (by decide +kernel)
set_option maxRecDepth 20000 in
theorem tw_2_30 : Cond.instantiable RX8 4 ∈ ru_T := ru_in 2 30 (by decide +kernel)
set_option maxRecDepth 20000 in
theorem tw_2_32 : Cond.instanceMethod yX8_init ∈ ru_T := ru_in 2 32 (by decide +kernel)
set_option maxRecDepth 20000 in
theorem tw_2_52 : Cond.classLink RX11 57 RX1 ∈ ru_T := ru_in 2 52 (by decide +kernel)
set_option maxRecDepth 20000 in
theorem tw_2_53 : Cond.instantiable RX1 4 ∈ ru_T := ru_in 2 53 (by decide +kernel)
set_option maxRecDepth 20000 in
theorem tw_2_55 : Cond.instanceMethod yX1_init ∈ ru_T := ru_in 2 55 (by decide +kernel)
set_option maxRecDepth 20000 in
theorem tw_2_76 : Cond.classLink RX11 64 RX7 ∈ ru_T := ru_in 2 76 (by decide +kernel)
set_option maxRecDepth 20000 in
theorem tw_2_78 : Cond.instantiable RX7 3 ∈ ru_T := ru_in 2 78 (by decide +kernel)
set_option maxRecDepth 20000 in
theorem tw_2_80 : Cond.instanceMethod yX7_init ∈ ru_T := ru_in 2 80 (by decide +kernel)
set_option maxRecDepth 20000 in
theorem tw_2_201 : Cond.code yX0_init cX0_init 7 none ∈ ru_T := ru_inc 2 201 rfl rfl
theorem mT_X0_init : ∀ w ∈ wsX0_init, w ∈ ru_T := ru_gc tw_2_201
set_option maxRecDepth 20000 in
theorem tw_2_198 : Cond.instantiable RX0 15 ∈ ru_T := ru_in 2 198 (by decide +kernel)
set_option maxRecDepth 20000 in
theorem tw_2_199 : Cond.methodLink RX11 113 yX0_init ∈ ru_T := ru_in 2 199 (by decide +kernel)
set_option maxRecDepth 20000 in
theorem tw_2_200 : Cond.instanceMethod yX0_init ∈ ru_T := ru_in 2 200 (by decide +kernel)
set_option maxRecDepth 20000 in
theorem tw_7_75 : Cond.methodLink RX12 334 yX12_byteAt ∈ ru_T := ru_in 7 75 (by decide +kernel)
set_option maxRecDepth 20000 in
theorem tw_7_77 : Cond.instanceMethod yX12_byteAt ∈ ru_T := ru_in 7 77 (by decide +kernel)
set_option maxRecDepth 20000 in
theorem tw_0_45 : Cond.selects RX12 yX12_byteAt yX12_byteAt ∈ ru_T := ru_in 0 45 (by decide +kernel)
set_option maxRecDepth 20000 in
theorem tw_7_78 : Cond.code yX12_byteAt cX12_byteAt 2 (some .int) ∈ ru_T := ru_inc 7 78 rfl rfl
theorem mT_X12_byteAt : ∀ w ∈ wsX12_byteAt, w ∈ ru_T := ru_gc tw_7_78
set_option maxRecDepth 20000 in
theorem tw_5_118 : Cond.methodLink RX12 172 yJ0_length_8abf5 ∈ ru_T := ru_in 5 118 (by decide +kernel)
set_option maxRecDepth 20000 in
theorem tw_5_119 : Cond.methodLink RX12 178 yJ0_charAt_5068e ∈ ru_T := ru_in 5 119 (by decide +kernel)
set_option maxRecDepth 20000 in
theorem tw_7_79 : Cond.methodLink RX12 343 yX12_isLetter ∈ ru_T := ru_in 7 79 (by decide +kernel)
set_option maxRecDepth 20000 in
theorem tw_7_81 : Cond.instanceMethod yX12_isLetter ∈ ru_T := ru_in 7 81 (by decide +kernel)
set_option maxRecDepth 20000 in
theorem tw_0_46 : Cond.selects RX12 yX12_isLetter yX12_isLetter ∈ ru_T := ru_in 0 46 (by decide +kernel)
set_option maxRecDepth 20000 in
theorem tw_7_82 : Cond.code yX12_isLetter cX12_isLetter 2 (some .boolean) ∈ ru_T := ru_inc 7 82 rfl rfl
theorem mT_X12_isLetter : ∀ w ∈ wsX12_isLetter, w ∈ ru_T := ru_gc tw_7_82
set_option maxRecDepth 20000 in
theorem tw_7_83 : Cond.methodLink RX12 346 yX12_isDigit ∈ ru_T := ru_in 7 83 (by decide +kernel)
set_option maxRecDepth 20000 in
theorem tw_7_85 : Cond.instanceMethod yX12_isDigit ∈ ru_T := ru_in 7 85 (by decide +kernel)
set_option maxRecDepth 20000 in
theorem tw_0_47 : Cond.selects RX12 yX12_isDigit yX12_isDigit ∈ ru_T := ru_in 0 47 (by decide +kernel)
set_option maxRecDepth 20000 in
theorem tw_7_86 : Cond.code yX12_isDigit cX12_isDigit 2 (some .boolean) ∈ ru_T := ru_inc 7 86 rfl rfl
theorem mT_X12_isDigit : ∀ w ∈ wsX12_isDigit, w ∈ ru_T := ru_gc tw_7_86
set_option maxRecDepth 20000 in
theorem tw_7_92 : Cond.methodLink RX12 352 yX12_is ∈ ru_T := ru_in 7 92 (by decide +kernel)
set_option maxRecDepth 20000 in
theorem tw_7_94 : Cond.instanceMethod yX12_is ∈ ru_T := ru_in 7 94 (by decide +kernel)
set_option maxRecDepth 20000 in
theorem tw_0_49 : Cond.selects RX12 yX12_is yX12_is ∈ ru_T := ru_in 0 49 (by decide +kernel)
set_option maxRecDepth 20000 in
theorem tw_7_95 : Cond.code yX12_is cX12_is 4 (some .boolean) ∈ ru_T := ru_inc 7 95 rfl rfl
theorem mT_X12_is : ∀ w ∈ wsX12_is, w ∈ ru_T := ru_gc tw_7_95
set_option maxRecDepth 20000 in
theorem tw_7_71 : Cond.methodLink RX12 356 yX12_next ∈ ru_T := ru_in 7 71 (by decide +kernel)
set_option maxRecDepth 20000 in
theorem tw_7_73 : Cond.instanceMethod yX12_next ∈ ru_T := ru_in 7 73 (by decide +kernel)
set_option maxRecDepth 20000 in
theorem tw_0_44 : Cond.selects RX12 yX12_next yX12_next ∈ ru_T := ru_in 0 44 (by decide +kernel)
set_option maxRecDepth 20000 in
theorem tw_7_74 : Cond.code yX12_next cX12_next 1 none ∈ ru_T := ru_inc 7 74 rfl rfl
theorem mT_X12_next : ∀ w ∈ wsX12_next, w ∈ ru_T := ru_gc tw_7_74
set_option maxRecDepth 20000 in
theorem tw_7_113 : Cond.methodLink RX12 375 yX12_wrong ∈ ru_T := ru_in 7 113 (by decide +kernel)
set_option maxRecDepth 20000 in
theorem tw_7_115 : Cond.instanceMethod yX12_wrong ∈ ru_T := ru_in 7 115 (by decide +kernel)
set_option maxRecDepth 20000 in
theorem tw_0_54 : Cond.selects RX12 yX12_wrong yX12_wrong ∈ ru_T := ru_in 0 54 (by decide +kernel)
set_option maxRecDepth 20000 in
theorem tw_7_116 : Cond.code yX12_wrong cX12_wrong 1 (some .int) ∈ ru_T := ru_inc 7 116 rfl rfl
theorem mT_X12_wrong : ∀ w ∈ wsX12_wrong, w ∈ ru_T := ru_gc tw_7_116
set_option maxRecDepth 20000 in
theorem tw_7_109 : Cond.methodLink RX12 380 yX12_opens ∈ ru_T := ru_in 7 109 (by decide +kernel)
set_option maxRecDepth 20000 in
theorem tw_7_111 : Cond.instanceMethod yX12_opens ∈ ru_T := ru_in 7 111 (by decide +kernel)
set_option maxRecDepth 20000 in
theorem tw_0_53 : Cond.selects RX12 yX12_opens yX12_opens ∈ ru_T := ru_in 0 53 (by decide +kernel)
set_option maxRecDepth 20000 in
theorem tw_7_112 : Cond.code yX12_opens cX12_opens 2 (some .boolean) ∈ ru_T := ru_inc 7 112 rfl rfl
theorem mT_X12_opens : ∀ w ∈ wsX12_opens, w ∈ ru_T := ru_gc tw_7_112
set_option maxRecDepth 20000 in
theorem tw_7_125 : Cond.methodLink RX12 398 yX12_one ∈ ru_T := ru_in 7 125 (by decide +kernel)
set_option maxRecDepth 20000 in
theorem tw_7_127 : Cond.instanceMethod yX12_one ∈ ru_T := ru_in 7 127 (by decide +kernel)
set_option maxRecDepth 20000 in
theorem tw_0_57 : Cond.selects RX12 yX12_one yX12_one ∈ ru_T := ru_in 0 57 (by decide +kernel)
set_option maxRecDepth 20000 in
theorem tw_7_128 : Cond.code yX12_one cX12_one 3 (some .int) ∈ ru_T := ru_inc 7 128 rfl rfl
theorem mT_X12_one : ∀ w ∈ wsX12_one, w ∈ ru_T := ru_gc tw_7_128
set_option maxRecDepth 20000 in
theorem tw_7_88 : Cond.methodLink RX12 364 yX12_take ∈ ru_T := ru_in 7 88 (by decide +kernel)
set_option maxRecDepth 20000 in
theorem tw_7_90 : Cond.instanceMethod yX12_take ∈ ru_T := ru_in 7 90 (by decide +kernel)
set_option maxRecDepth 20000 in
theorem tw_0_48 : Cond.selects RX12 yX12_take yX12_take ∈ ru_T := ru_in 0 48 (by decide +kernel)
set_option maxRecDepth 20000 in
theorem tw_7_91 : Cond.code yX12_take cX12_take 2 (some .boolean) ∈ ru_T := ru_inc 7 91 rfl rfl
theorem mT_X12_take : ∀ w ∈ wsX12_take, w ∈ ru_T := ru_gc tw_7_91
set_option maxRecDepth 20000 in
theorem tw_7_121 : Cond.methodLink RX12 391 yX12_product ∈ ru_T := ru_in 7 121 (by decide +kernel)
set_option maxRecDepth 20000 in
theorem tw_7_123 : Cond.instanceMethod yX12_product ∈ ru_T := ru_in 7 123 (by decide +kernel)
set_option maxRecDepth 20000 in
theorem tw_0_56 : Cond.selects RX12 yX12_product yX12_product ∈ ru_T := ru_in 0 56 (by decide +kernel)
set_option maxRecDepth 20000 in
theorem tw_7_124 : Cond.code yX12_product cX12_product 2 (some .int) ∈ ru_T := ru_inc 7 124 rfl rfl
theorem mT_X12_product : ∀ w ∈ wsX12_product, w ∈ ru_T := ru_gc tw_7_124
set_option maxRecDepth 20000 in
theorem tw_7_117 : Cond.methodLink RX12 384 yX12_sum ∈ ru_T := ru_in 7 117 (by decide +kernel)
set_option maxRecDepth 20000 in
theorem tw_7_119 : Cond.instanceMethod yX12_sum ∈ ru_T := ru_in 7 119 (by decide +kernel)
set_option maxRecDepth 20000 in
theorem tw_0_55 : Cond.selects RX12 yX12_sum yX12_sum ∈ ru_T := ru_in 0 55 (by decide +kernel)
set_option maxRecDepth 20000 in
theorem tw_7_120 : Cond.code yX12_sum cX12_sum 3 (some .int) ∈ ru_T := ru_inc 7 120 rfl rfl
theorem mT_X12_sum : ∀ w ∈ wsX12_sum, w ∈ ru_T := ru_gc tw_7_120
set_option maxRecDepth 20000 in
theorem tw_7_104 : Cond.methodLink RX12 367 yX12_turned ∈ ru_T := ru_in 7 104 (by decide +kernel)
set_option maxRecDepth 20000 in
theorem tw_7_106 : Cond.instanceMethod yX12_turned ∈ ru_T := ru_in 7 106 (by decide +kernel)
set_option maxRecDepth 20000 in
theorem tw_0_52 : Cond.selects RX12 yX12_turned yX12_turned ∈ ru_T := ru_in 0 52 (by decide +kernel)
set_option maxRecDepth 20000 in
theorem tw_7_107 : Cond.code yX12_turned cX12_turned 2 (some .int) ∈ ru_T := ru_inc 7 107 rfl rfl
theorem mT_X12_turned : ∀ w ∈ wsX12_turned, w ∈ ru_T := ru_gc tw_7_107
set_option maxRecDepth 20000 in
theorem tw_7_100 : Cond.methodLink RX12 359 yX12_both ∈ ru_T := ru_in 7 100 (by decide +kernel)
set_option maxRecDepth 20000 in
theorem tw_7_102 : Cond.instanceMethod yX12_both ∈ ru_T := ru_in 7 102 (by decide +kernel)
set_option maxRecDepth 20000 in
theorem tw_0_51 : Cond.selects RX12 yX12_both yX12_both ∈ ru_T := ru_in 0 51 (by decide +kernel)
set_option maxRecDepth 20000 in
theorem tw_7_103 : Cond.code yX12_both cX12_both 3 (some .int) ∈ ru_T := ru_inc 7 103 rfl rfl
theorem mT_X12_both : ∀ w ∈ wsX12_both, w ∈ ru_T := ru_gc tw_7_103
set_option maxRecDepth 20000 in
theorem tw_7_96 : Cond.methodLink RX12 405 yX12_either ∈ ru_T := ru_in 7 96 (by decide +kernel)
set_option maxRecDepth 20000 in
theorem tw_7_98 : Cond.instanceMethod yX12_either ∈ ru_T := ru_in 7 98 (by decide +kernel)
set_option maxRecDepth 20000 in
theorem tw_0_50 : Cond.selects RX12 yX12_either yX12_either ∈ ru_T := ru_in 0 50 (by decide +kernel)
set_option maxRecDepth 20000 in
theorem tw_7_99 : Cond.code yX12_either cX12_either 3 (some .int) ∈ ru_T := ru_inc 7 99 rfl rfl
theorem mT_X12_either : ∀ w ∈ wsX12_either, w ∈ ru_T := ru_gc tw_7_99
set_option maxRecDepth 20000 in
theorem tw_5_183 : Cond.fieldLink RX12 328 "RedTentModel" "ends" "I" ∈ ru_T := ru_in 5 183 (by decide +kernel)
set_option maxRecDepth 20000 in
theorem tw_5_182 : Cond.fieldLink RX12 331 "RedTentModel" "base" "I" ∈ ru_T := ru_in 5 182 (by decide +kernel)
set_option maxRecDepth 20000 in
theorem tw_5_173 : Cond.fieldLink RX12 128 "RedTentModel" "text" "[I" ∈ ru_T := ru_in 5 173 (by decide +kernel)
set_option maxRecDepth 20000 in
theorem tw_5_184 : Cond.fieldLink RX12 340 "RedTentModel" "from" "I" ∈ ru_T := ru_in 5 184 (by decide +kernel)
set_option maxRecDepth 20000 in
theorem tw_5_185 : Cond.fieldLink RX12 337 "RedTentModel" "to" "I" ∈ ru_T := ru_in 5 185 (by decide +kernel)
set_option maxRecDepth 20000 in
theorem tw_5_187 : Cond.fieldLink RX12 349 "RedTentModel" "fault" "I" ∈ ru_T := ru_in 5 187 (by decide +kernel)
set_option maxRecDepth 20000 in
theorem tw_5_186 : Cond.fieldLink RX12 372 "RedTentModel" "open" "I" ∈ ru_T := ru_in 5 186 (by decide +kernel)
set_option maxRecDepth 20000 in
theorem tw_5_188 : Cond.fieldLink RX12 143 "RedTentModel" "names" "[I" ∈ ru_T := ru_in 5 188 (by decide +kernel)
set_option maxRecDepth 20000 in
theorem tw_7_67 : Cond.methodLink RX12 428 yX12_goThrough ∈ ru_T := ru_in 7 67 (by decide +kernel)
set_option maxRecDepth 20000 in
theorem tw_7_69 : Cond.instanceMethod yX12_goThrough ∈ ru_T := ru_in 7 69 (by decide +kernel)
set_option maxRecDepth 20000 in
theorem tw_0_43 : Cond.selects RX12 yX12_goThrough yX12_goThrough ∈ ru_T := ru_in 0 43 (by decide +kernel)
set_option maxRecDepth 20000 in
theorem tw_7_70 : Cond.code yX12_goThrough cX12_goThrough 4 (some .int) ∈ ru_T := ru_inc 7 70 rfl rfl
theorem mT_X12_goThrough : ∀ w ∈ wsX12_goThrough, w ∈ ru_T := ru_gc tw_7_70
set_option maxRecDepth 20000 in
theorem tw_7_158 : Cond.methodLink RX12 437 yX12_goOf ∈ ru_T := ru_in 7 158 (by decide +kernel)
set_option maxRecDepth 20000 in
theorem tw_7_160 : Cond.instanceMethod yX12_goOf ∈ ru_T := ru_in 7 160 (by decide +kernel)
set_option maxRecDepth 20000 in
theorem tw_0_59 : Cond.selects RX12 yX12_goOf yX12_goOf ∈ ru_T := ru_in 0 59 (by decide +kernel)
set_option maxRecDepth 20000 in
theorem tw_7_161 : Cond.code yX12_goOf cX12_goOf 8 (some .int) ∈ ru_T := ru_inc 7 161 rfl rfl
theorem mT_X12_goOf : ∀ w ∈ wsX12_goOf, w ∈ ru_T := ru_gc tw_7_161
set_option maxRecDepth 20000 in
theorem tw_7_154 : Cond.methodLink RX12 434 yX12_takeOf ∈ ru_T := ru_in 7 154 (by decide +kernel)
set_option maxRecDepth 20000 in
theorem tw_7_156 : Cond.instanceMethod yX12_takeOf ∈ ru_T := ru_in 7 156 (by decide +kernel)
set_option maxRecDepth 20000 in
theorem tw_0_58 : Cond.selects RX12 yX12_takeOf yX12_takeOf ∈ ru_T := ru_in 0 58 (by decide +kernel)
set_option maxRecDepth 20000 in
theorem tw_7_157 : Cond.code yX12_takeOf cX12_takeOf 3 (some .int) ∈ ru_T := ru_inc 7 157 rfl rfl
theorem mT_X12_takeOf : ∀ w ∈ wsX12_takeOf, w ∈ ru_T := ru_gc tw_7_157
set_option maxRecDepth 20000 in
theorem tw_5_190 : Cond.fieldLink RX12 425 "RedTentModel" "goes" "I" ∈ ru_T := ru_in 5 190 (by decide +kernel)
set_option maxRecDepth 20000 in
theorem tw_5_189 : Cond.fieldLink RX12 418 "RedTentModel" "takes" "I" ∈ ru_T := ru_in 5 189 (by decide +kernel)
set_option maxRecDepth 20000 in
theorem tw_5_174 : Cond.fieldLink RX12 131 "RedTentModel" "textMany" "[I" ∈ ru_T := ru_in 5 174 (by decide +kernel)
set_option maxRecDepth 20000 in
theorem tw_5_192 : Cond.fieldLink RX12 149 "RedTentModel" "sorted" "[I" ∈ ru_T := ru_in 5 192 (by decide +kernel)
set_option maxRecDepth 20000 in
theorem tw_5_191 : Cond.fieldLink RX12 146 "RedTentModel" "takeIs" "[I" ∈ ru_T := ru_in 5 191 (by decide +kernel)
set_option maxRecDepth 20000 in
theorem tw_2_135 : Cond.methodLink RL 13 yX11_pass ∈ ru_T := ru_in 2 135 (by decide +kernel)
set_option maxRecDepth 20000 in
theorem tw_2_136 : Cond.instanceMethod yX11_pass ∈ ru_T := ru_in 2 136 (by decide +kernel)
set_option maxRecDepth 20000 in
theorem tw_2_137 : Cond.selects RX11 yX11_pass yX11_pass ∈ ru_T := ru_in 2 137 (by decide +kernel)
set_option maxRecDepth 20000 in
theorem tw_2_138 : Cond.code yX11_pass cX11_pass 4 (some .int) ∈ ru_T := ru_inc 2 138 rfl rfl
theorem mT_X11_pass : ∀ w ∈ wsX11_pass, w ∈ ru_T := ru_gc tw_2_138
set_option maxRecDepth 20000 in
theorem tw_6_118 : Cond.methodLink RL 17 yX12_pass ∈ ru_T := ru_in 6 118 (by decide +kernel)
set_option maxRecDepth 20000 in
theorem tw_6_119 : Cond.instanceMethod yX12_pass ∈ ru_T := ru_in 6 119 (by decide +kernel)
set_option maxRecDepth 20000 in
theorem tw_6_120 : Cond.selects RX12 yX12_pass yX12_pass ∈ ru_T := ru_in 6 120 (by decide +kernel)
set_option maxRecDepth 20000 in
theorem tw_6_121 : Cond.code yX12_pass cX12_pass 4 (some .int) ∈ ru_T := ru_inc 6 121 rfl rfl
theorem mT_X12_pass : ∀ w ∈ wsX12_pass, w ∈ ru_T := ru_gc tw_6_121
set_option maxRecDepth 20000 in
theorem tw_2_158 : Cond.methodLink RL 18 yX11_wind ∈ ru_T := ru_in 2 158 (by decide +kernel)
set_option maxRecDepth 20000 in
theorem tw_2_159 : Cond.instanceMethod yX11_wind ∈ ru_T := ru_in 2 159 (by decide +kernel)
set_option maxRecDepth 20000 in
theorem tw_2_160 : Cond.selects RX11 yX11_wind yX11_wind ∈ ru_T := ru_in 2 160 (by decide +kernel)
set_option maxRecDepth 20000 in
theorem tw_2_161 : Cond.code yX11_wind cX11_wind 6 (some .int) ∈ ru_T := ru_inc 2 161 rfl rfl
theorem mT_X11_wind : ∀ w ∈ wsX11_wind, w ∈ ru_T := ru_gc tw_2_161
set_option maxRecDepth 20000 in
theorem tw_6_129 : Cond.methodLink RL 22 yX12_wind ∈ ru_T := ru_in 6 129 (by decide +kernel)
set_option maxRecDepth 20000 in
theorem tw_6_130 : Cond.instanceMethod yX12_wind ∈ ru_T := ru_in 6 130 (by decide +kernel)
set_option maxRecDepth 20000 in
theorem tw_6_131 : Cond.selects RX12 yX12_wind yX12_wind ∈ ru_T := ru_in 6 131 (by decide +kernel)
set_option maxRecDepth 20000 in
theorem tw_6_132 : Cond.code yX12_wind cX12_wind 5 (some .int) ∈ ru_T := ru_inc 6 132 rfl rfl
theorem mT_X12_wind : ∀ w ∈ wsX12_wind, w ∈ ru_T := ru_gc tw_6_132
set_option maxRecDepth 20000 in
theorem tw_2_183 : Cond.methodLink RL 23 yX11_fog ∈ ru_T := ru_in 2 183 (by decide +kernel)
set_option maxRecDepth 20000 in
theorem tw_2_184 : Cond.instanceMethod yX11_fog ∈ ru_T := ru_in 2 184 (by decide +kernel)
set_option maxRecDepth 20000 in
theorem tw_2_185 : Cond.selects RX11 yX11_fog yX11_fog ∈ ru_T := ru_in 2 185 (by decide +kernel)
set_option maxRecDepth 20000 in
theorem tw_2_186 : Cond.code yX11_fog cX11_fog 4 (some .int) ∈ ru_T := ru_inc 2 186 rfl rfl
theorem mT_X11_fog : ∀ w ∈ wsX11_fog, w ∈ ru_T := ru_gc tw_2_186
set_option maxRecDepth 20000 in
theorem tw_6_136 : Cond.methodLink RL 26 yX12_fog ∈ ru_T := ru_in 6 136 (by decide +kernel)
set_option maxRecDepth 20000 in
theorem tw_6_137 : Cond.instanceMethod yX12_fog ∈ ru_T := ru_in 6 137 (by decide +kernel)
set_option maxRecDepth 20000 in
theorem tw_6_138 : Cond.selects RX12 yX12_fog yX12_fog ∈ ru_T := ru_in 6 138 (by decide +kernel)
set_option maxRecDepth 20000 in
theorem tw_6_139 : Cond.code yX12_fog cX12_fog 4 (some .int) ∈ ru_T := ru_inc 6 139 rfl rfl
theorem mT_X12_fog : ∀ w ∈ wsX12_fog, w ∈ ru_T := ru_gc tw_6_139
set_option maxRecDepth 20000 in
theorem tw_6_140 : Cond.methodLink RL 31 yX12_body ∈ ru_T := ru_in 6 140 (by decide +kernel)
set_option maxRecDepth 20000 in
theorem tw_6_141 : Cond.instanceMethod yX12_body ∈ ru_T := ru_in 6 141 (by decide +kernel)
set_option maxRecDepth 20000 in
theorem tw_6_142 : Cond.selects RX12 yX12_body yX12_body ∈ ru_T := ru_in 6 142 (by decide +kernel)
set_option maxRecDepth 20000 in
theorem tw_6_143 : Cond.code yX12_body cX12_body 6 (some .int) ∈ ru_T := ru_inc 6 143 rfl rfl
theorem mT_X12_body : ∀ w ∈ wsX12_body, w ∈ ru_T := ru_gc tw_6_143
set_option maxRecDepth 20000 in
theorem tw_2_191 : Cond.methodLink RL 27 yX11_body ∈ ru_T := ru_in 2 191 (by decide +kernel)
set_option maxRecDepth 20000 in
theorem tw_2_192 : Cond.instanceMethod yX11_body ∈ ru_T := ru_in 2 192 (by decide +kernel)
set_option maxRecDepth 20000 in
theorem tw_2_193 : Cond.selects RX11 yX11_body yX11_body ∈ ru_T := ru_in 2 193 (by decide +kernel)
set_option maxRecDepth 20000 in
theorem tw_2_194 : Cond.code yX11_body cX11_body 6 (some .int) ∈ ru_T := ru_inc 2 194 rfl rfl
theorem mT_X11_body : ∀ w ∈ wsX11_body, w ∈ ru_T := ru_gc tw_2_194
set_option maxRecDepth 20000 in
theorem tw_3_19 : Cond.methodLink RL 32 yX11_bodyTold ∈ ru_T := ru_in 3 19 (by decide +kernel)
set_option maxRecDepth 20000 in
theorem tw_3_20 : Cond.instanceMethod yX11_bodyTold ∈ ru_T := ru_in 3 20 (by decide +kernel)
set_option maxRecDepth 20000 in
theorem tw_3_21 : Cond.selects RX11 yX11_bodyTold yX11_bodyTold ∈ ru_T := ru_in 3 21 (by decide +kernel)
set_option maxRecDepth 20000 in
theorem tw_3_22 : Cond.code yX11_bodyTold cX11_bodyTold 4 (some .int) ∈ ru_T := ru_inc 3 22 rfl rfl
theorem mT_X11_bodyTold : ∀ w ∈ wsX11_bodyTold, w ∈ ru_T := ru_gc tw_3_22
set_option maxRecDepth 20000 in
theorem tw_6_147 : Cond.methodLink RL 36 yX12_bodyTold ∈ ru_T := ru_in 6 147 (by decide +kernel)
set_option maxRecDepth 20000 in
theorem tw_6_148 : Cond.instanceMethod yX12_bodyTold ∈ ru_T := ru_in 6 148 (by decide +kernel)
set_option maxRecDepth 20000 in
theorem tw_6_149 : Cond.selects RX12 yX12_bodyTold yX12_bodyTold ∈ ru_T := ru_in 6 149 (by decide +kernel)
set_option maxRecDepth 20000 in
theorem tw_6_150 : Cond.code yX12_bodyTold cX12_bodyTold 3 (some .int) ∈ ru_T := ru_inc 6 150 rfl rfl
theorem mT_X12_bodyTold : ∀ w ∈ wsX12_bodyTold, w ∈ ru_T := ru_gc tw_6_150
set_option maxRecDepth 20000 in
theorem tw_3_34 : Cond.methodLink RL 37 yX11_patch ∈ ru_T := ru_in 3 34 (by decide +kernel)
set_option maxRecDepth 20000 in
theorem tw_3_35 : Cond.instanceMethod yX11_patch ∈ ru_T := ru_in 3 35 (by decide +kernel)
set_option maxRecDepth 20000 in
theorem tw_3_36 : Cond.selects RX11 yX11_patch yX11_patch ∈ ru_T := ru_in 3 36 (by decide +kernel)
set_option maxRecDepth 20000 in
theorem tw_3_37 : Cond.code yX11_patch cX11_patch 5 (some .long) ∈ ru_T := ru_inc 3 37 rfl rfl
theorem mT_X11_patch : ∀ w ∈ wsX11_patch, w ∈ ru_T := ru_gc tw_3_37
set_option maxRecDepth 20000 in
theorem tw_6_159 : Cond.methodLink RL 41 yX12_patch ∈ ru_T := ru_in 6 159 (by decide +kernel)
set_option maxRecDepth 20000 in
theorem tw_6_160 : Cond.instanceMethod yX12_patch ∈ ru_T := ru_in 6 160 (by decide +kernel)
set_option maxRecDepth 20000 in
theorem tw_6_161 : Cond.selects RX12 yX12_patch yX12_patch ∈ ru_T := ru_in 6 161 (by decide +kernel)
set_option maxRecDepth 20000 in
theorem tw_6_162 : Cond.code yX12_patch cX12_patch 4 (some .long) ∈ ru_T := ru_inc 6 162 rfl rfl
theorem mT_X12_patch : ∀ w ∈ wsX12_patch, w ∈ ru_T := ru_gc tw_6_162
set_option maxRecDepth 20000 in
theorem tw_3_70 : Cond.methodLink RL 44 yX11_fix ∈ ru_T := ru_in 3 70 (by decide +kernel)
set_option maxRecDepth 20000 in
theorem tw_6_177 : Cond.methodLink RL 48 yX12_fix ∈ ru_T := ru_in 6 177 (by decide +kernel)
set_option maxRecDepth 20000 in
theorem tw_6_178 : Cond.instanceMethod yX12_fix ∈ ru_T := ru_in 6 178 (by decide +kernel)
set_option maxRecDepth 20000 in
theorem tw_6_179 : Cond.selects RX12 yX12_fix yX12_fix ∈ ru_T := ru_in 6 179 (by decide +kernel)
set_option maxRecDepth 20000 in
theorem tw_6_180 : Cond.code yX12_fix cX12_fix 5 (some .int) ∈ ru_T := ru_inc 6 180 rfl rfl
theorem mT_X12_fix : ∀ w ∈ wsX12_fix, w ∈ ru_T := ru_gc tw_6_180
set_option maxRecDepth 20000 in
theorem tw_3_79 : Cond.methodLink RL 49 yX11_hearer ∈ ru_T := ru_in 3 79 (by decide +kernel)
set_option maxRecDepth 20000 in
theorem tw_3_80 : Cond.instanceMethod yX11_hearer ∈ ru_T := ru_in 3 80 (by decide +kernel)
set_option maxRecDepth 20000 in
theorem tw_3_81 : Cond.selects RX11 yX11_hearer yX11_hearer ∈ ru_T := ru_in 3 81 (by decide +kernel)
set_option maxRecDepth 20000 in
theorem tw_3_82 : Cond.code yX11_hearer cX11_hearer 2 (some .int) ∈ ru_T := ru_inc 3 82 rfl rfl
theorem mT_X11_hearer : ∀ w ∈ wsX11_hearer, w ∈ ru_T := ru_gc tw_3_82
set_option maxRecDepth 20000 in
theorem tw_6_185 : Cond.methodLink RL 52 yX12_hearer ∈ ru_T := ru_in 6 185 (by decide +kernel)
set_option maxRecDepth 20000 in
theorem tw_6_186 : Cond.instanceMethod yX12_hearer ∈ ru_T := ru_in 6 186 (by decide +kernel)
set_option maxRecDepth 20000 in
theorem tw_6_187 : Cond.selects RX12 yX12_hearer yX12_hearer ∈ ru_T := ru_in 6 187 (by decide +kernel)
set_option maxRecDepth 20000 in
theorem tw_6_188 : Cond.code yX12_hearer cX12_hearer 2 (some .int) ∈ ru_T := ru_inc 6 188 rfl rfl
theorem mT_X12_hearer : ∀ w ∈ wsX12_hearer, w ∈ ru_T := ru_gc tw_6_188
set_option maxRecDepth 20000 in
theorem tw_3_87 : Cond.methodLink RL 53 yX11_wave ∈ ru_T := ru_in 3 87 (by decide +kernel)
set_option maxRecDepth 20000 in
theorem tw_3_88 : Cond.instanceMethod yX11_wave ∈ ru_T := ru_in 3 88 (by decide +kernel)
set_option maxRecDepth 20000 in
theorem tw_3_89 : Cond.selects RX11 yX11_wave yX11_wave ∈ ru_T := ru_in 3 89 (by decide +kernel)
set_option maxRecDepth 20000 in
theorem tw_3_90 : Cond.code yX11_wave cX11_wave 5 (some .int) ∈ ru_T := ru_inc 3 90 rfl rfl
theorem mT_X11_wave : ∀ w ∈ wsX11_wave, w ∈ ru_T := ru_gc tw_3_90
set_option maxRecDepth 20000 in
theorem tw_6_189 : Cond.methodLink RL 57 yX12_wave ∈ ru_T := ru_in 6 189 (by decide +kernel)
set_option maxRecDepth 20000 in
theorem tw_6_190 : Cond.instanceMethod yX12_wave ∈ ru_T := ru_in 6 190 (by decide +kernel)
set_option maxRecDepth 20000 in
theorem tw_6_191 : Cond.selects RX12 yX12_wave yX12_wave ∈ ru_T := ru_in 6 191 (by decide +kernel)
set_option maxRecDepth 20000 in
theorem tw_6_192 : Cond.code yX12_wave cX12_wave 7 (some .int) ∈ ru_T := ru_inc 6 192 rfl rfl
theorem mT_X12_wave : ∀ w ∈ wsX12_wave, w ∈ ru_T := ru_gc tw_6_192
set_option maxRecDepth 20000 in
theorem tw_3_95 : Cond.methodLink RL 58 yX11_call ∈ ru_T := ru_in 3 95 (by decide +kernel)
set_option maxRecDepth 20000 in
theorem tw_3_96 : Cond.instanceMethod yX11_call ∈ ru_T := ru_in 3 96 (by decide +kernel)
set_option maxRecDepth 20000 in
theorem tw_3_97 : Cond.selects RX11 yX11_call yX11_call ∈ ru_T := ru_in 3 97 (by decide +kernel)
set_option maxRecDepth 20000 in
theorem tw_3_98 : Cond.code yX11_call cX11_call 5 (some .int) ∈ ru_T := ru_inc 3 98 rfl rfl
theorem mT_X11_call : ∀ w ∈ wsX11_call, w ∈ ru_T := ru_gc tw_3_98
set_option maxRecDepth 20000 in
theorem tw_6_196 : Cond.methodLink RL 61 yX12_call ∈ ru_T := ru_in 6 196 (by decide +kernel)
set_option maxRecDepth 20000 in
theorem tw_6_197 : Cond.instanceMethod yX12_call ∈ ru_T := ru_in 6 197 (by decide +kernel)
set_option maxRecDepth 20000 in
theorem tw_6_198 : Cond.selects RX12 yX12_call yX12_call ∈ ru_T := ru_in 6 198 (by decide +kernel)
set_option maxRecDepth 20000 in
theorem tw_6_199 : Cond.code yX12_call cX12_call 5 (some .int) ∈ ru_T := ru_inc 6 199 rfl rfl
theorem mT_X12_call : ∀ w ∈ wsX12_call, w ∈ ru_T := ru_gc tw_6_199
set_option maxRecDepth 20000 in
theorem tw_3_103 : Cond.methodLink RL 62 yX11_canHear ∈ ru_T := ru_in 3 103 (by decide +kernel)
set_option maxRecDepth 20000 in
theorem tw_3_104 : Cond.instanceMethod yX11_canHear ∈ ru_T := ru_in 3 104 (by decide +kernel)
set_option maxRecDepth 20000 in
theorem tw_3_105 : Cond.selects RX11 yX11_canHear yX11_canHear ∈ ru_T := ru_in 3 105 (by decide +kernel)
set_option maxRecDepth 20000 in
theorem tw_3_106 : Cond.code yX11_canHear cX11_canHear 4 (some .int) ∈ ru_T := ru_inc 3 106 rfl rfl
theorem mT_X11_canHear : ∀ w ∈ wsX11_canHear, w ∈ ru_T := ru_gc tw_3_106
set_option maxRecDepth 20000 in
theorem tw_6_200 : Cond.methodLink RL 65 yX12_canHear ∈ ru_T := ru_in 6 200 (by decide +kernel)
set_option maxRecDepth 20000 in
theorem tw_6_201 : Cond.instanceMethod yX12_canHear ∈ ru_T := ru_in 6 201 (by decide +kernel)
set_option maxRecDepth 20000 in
theorem tw_6_202 : Cond.selects RX12 yX12_canHear yX12_canHear ∈ ru_T := ru_in 6 202 (by decide +kernel)
set_option maxRecDepth 20000 in
theorem tw_6_203 : Cond.code yX12_canHear cX12_canHear 10 (some .int) ∈ ru_T := ru_inc 6 203 rfl rfl
theorem mT_X12_canHear : ∀ w ∈ wsX12_canHear, w ∈ ru_T := ru_gc tw_6_203
set_option maxRecDepth 20000 in
theorem tw_3_128 : Cond.methodLink RL 66 yX11_part ∈ ru_T := ru_in 3 128 (by decide +kernel)
set_option maxRecDepth 20000 in
theorem tw_3_129 : Cond.instanceMethod yX11_part ∈ ru_T := ru_in 3 129 (by decide +kernel)
set_option maxRecDepth 20000 in
theorem tw_3_130 : Cond.selects RX11 yX11_part yX11_part ∈ ru_T := ru_in 3 130 (by decide +kernel)
set_option maxRecDepth 20000 in
theorem tw_3_131 : Cond.code yX11_part cX11_part 6 (some .int) ∈ ru_T := ru_inc 3 131 rfl rfl
theorem mT_X11_part : ∀ w ∈ wsX11_part, w ∈ ru_T := ru_gc tw_3_131
set_option maxRecDepth 20000 in
theorem tw_6_214 : Cond.methodLink RL 70 yX12_part ∈ ru_T := ru_in 6 214 (by decide +kernel)
set_option maxRecDepth 20000 in
theorem tw_6_215 : Cond.instanceMethod yX12_part ∈ ru_T := ru_in 6 215 (by decide +kernel)
set_option maxRecDepth 20000 in
theorem tw_6_216 : Cond.selects RX12 yX12_part yX12_part ∈ ru_T := ru_in 6 216 (by decide +kernel)
set_option maxRecDepth 20000 in
theorem tw_6_217 : Cond.code yX12_part cX12_part 6 (some .int) ∈ ru_T := ru_inc 6 217 rfl rfl
theorem mT_X12_part : ∀ w ∈ wsX12_part, w ∈ ru_T := ru_gc tw_6_217
set_option maxRecDepth 20000 in
theorem tw_3_137 : Cond.methodLink RL 71 yX11_word ∈ ru_T := ru_in 3 137 (by decide +kernel)
set_option maxRecDepth 20000 in
theorem tw_3_138 : Cond.instanceMethod yX11_word ∈ ru_T := ru_in 3 138 (by decide +kernel)
set_option maxRecDepth 20000 in
theorem tw_3_139 : Cond.selects RX11 yX11_word yX11_word ∈ ru_T := ru_in 3 139 (by decide +kernel)
set_option maxRecDepth 20000 in
theorem tw_3_140 : Cond.code yX11_word cX11_word 3 (some .int) ∈ ru_T := ru_inc 3 140 rfl rfl
theorem mT_X11_word : ∀ w ∈ wsX11_word, w ∈ ru_T := ru_gc tw_3_140
set_option maxRecDepth 20000 in
theorem tw_6_219 : Cond.methodLink RL 74 yX12_word ∈ ru_T := ru_in 6 219 (by decide +kernel)
set_option maxRecDepth 20000 in
theorem tw_6_220 : Cond.instanceMethod yX12_word ∈ ru_T := ru_in 6 220 (by decide +kernel)
set_option maxRecDepth 20000 in
theorem tw_6_221 : Cond.selects RX12 yX12_word yX12_word ∈ ru_T := ru_in 6 221 (by decide +kernel)
set_option maxRecDepth 20000 in
theorem tw_6_222 : Cond.code yX12_word cX12_word 6 (some .int) ∈ ru_T := ru_inc 6 222 rfl rfl
theorem mT_X12_word : ∀ w ∈ wsX12_word, w ∈ ru_T := ru_gc tw_6_222
set_option maxRecDepth 20000 in
theorem tw_3_149 : Cond.methodLink RL 75 yX11_isTrue ∈ ru_T := ru_in 3 149 (by decide +kernel)
set_option maxRecDepth 20000 in
theorem tw_3_150 : Cond.instanceMethod yX11_isTrue ∈ ru_T := ru_in 3 150 (by decide +kernel)
set_option maxRecDepth 20000 in
theorem tw_3_151 : Cond.selects RX11 yX11_isTrue yX11_isTrue ∈ ru_T := ru_in 3 151 (by decide +kernel)
set_option maxRecDepth 20000 in
theorem tw_3_152 : Cond.code yX11_isTrue cX11_isTrue 2 (some .int) ∈ ru_T := ru_inc 3 152 rfl rfl
theorem mT_X11_isTrue : ∀ w ∈ wsX11_isTrue, w ∈ ru_T := ru_gc tw_3_152
set_option maxRecDepth 20000 in
theorem tw_6_227 : Cond.methodLink RL 78 yX12_isTrue ∈ ru_T := ru_in 6 227 (by decide +kernel)
set_option maxRecDepth 20000 in
theorem tw_6_228 : Cond.instanceMethod yX12_isTrue ∈ ru_T := ru_in 6 228 (by decide +kernel)
set_option maxRecDepth 20000 in
theorem tw_6_229 : Cond.selects RX12 yX12_isTrue yX12_isTrue ∈ ru_T := ru_in 6 229 (by decide +kernel)
set_option maxRecDepth 20000 in
theorem tw_6_230 : Cond.code yX12_isTrue cX12_isTrue 5 (some .int) ∈ ru_T := ru_inc 6 230 rfl rfl
theorem mT_X12_isTrue : ∀ w ∈ wsX12_isTrue, w ∈ ru_T := ru_gc tw_6_230
set_option maxRecDepth 20000 in
theorem tw_3_157 : Cond.methodLink RL 79 yX11_lane ∈ ru_T := ru_in 3 157 (by decide +kernel)
set_option maxRecDepth 20000 in
theorem tw_3_158 : Cond.instanceMethod yX11_lane ∈ ru_T := ru_in 3 158 (by decide +kernel)
set_option maxRecDepth 20000 in
theorem tw_3_159 : Cond.selects RX11 yX11_lane yX11_lane ∈ ru_T := ru_in 3 159 (by decide +kernel)
set_option maxRecDepth 20000 in
theorem tw_3_160 : Cond.code yX11_lane cX11_lane 3 (some .int) ∈ ru_T := ru_inc 3 160 rfl rfl
theorem mT_X11_lane : ∀ w ∈ wsX11_lane, w ∈ ru_T := ru_gc tw_3_160
set_option maxRecDepth 20000 in
theorem tw_6_231 : Cond.methodLink RL 83 yX12_lane ∈ ru_T := ru_in 6 231 (by decide +kernel)
set_option maxRecDepth 20000 in
theorem tw_6_232 : Cond.instanceMethod yX12_lane ∈ ru_T := ru_in 6 232 (by decide +kernel)
set_option maxRecDepth 20000 in
theorem tw_6_233 : Cond.selects RX12 yX12_lane yX12_lane ∈ ru_T := ru_in 6 233 (by decide +kernel)
set_option maxRecDepth 20000 in
theorem tw_6_234 : Cond.code yX12_lane cX12_lane 3 (some .int) ∈ ru_T := ru_inc 6 234 rfl rfl
theorem mT_X12_lane : ∀ w ∈ wsX12_lane, w ∈ ru_T := ru_gc tw_6_234
set_option maxRecDepth 20000 in
theorem tw_3_165 : Cond.methodLink RL 84 yX11_flown ∈ ru_T := ru_in 3 165 (by decide +kernel)
set_option maxRecDepth 20000 in
theorem tw_3_166 : Cond.instanceMethod yX11_flown ∈ ru_T := ru_in 3 166 (by decide +kernel)
set_option maxRecDepth 20000 in
theorem tw_3_167 : Cond.selects RX11 yX11_flown yX11_flown ∈ ru_T := ru_in 3 167 (by decide +kernel)
set_option maxRecDepth 20000 in
theorem tw_3_168 : Cond.code yX11_flown cX11_flown 5 (some .int) ∈ ru_T := ru_inc 3 168 rfl rfl
theorem mT_X11_flown : ∀ w ∈ wsX11_flown, w ∈ ru_T := ru_gc tw_3_168
set_option maxRecDepth 20000 in
theorem tw_6_235 : Cond.methodLink RL 87 yX12_flown ∈ ru_T := ru_in 6 235 (by decide +kernel)
set_option maxRecDepth 20000 in
theorem tw_6_236 : Cond.instanceMethod yX12_flown ∈ ru_T := ru_in 6 236 (by decide +kernel)
set_option maxRecDepth 20000 in
theorem tw_6_237 : Cond.selects RX12 yX12_flown yX12_flown ∈ ru_T := ru_in 6 237 (by decide +kernel)
set_option maxRecDepth 20000 in
theorem tw_6_238 : Cond.code yX12_flown cX12_flown 4 (some .int) ∈ ru_T := ru_inc 6 238 rfl rfl
theorem mT_X12_flown : ∀ w ∈ wsX12_flown, w ∈ ru_T := ru_gc tw_6_238
set_option maxRecDepth 20000 in
theorem tw_3_183 : Cond.methodLink RL 88 yX11_share ∈ ru_T := ru_in 3 183 (by decide +kernel)
set_option maxRecDepth 20000 in
theorem tw_3_184 : Cond.instanceMethod yX11_share ∈ ru_T := ru_in 3 184 (by decide +kernel)
set_option maxRecDepth 20000 in
theorem tw_3_185 : Cond.selects RX11 yX11_share yX11_share ∈ ru_T := ru_in 3 185 (by decide +kernel)
set_option maxRecDepth 20000 in
theorem tw_3_186 : Cond.code yX11_share cX11_share 5 (some .long) ∈ ru_T := ru_inc 3 186 rfl rfl
theorem mT_X11_share : ∀ w ∈ wsX11_share, w ∈ ru_T := ru_gc tw_3_186
set_option maxRecDepth 20000 in
theorem tw_7_7 : Cond.methodLink RL 91 yX12_share ∈ ru_T := ru_in 7 7 (by decide +kernel)
set_option maxRecDepth 20000 in
theorem tw_7_8 : Cond.instanceMethod yX12_share ∈ ru_T := ru_in 7 8 (by decide +kernel)
set_option maxRecDepth 20000 in
theorem tw_7_9 : Cond.selects RX12 yX12_share yX12_share ∈ ru_T := ru_in 7 9 (by decide +kernel)
set_option maxRecDepth 20000 in
theorem tw_7_10 : Cond.code yX12_share cX12_share 6 (some .long) ∈ ru_T := ru_inc 7 10 rfl rfl
theorem mT_X12_share : ∀ w ∈ wsX12_share, w ∈ ru_T := ru_gc tw_7_10
set_option maxRecDepth 20000 in
theorem tw_3_209 : Cond.methodLink RL 92 yX11_parted ∈ ru_T := ru_in 3 209 (by decide +kernel)
set_option maxRecDepth 20000 in
theorem tw_3_210 : Cond.instanceMethod yX11_parted ∈ ru_T := ru_in 3 210 (by decide +kernel)
set_option maxRecDepth 20000 in
theorem tw_3_211 : Cond.selects RX11 yX11_parted yX11_parted ∈ ru_T := ru_in 3 211 (by decide +kernel)
set_option maxRecDepth 20000 in
theorem tw_3_212 : Cond.code yX11_parted cX11_parted 7 (some .int) ∈ ru_T := ru_inc 3 212 rfl rfl
theorem mT_X11_parted : ∀ w ∈ wsX11_parted, w ∈ ru_T := ru_gc tw_3_212
set_option maxRecDepth 20000 in
theorem tw_7_19 : Cond.methodLink RL 95 yX12_parted ∈ ru_T := ru_in 7 19 (by decide +kernel)
set_option maxRecDepth 20000 in
theorem tw_7_20 : Cond.instanceMethod yX12_parted ∈ ru_T := ru_in 7 20 (by decide +kernel)
set_option maxRecDepth 20000 in
theorem tw_7_21 : Cond.selects RX12 yX12_parted yX12_parted ∈ ru_T := ru_in 7 21 (by decide +kernel)
set_option maxRecDepth 20000 in
theorem tw_7_22 : Cond.code yX12_parted cX12_parted 7 (some .int) ∈ ru_T := ru_inc 7 22 rfl rfl
theorem mT_X12_parted : ∀ w ∈ wsX12_parted, w ∈ ru_T := ru_gc tw_7_22
set_option maxRecDepth 20000 in
theorem tw_4_4 : Cond.methodLink RL 96 yX11_stays ∈ ru_T := ru_in 4 4 (by decide +kernel)
set_option maxRecDepth 20000 in
theorem tw_4_5 : Cond.instanceMethod yX11_stays ∈ ru_T := ru_in 4 5 (by decide +kernel)
set_option maxRecDepth 20000 in
theorem tw_4_6 : Cond.selects RX11 yX11_stays yX11_stays ∈ ru_T := ru_in 4 6 (by decide +kernel)
set_option maxRecDepth 20000 in
theorem tw_4_7 : Cond.code yX11_stays cX11_stays 3 (some .int) ∈ ru_T := ru_inc 4 7 rfl rfl
theorem mT_X11_stays : ∀ w ∈ wsX11_stays, w ∈ ru_T := ru_gc tw_4_7
set_option maxRecDepth 20000 in
theorem tw_7_31 : Cond.methodLink RL 99 yX12_stays ∈ ru_T := ru_in 7 31 (by decide +kernel)
set_option maxRecDepth 20000 in
theorem tw_7_32 : Cond.instanceMethod yX12_stays ∈ ru_T := ru_in 7 32 (by decide +kernel)
set_option maxRecDepth 20000 in
theorem tw_7_33 : Cond.selects RX12 yX12_stays yX12_stays ∈ ru_T := ru_in 7 33 (by decide +kernel)
set_option maxRecDepth 20000 in
theorem tw_7_34 : Cond.code yX12_stays cX12_stays 3 (some .int) ∈ ru_T := ru_inc 7 34 rfl rfl
theorem mT_X12_stays : ∀ w ∈ wsX12_stays, w ∈ ru_T := ru_gc tw_7_34
set_option maxRecDepth 20000 in
theorem tw_4_8 : Cond.methodLink RL 100 yX11_comes ∈ ru_T := ru_in 4 8 (by decide +kernel)
set_option maxRecDepth 20000 in
theorem tw_4_9 : Cond.instanceMethod yX11_comes ∈ ru_T := ru_in 4 9 (by decide +kernel)
set_option maxRecDepth 20000 in
theorem tw_4_10 : Cond.selects RX11 yX11_comes yX11_comes ∈ ru_T := ru_in 4 10 (by decide +kernel)
set_option maxRecDepth 20000 in
theorem tw_4_11 : Cond.code yX11_comes cX11_comes 6 (some .int) ∈ ru_T := ru_inc 4 11 rfl rfl
theorem mT_X11_comes : ∀ w ∈ wsX11_comes, w ∈ ru_T := ru_gc tw_4_11
set_option maxRecDepth 20000 in
theorem tw_7_35 : Cond.methodLink RL 103 yX12_comes ∈ ru_T := ru_in 7 35 (by decide +kernel)
set_option maxRecDepth 20000 in
theorem tw_7_36 : Cond.instanceMethod yX12_comes ∈ ru_T := ru_in 7 36 (by decide +kernel)
set_option maxRecDepth 20000 in
theorem tw_7_37 : Cond.selects RX12 yX12_comes yX12_comes ∈ ru_T := ru_in 7 37 (by decide +kernel)
set_option maxRecDepth 20000 in
theorem tw_7_38 : Cond.code yX12_comes cX12_comes 5 (some .int) ∈ ru_T := ru_inc 7 38 rfl rfl
theorem mT_X12_comes : ∀ w ∈ wsX12_comes, w ∈ ru_T := ru_gc tw_7_38
set_option maxRecDepth 20000 in
theorem tw_4_22 : Cond.methodLink RL 104 yX11_last ∈ ru_T := ru_in 4 22 (by decide +kernel)
set_option maxRecDepth 20000 in
theorem tw_4_23 : Cond.instanceMethod yX11_last ∈ ru_T := ru_in 4 23 (by decide +kernel)
set_option maxRecDepth 20000 in
theorem tw_4_24 : Cond.selects RX11 yX11_last yX11_last ∈ ru_T := ru_in 4 24 (by decide +kernel)
set_option maxRecDepth 20000 in
theorem tw_4_25 : Cond.code yX11_last cX11_last 7 (some .int) ∈ ru_T := ru_inc 4 25 rfl rfl
theorem mT_X11_last : ∀ w ∈ wsX11_last, w ∈ ru_T := ru_gc tw_4_25
set_option maxRecDepth 20000 in
theorem tw_7_50 : Cond.methodLink RL 107 yX12_last ∈ ru_T := ru_in 7 50 (by decide +kernel)
set_option maxRecDepth 20000 in
theorem tw_7_51 : Cond.instanceMethod yX12_last ∈ ru_T := ru_in 7 51 (by decide +kernel)
set_option maxRecDepth 20000 in
theorem tw_7_52 : Cond.selects RX12 yX12_last yX12_last ∈ ru_T := ru_in 7 52 (by decide +kernel)
set_option maxRecDepth 20000 in
theorem tw_7_53 : Cond.code yX12_last cX12_last 5 (some .int) ∈ ru_T := ru_inc 7 53 rfl rfl
theorem mT_X12_last : ∀ w ∈ wsX12_last, w ∈ ru_T := ru_gc tw_7_53
set_option maxRecDepth 20000 in
theorem tw_4_26 : Cond.methodLink RL 108 yX11_man ∈ ru_T := ru_in 4 26 (by decide +kernel)
set_option maxRecDepth 20000 in
theorem tw_4_27 : Cond.instanceMethod yX11_man ∈ ru_T := ru_in 4 27 (by decide +kernel)
set_option maxRecDepth 20000 in
theorem tw_4_28 : Cond.selects RX11 yX11_man yX11_man ∈ ru_T := ru_in 4 28 (by decide +kernel)
set_option maxRecDepth 20000 in
theorem tw_4_29 : Cond.code yX11_man cX11_man 5 (some .int) ∈ ru_T := ru_inc 4 29 rfl rfl
theorem mT_X11_man : ∀ w ∈ wsX11_man, w ∈ ru_T := ru_gc tw_4_29
set_option maxRecDepth 20000 in
theorem tw_7_54 : Cond.methodLink RL 111 yX12_man ∈ ru_T := ru_in 7 54 (by decide +kernel)
set_option maxRecDepth 20000 in
theorem tw_7_55 : Cond.instanceMethod yX12_man ∈ ru_T := ru_in 7 55 (by decide +kernel)
set_option maxRecDepth 20000 in
theorem tw_7_56 : Cond.selects RX12 yX12_man yX12_man ∈ ru_T := ru_in 7 56 (by decide +kernel)
set_option maxRecDepth 20000 in
theorem tw_7_57 : Cond.code yX12_man cX12_man 5 (some .int) ∈ ru_T := ru_inc 7 57 rfl rfl
theorem mT_X12_man : ∀ w ∈ wsX12_man, w ∈ ru_T := ru_gc tw_7_57
set_option maxRecDepth 20000 in
theorem tw_4_37 : Cond.methodLink RL 112 yX11_feed ∈ ru_T := ru_in 4 37 (by decide +kernel)
set_option maxRecDepth 20000 in
theorem tw_4_38 : Cond.instanceMethod yX11_feed ∈ ru_T := ru_in 4 38 (by decide +kernel)
set_option maxRecDepth 20000 in
theorem tw_4_39 : Cond.selects RX11 yX11_feed yX11_feed ∈ ru_T := ru_in 4 39 (by decide +kernel)
set_option maxRecDepth 20000 in
theorem tw_4_40 : Cond.code yX11_feed cX11_feed 4 (some .int) ∈ ru_T := ru_inc 4 40 rfl rfl
theorem mT_X11_feed : ∀ w ∈ wsX11_feed, w ∈ ru_T := ru_gc tw_4_40
set_option maxRecDepth 20000 in
theorem tw_7_58 : Cond.methodLink RL 116 yX12_feed ∈ ru_T := ru_in 7 58 (by decide +kernel)
set_option maxRecDepth 20000 in
theorem tw_7_59 : Cond.instanceMethod yX12_feed ∈ ru_T := ru_in 7 59 (by decide +kernel)
set_option maxRecDepth 20000 in
theorem tw_7_60 : Cond.selects RX12 yX12_feed yX12_feed ∈ ru_T := ru_in 7 60 (by decide +kernel)
set_option maxRecDepth 20000 in
theorem tw_7_61 : Cond.code yX12_feed cX12_feed 5 (some .int) ∈ ru_T := ru_inc 7 61 rfl rfl
theorem mT_X12_feed : ∀ w ∈ wsX12_feed, w ∈ ru_T := ru_gc tw_7_61
set_option maxRecDepth 20000 in
theorem tw_4_46 : Cond.methodLink RL 117 yX11_text ∈ ru_T := ru_in 4 46 (by decide +kernel)
set_option maxRecDepth 20000 in
theorem tw_4_47 : Cond.instanceMethod yX11_text ∈ ru_T := ru_in 4 47 (by decide +kernel)
set_option maxRecDepth 20000 in
theorem tw_4_48 : Cond.selects RX11 yX11_text yX11_text ∈ ru_T := ru_in 4 48 (by decide +kernel)
set_option maxRecDepth 20000 in
theorem tw_4_49 : Cond.code yX11_text cX11_text 1 (some .int) ∈ ru_T := ru_inc 4 49 rfl rfl
theorem mT_X11_text : ∀ w ∈ wsX11_text, w ∈ ru_T := ru_gc tw_4_49
set_option maxRecDepth 20000 in
theorem tw_7_63 : Cond.methodLink RL 121 yX12_text ∈ ru_T := ru_in 7 63 (by decide +kernel)
set_option maxRecDepth 20000 in
theorem tw_7_64 : Cond.instanceMethod yX12_text ∈ ru_T := ru_in 7 64 (by decide +kernel)
set_option maxRecDepth 20000 in
theorem tw_7_65 : Cond.selects RX12 yX12_text yX12_text ∈ ru_T := ru_in 7 65 (by decide +kernel)
set_option maxRecDepth 20000 in
theorem tw_7_66 : Cond.code yX12_text cX12_text 4 (some .int) ∈ ru_T := ru_inc 7 66 rfl rfl
theorem mT_X12_text : ∀ w ∈ wsX12_text, w ∈ ru_T := ru_gc tw_7_66
set_option maxRecDepth 20000 in
theorem tw_4_201 : Cond.methodLink RL 122 yX11_force ∈ ru_T := ru_in 4 201 (by decide +kernel)
set_option maxRecDepth 20000 in
theorem tw_4_202 : Cond.instanceMethod yX11_force ∈ ru_T := ru_in 4 202 (by decide +kernel)
set_option maxRecDepth 20000 in
theorem tw_4_203 : Cond.selects RX11 yX11_force yX11_force ∈ ru_T := ru_in 4 203 (by decide +kernel)
set_option maxRecDepth 20000 in
theorem tw_4_204 : Cond.code yX11_force cX11_force 3 (some .int) ∈ ru_T := ru_inc 4 204 rfl rfl
theorem mT_X11_force : ∀ w ∈ wsX11_force, w ∈ ru_T := ru_gc tw_4_204
set_option maxRecDepth 20000 in
theorem tw_7_146 : Cond.methodLink RL 125 yX12_force ∈ ru_T := ru_in 7 146 (by decide +kernel)
set_option maxRecDepth 20000 in
theorem tw_7_147 : Cond.instanceMethod yX12_force ∈ ru_T := ru_in 7 147 (by decide +kernel)
set_option maxRecDepth 20000 in
theorem tw_7_148 : Cond.selects RX12 yX12_force yX12_force ∈ ru_T := ru_in 7 148 (by decide +kernel)
set_option maxRecDepth 20000 in
theorem tw_7_149 : Cond.code yX12_force cX12_force 3 (some .int) ∈ ru_T := ru_inc 7 149 rfl rfl
theorem mT_X12_force : ∀ w ∈ wsX12_force, w ∈ ru_T := ru_gc tw_7_149
set_option maxRecDepth 20000 in
theorem tw_4_205 : Cond.methodLink RL 126 yX11_says ∈ ru_T := ru_in 4 205 (by decide +kernel)
set_option maxRecDepth 20000 in
theorem tw_4_206 : Cond.instanceMethod yX11_says ∈ ru_T := ru_in 4 206 (by decide +kernel)
set_option maxRecDepth 20000 in
theorem tw_4_207 : Cond.selects RX11 yX11_says yX11_says ∈ ru_T := ru_in 4 207 (by decide +kernel)
set_option maxRecDepth 20000 in
theorem tw_4_208 : Cond.code yX11_says cX11_says 7 (some .long) ∈ ru_T := ru_inc 4 208 rfl rfl
theorem mT_X11_says : ∀ w ∈ wsX11_says, w ∈ ru_T := ru_gc tw_4_208
set_option maxRecDepth 20000 in
theorem tw_7_150 : Cond.methodLink RL 129 yX12_says ∈ ru_T := ru_in 7 150 (by decide +kernel)
set_option maxRecDepth 20000 in
theorem tw_7_151 : Cond.instanceMethod yX12_says ∈ ru_T := ru_in 7 151 (by decide +kernel)
set_option maxRecDepth 20000 in
theorem tw_7_152 : Cond.selects RX12 yX12_says yX12_says ∈ ru_T := ru_in 7 152 (by decide +kernel)
set_option maxRecDepth 20000 in
theorem tw_7_153 : Cond.code yX12_says cX12_says 4 (some .long) ∈ ru_T := ru_inc 7 153 rfl rfl
theorem mT_X12_says : ∀ w ∈ wsX12_says, w ∈ ru_T := ru_gc tw_7_153
set_option maxRecDepth 20000 in
theorem tw_4_238 : Cond.methodLink RL 130 yX11_first ∈ ru_T := ru_in 4 238 (by decide +kernel)
set_option maxRecDepth 20000 in
theorem tw_4_239 : Cond.instanceMethod yX11_first ∈ ru_T := ru_in 4 239 (by decide +kernel)
set_option maxRecDepth 20000 in
theorem tw_5_0 : Cond.selects RX11 yX11_first yX11_first ∈ ru_T := ru_in 5 0 (by decide +kernel)
set_option maxRecDepth 20000 in
theorem tw_5_1 : Cond.code yX11_first cX11_first 4 (some .int) ∈ ru_T := ru_inc 5 1 rfl rfl
theorem mT_X11_first : ∀ w ∈ wsX11_first, w ∈ ru_T := ru_gc tw_5_1
set_option maxRecDepth 20000 in
theorem tw_7_162 : Cond.methodLink RL 133 yX12_first ∈ ru_T := ru_in 7 162 (by decide +kernel)
set_option maxRecDepth 20000 in
theorem tw_7_163 : Cond.instanceMethod yX12_first ∈ ru_T := ru_in 7 163 (by decide +kernel)
set_option maxRecDepth 20000 in
theorem tw_7_164 : Cond.selects RX12 yX12_first yX12_first ∈ ru_T := ru_in 7 164 (by decide +kernel)
set_option maxRecDepth 20000 in
theorem tw_7_165 : Cond.code yX12_first cX12_first 6 (some .int) ∈ ru_T := ru_inc 7 165 rfl rfl
theorem mT_X12_first : ∀ w ∈ wsX12_first, w ∈ ru_T := ru_gc tw_7_165
set_option maxRecDepth 20000 in
theorem tw_5_10 : Cond.methodLink RL 134 yX11_story ∈ ru_T := ru_in 5 10 (by decide +kernel)
set_option maxRecDepth 20000 in
theorem tw_5_11 : Cond.instanceMethod yX11_story ∈ ru_T := ru_in 5 11 (by decide +kernel)
set_option maxRecDepth 20000 in
theorem tw_5_12 : Cond.selects RX11 yX11_story yX11_story ∈ ru_T := ru_in 5 12 (by decide +kernel)
set_option maxRecDepth 20000 in
theorem tw_5_13 : Cond.code yX11_story cX11_story 5 (some .int) ∈ ru_T := ru_inc 5 13 rfl rfl
theorem mT_X11_story : ∀ w ∈ wsX11_story, w ∈ ru_T := ru_gc tw_5_13
set_option maxRecDepth 20000 in
theorem tw_7_166 : Cond.methodLink RL 137 yX12_story ∈ ru_T := ru_in 7 166 (by decide +kernel)
set_option maxRecDepth 20000 in
theorem tw_7_167 : Cond.instanceMethod yX12_story ∈ ru_T := ru_in 7 167 (by decide +kernel)
set_option maxRecDepth 20000 in
theorem tw_7_168 : Cond.selects RX12 yX12_story yX12_story ∈ ru_T := ru_in 7 168 (by decide +kernel)
set_option maxRecDepth 20000 in
theorem tw_7_169 : Cond.code yX12_story cX12_story 4 (some .int) ∈ ru_T := ru_inc 7 169 rfl rfl
theorem mT_X12_story : ∀ w ∈ wsX12_story, w ∈ ru_T := ru_gc tw_7_169
set_option maxRecDepth 20000 in
theorem tw_5_18 : Cond.methodLink RL 138 yX11_unfit ∈ ru_T := ru_in 5 18 (by decide +kernel)
set_option maxRecDepth 20000 in
theorem tw_5_19 : Cond.instanceMethod yX11_unfit ∈ ru_T := ru_in 5 19 (by decide +kernel)
set_option maxRecDepth 20000 in
theorem tw_5_20 : Cond.selects RX11 yX11_unfit yX11_unfit ∈ ru_T := ru_in 5 20 (by decide +kernel)
set_option maxRecDepth 20000 in
theorem tw_5_21 : Cond.code yX11_unfit cX11_unfit 4 (some .int) ∈ ru_T := ru_inc 5 21 rfl rfl
theorem mT_X11_unfit : ∀ w ∈ wsX11_unfit, w ∈ ru_T := ru_gc tw_5_21
set_option maxRecDepth 20000 in
theorem tw_7_170 : Cond.methodLink RL 141 yX12_unfit ∈ ru_T := ru_in 7 170 (by decide +kernel)
set_option maxRecDepth 20000 in
theorem tw_7_171 : Cond.instanceMethod yX12_unfit ∈ ru_T := ru_in 7 171 (by decide +kernel)
set_option maxRecDepth 20000 in
theorem tw_7_172 : Cond.selects RX12 yX12_unfit yX12_unfit ∈ ru_T := ru_in 7 172 (by decide +kernel)
set_option maxRecDepth 20000 in
theorem tw_7_173 : Cond.code yX12_unfit cX12_unfit 5 (some .int) ∈ ru_T := ru_inc 7 173 rfl rfl
theorem mT_X12_unfit : ∀ w ∈ wsX12_unfit, w ∈ ru_T := ru_gc tw_7_173
set_option maxRecDepth 20000 in
theorem tw_5_22 : Cond.methodLink RL 142 yX11_clash ∈ ru_T := ru_in 5 22 (by decide +kernel)
set_option maxRecDepth 20000 in
theorem tw_5_23 : Cond.instanceMethod yX11_clash ∈ ru_T := ru_in 5 23 (by decide +kernel)
set_option maxRecDepth 20000 in
theorem tw_5_24 : Cond.selects RX11 yX11_clash yX11_clash ∈ ru_T := ru_in 5 24 (by decide +kernel)
set_option maxRecDepth 20000 in
theorem tw_5_25 : Cond.code yX11_clash cX11_clash 9 (some .int) ∈ ru_T := ru_inc 5 25 rfl rfl
theorem mT_X11_clash : ∀ w ∈ wsX11_clash, w ∈ ru_T := ru_gc tw_5_25
set_option maxRecDepth 20000 in
theorem tw_7_174 : Cond.methodLink RL 145 yX12_clash ∈ ru_T := ru_in 7 174 (by decide +kernel)
set_option maxRecDepth 20000 in
theorem tw_7_175 : Cond.instanceMethod yX12_clash ∈ ru_T := ru_in 7 175 (by decide +kernel)
set_option maxRecDepth 20000 in
theorem tw_7_176 : Cond.selects RX12 yX12_clash yX12_clash ∈ ru_T := ru_in 7 176 (by decide +kernel)
set_option maxRecDepth 20000 in
theorem tw_7_177 : Cond.code yX12_clash cX12_clash 8 (some .int) ∈ ru_T := ru_inc 7 177 rfl rfl
theorem mT_X12_clash : ∀ w ∈ wsX12_clash, w ∈ ru_T := ru_gc tw_7_177
set_option maxRecDepth 20000 in
theorem tw_5_31 : Cond.methodLink RL 146 yX11_row ∈ ru_T := ru_in 5 31 (by decide +kernel)
set_option maxRecDepth 20000 in
theorem tw_5_32 : Cond.instanceMethod yX11_row ∈ ru_T := ru_in 5 32 (by decide +kernel)
set_option maxRecDepth 20000 in
theorem tw_5_33 : Cond.selects RX11 yX11_row yX11_row ∈ ru_T := ru_in 5 33 (by decide +kernel)
set_option maxRecDepth 20000 in
theorem tw_5_34 : Cond.code yX11_row cX11_row 3 (some .int) ∈ ru_T := ru_inc 5 34 rfl rfl
theorem mT_X11_row : ∀ w ∈ wsX11_row, w ∈ ru_T := ru_gc tw_5_34
set_option maxRecDepth 20000 in
theorem tw_7_182 : Cond.methodLink RL 149 yX12_row ∈ ru_T := ru_in 7 182 (by decide +kernel)
set_option maxRecDepth 20000 in
theorem tw_7_183 : Cond.instanceMethod yX12_row ∈ ru_T := ru_in 7 183 (by decide +kernel)
set_option maxRecDepth 20000 in
theorem tw_7_184 : Cond.selects RX12 yX12_row yX12_row ∈ ru_T := ru_in 7 184 (by decide +kernel)
set_option maxRecDepth 20000 in
theorem tw_7_185 : Cond.code yX12_row cX12_row 6 (some .int) ∈ ru_T := ru_inc 7 185 rfl rfl
theorem mT_X12_row : ∀ w ∈ wsX12_row, w ∈ ru_T := ru_gc tw_7_185
set_option maxRecDepth 20000 in
theorem tw_5_41 : Cond.methodLink RL 150 yX11_days ∈ ru_T := ru_in 5 41 (by decide +kernel)
set_option maxRecDepth 20000 in
theorem tw_5_42 : Cond.instanceMethod yX11_days ∈ ru_T := ru_in 5 42 (by decide +kernel)
set_option maxRecDepth 20000 in
theorem tw_5_43 : Cond.selects RX11 yX11_days yX11_days ∈ ru_T := ru_in 5 43 (by decide +kernel)
set_option maxRecDepth 20000 in
theorem tw_5_44 : Cond.code yX11_days cX11_days 4 (some .int) ∈ ru_T := ru_inc 5 44 rfl rfl
theorem mT_X11_days : ∀ w ∈ wsX11_days, w ∈ ru_T := ru_gc tw_5_44
set_option maxRecDepth 20000 in
theorem tw_7_188 : Cond.methodLink RL 153 yX12_days ∈ ru_T := ru_in 7 188 (by decide +kernel)
set_option maxRecDepth 20000 in
theorem tw_7_189 : Cond.instanceMethod yX12_days ∈ ru_T := ru_in 7 189 (by decide +kernel)
set_option maxRecDepth 20000 in
theorem tw_7_190 : Cond.selects RX12 yX12_days yX12_days ∈ ru_T := ru_in 7 190 (by decide +kernel)
set_option maxRecDepth 20000 in
theorem tw_7_191 : Cond.code yX12_days cX12_days 11 (some .int) ∈ ru_T := ru_inc 7 191 rfl rfl
theorem mT_X12_days : ∀ w ∈ wsX12_days, w ∈ ru_T := ru_gc tw_7_191
set_option maxRecDepth 20000 in
theorem tw_5_65 : Cond.methodLink RL 154 yX11_count ∈ ru_T := ru_in 5 65 (by decide +kernel)
set_option maxRecDepth 20000 in
theorem tw_5_66 : Cond.instanceMethod yX11_count ∈ ru_T := ru_in 5 66 (by decide +kernel)
set_option maxRecDepth 20000 in
theorem tw_5_67 : Cond.selects RX11 yX11_count yX11_count ∈ ru_T := ru_in 5 67 (by decide +kernel)
set_option maxRecDepth 20000 in
theorem tw_5_68 : Cond.code yX11_count cX11_count 2 (some .int) ∈ ru_T := ru_inc 5 68 rfl rfl
theorem mT_X11_count : ∀ w ∈ wsX11_count, w ∈ ru_T := ru_gc tw_5_68
set_option maxRecDepth 20000 in
theorem tw_7_196 : Cond.methodLink RL 157 yX12_count ∈ ru_T := ru_in 7 196 (by decide +kernel)
set_option maxRecDepth 20000 in
theorem tw_7_197 : Cond.instanceMethod yX12_count ∈ ru_T := ru_in 7 197 (by decide +kernel)
set_option maxRecDepth 20000 in
theorem tw_7_198 : Cond.selects RX12 yX12_count yX12_count ∈ ru_T := ru_in 7 198 (by decide +kernel)
set_option maxRecDepth 20000 in
theorem tw_7_199 : Cond.code yX12_count cX12_count 2 (some .int) ∈ ru_T := ru_inc 7 199 rfl rfl
theorem mT_X12_count : ∀ w ∈ wsX12_count, w ∈ ru_T := ru_gc tw_7_199
set_option maxRecDepth 20000 in
theorem tw_5_69 : Cond.methodLink RL 158 yX11_sheet ∈ ru_T := ru_in 5 69 (by decide +kernel)
set_option maxRecDepth 20000 in
theorem tw_5_70 : Cond.instanceMethod yX11_sheet ∈ ru_T := ru_in 5 70 (by decide +kernel)
set_option maxRecDepth 20000 in
theorem tw_5_71 : Cond.selects RX11 yX11_sheet yX11_sheet ∈ ru_T := ru_in 5 71 (by decide +kernel)
set_option maxRecDepth 20000 in
theorem tw_5_72 : Cond.code yX11_sheet cX11_sheet 5 (some .int) ∈ ru_T := ru_inc 5 72 rfl rfl
theorem mT_X11_sheet : ∀ w ∈ wsX11_sheet, w ∈ ru_T := ru_gc tw_5_72
set_option maxRecDepth 20000 in
theorem tw_7_200 : Cond.methodLink RL 161 yX12_sheet ∈ ru_T := ru_in 7 200 (by decide +kernel)
set_option maxRecDepth 20000 in
theorem tw_7_201 : Cond.instanceMethod yX12_sheet ∈ ru_T := ru_in 7 201 (by decide +kernel)
set_option maxRecDepth 20000 in
theorem tw_7_202 : Cond.selects RX12 yX12_sheet yX12_sheet ∈ ru_T := ru_in 7 202 (by decide +kernel)
set_option maxRecDepth 20000 in
theorem tw_7_203 : Cond.code yX12_sheet cX12_sheet 5 (some .int) ∈ ru_T := ru_inc 7 203 rfl rfl
theorem mT_X12_sheet : ∀ w ∈ wsX12_sheet, w ∈ ru_T := ru_gc tw_7_203
set_option maxRecDepth 20000 in
theorem tw_5_81 : Cond.methodLink RL 162 yX11_cell ∈ ru_T := ru_in 5 81 (by decide +kernel)
set_option maxRecDepth 20000 in
theorem tw_5_82 : Cond.instanceMethod yX11_cell ∈ ru_T := ru_in 5 82 (by decide +kernel)
set_option maxRecDepth 20000 in
theorem tw_5_83 : Cond.selects RX11 yX11_cell yX11_cell ∈ ru_T := ru_in 5 83 (by decide +kernel)
set_option maxRecDepth 20000 in
theorem tw_5_84 : Cond.code yX11_cell cX11_cell 5 (some .int) ∈ ru_T := ru_inc 5 84 rfl rfl
theorem mT_X11_cell : ∀ w ∈ wsX11_cell, w ∈ ru_T := ru_gc tw_5_84
set_option maxRecDepth 20000 in
theorem tw_7_207 : Cond.methodLink RL 165 yX12_cell ∈ ru_T := ru_in 7 207 (by decide +kernel)
set_option maxRecDepth 20000 in
theorem tw_7_208 : Cond.instanceMethod yX12_cell ∈ ru_T := ru_in 7 208 (by decide +kernel)
set_option maxRecDepth 20000 in
theorem tw_7_209 : Cond.selects RX12 yX12_cell yX12_cell ∈ ru_T := ru_in 7 209 (by decide +kernel)
set_option maxRecDepth 20000 in
theorem tw_7_210 : Cond.code yX12_cell cX12_cell 4 (some .int) ∈ ru_T := ru_inc 7 210 rfl rfl
theorem mT_X12_cell : ∀ w ∈ wsX12_cell, w ∈ ru_T := ru_gc tw_7_210
set_option maxRecDepth 20000 in
theorem tw_5_93 : Cond.methodLink RL 166 yX11_copy ∈ ru_T := ru_in 5 93 (by decide +kernel)
set_option maxRecDepth 20000 in
theorem tw_5_94 : Cond.instanceMethod yX11_copy ∈ ru_T := ru_in 5 94 (by decide +kernel)
set_option maxRecDepth 20000 in
theorem tw_5_95 : Cond.selects RX11 yX11_copy yX11_copy ∈ ru_T := ru_in 5 95 (by decide +kernel)
set_option maxRecDepth 20000 in
theorem tw_5_96 : Cond.code yX11_copy cX11_copy 8 (some .int) ∈ ru_T := ru_inc 5 96 rfl rfl
theorem mT_X11_copy : ∀ w ∈ wsX11_copy, w ∈ ru_T := ru_gc tw_5_96
set_option maxRecDepth 20000 in
theorem tw_7_215 : Cond.methodLink RL 169 yX12_copy ∈ ru_T := ru_in 7 215 (by decide +kernel)
set_option maxRecDepth 20000 in
theorem tw_7_216 : Cond.instanceMethod yX12_copy ∈ ru_T := ru_in 7 216 (by decide +kernel)
set_option maxRecDepth 20000 in
theorem tw_7_217 : Cond.selects RX12 yX12_copy yX12_copy ∈ ru_T := ru_in 7 217 (by decide +kernel)
set_option maxRecDepth 20000 in
theorem tw_7_218 : Cond.code yX12_copy cX12_copy 7 (some .int) ∈ ru_T := ru_inc 7 218 rfl rfl
theorem mT_X12_copy : ∀ w ∈ wsX12_copy, w ∈ ru_T := ru_gc tw_7_218
set_option maxRecDepth 20000 in
theorem tw_5_102 : Cond.methodLink RL 170 yX11_fixes ∈ ru_T := ru_in 5 102 (by decide +kernel)
set_option maxRecDepth 20000 in
theorem tw_5_103 : Cond.instanceMethod yX11_fixes ∈ ru_T := ru_in 5 103 (by decide +kernel)
set_option maxRecDepth 20000 in
theorem tw_5_104 : Cond.selects RX11 yX11_fixes yX11_fixes ∈ ru_T := ru_in 5 104 (by decide +kernel)
set_option maxRecDepth 20000 in
theorem tw_5_105 : Cond.code yX11_fixes cX11_fixes 12 (some .int) ∈ ru_T := ru_inc 5 105 rfl rfl
theorem mT_X11_fixes : ∀ w ∈ wsX11_fixes, w ∈ ru_T := ru_gc tw_5_105
set_option maxRecDepth 20000 in
theorem tw_7_219 : Cond.methodLink RL 173 yX12_fixes ∈ ru_T := ru_in 7 219 (by decide +kernel)
set_option maxRecDepth 20000 in
theorem tw_7_220 : Cond.instanceMethod yX12_fixes ∈ ru_T := ru_in 7 220 (by decide +kernel)
set_option maxRecDepth 20000 in
theorem tw_7_221 : Cond.selects RX12 yX12_fixes yX12_fixes ∈ ru_T := ru_in 7 221 (by decide +kernel)
set_option maxRecDepth 20000 in
theorem tw_7_222 : Cond.code yX12_fixes cX12_fixes 12 (some .int) ∈ ru_T := ru_inc 7 222 rfl rfl
theorem mT_X12_fixes : ∀ w ∈ wsX12_fixes, w ∈ ru_T := ru_gc tw_7_222
set_option maxRecDepth 20000 in
theorem tw_5_107 : Cond.methodLink RL 174 yX11_taken ∈ ru_T := ru_in 5 107 (by decide +kernel)
set_option maxRecDepth 20000 in
theorem tw_5_108 : Cond.instanceMethod yX11_taken ∈ ru_T := ru_in 5 108 (by decide +kernel)
set_option maxRecDepth 20000 in
theorem tw_5_109 : Cond.selects RX11 yX11_taken yX11_taken ∈ ru_T := ru_in 5 109 (by decide +kernel)
set_option maxRecDepth 20000 in
theorem tw_5_110 : Cond.code yX11_taken cX11_taken 4 (some .int) ∈ ru_T := ru_inc 5 110 rfl rfl
theorem mT_X11_taken : ∀ w ∈ wsX11_taken, w ∈ ru_T := ru_gc tw_5_110
set_option maxRecDepth 20000 in
theorem tw_7_224 : Cond.methodLink RL 177 yX12_taken ∈ ru_T := ru_in 7 224 (by decide +kernel)
set_option maxRecDepth 20000 in
theorem tw_7_225 : Cond.instanceMethod yX12_taken ∈ ru_T := ru_in 7 225 (by decide +kernel)
set_option maxRecDepth 20000 in
theorem tw_7_226 : Cond.selects RX12 yX12_taken yX12_taken ∈ ru_T := ru_in 7 226 (by decide +kernel)
set_option maxRecDepth 20000 in
theorem tw_7_227 : Cond.code yX12_taken cX12_taken 3 (some .int) ∈ ru_T := ru_inc 7 227 rfl rfl
theorem mT_X12_taken : ∀ w ∈ wsX12_taken, w ∈ ru_T := ru_gc tw_7_227
set_option maxRecDepth 20000 in
theorem tw_5_116 : Cond.methodLink RX12 1 objectInit ∈ ru_T := ru_in 5 116 (by decide +kernel)
set_option maxRecDepth 20000 in
theorem tw_1_25 : Cond.code yX11_init cX11_init 2 none ∈ ru_T := ru_inc 1 25 rfl rfl
theorem mT_X11_init : ∀ w ∈ wsX11_init, w ∈ ru_T := ru_gc tw_1_25
set_option maxRecDepth 20000 in
theorem tw_5_115 : Cond.code yX12_init cX12_init 3 none ∈ ru_T := ru_inc 5 115 rfl rfl
theorem mT_X12_init : ∀ w ∈ wsX12_init, w ∈ ru_T := ru_gc tw_5_115
