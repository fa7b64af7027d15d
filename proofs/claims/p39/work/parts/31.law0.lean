theorem ck_L_law_12_31law0 : ((cL_law.data.toList).drop 192).take 16 = [0, 0, 6, 169, 0, 0, 6, 232, 43, 42, 29, 4, 96, 46, 182, 0] := by decide +kernel
theorem ck_L_law_13_31law0 : ((cL_law.data.toList).drop 208).take 16 = [13, 87, 44, 42, 29, 4, 96, 46, 182, 0, 17, 87, 167, 6, 78, 43] := by decide +kernel
theorem ck_L_law_14_31law0 : ((cL_law.data.toList).drop 224).take 16 = [42, 29, 4, 96, 46, 42, 29, 5, 96, 46, 42, 29, 6, 96, 46, 182] := by decide +kernel
theorem ck_L_law_15_31law0 : ((cL_law.data.toList).drop 240).take 16 = [0, 18, 87, 44, 42, 29, 4, 96, 46, 42, 29, 5, 96, 46, 42, 29] := by decide +kernel
theorem ck_L_law_16_31law0 : ((cL_law.data.toList).drop 256).take 16 = [6, 96, 46, 182, 0, 22, 87, 167, 6, 35, 43, 42, 29, 4, 96, 46] := by decide +kernel
theorem ck_L_law_17_31law0 : ((cL_law.data.toList).drop 272).take 16 = [42, 29, 5, 96, 46, 42, 29, 6, 96, 46, 182, 0, 23, 87, 44, 42] := by decide +kernel
theorem ck_L_law_18_31law0 : ((cL_law.data.toList).drop 288).take 16 = [29, 4, 96, 46, 42, 29, 5, 96, 46, 42, 29, 6, 96, 46, 182, 0] := by decide +kernel
theorem ck_L_law_19_31law0 : ((cL_law.data.toList).drop 304).take 16 = [26, 87, 167, 5, 248, 43, 42, 29, 4, 96, 46, 42, 29, 5, 96, 46] := by decide +kernel
theorem ck_L_law_20_31law0 : ((cL_law.data.toList).drop 320).take 16 = [42, 29, 6, 96, 46, 42, 29, 7, 96, 46, 42, 29, 8, 96, 46, 182] := by decide +kernel
theorem ck_L_law_21_31law0 : ((cL_law.data.toList).drop 336).take 16 = [0, 27, 87, 44, 42, 29, 4, 96, 46, 42, 29, 5, 96, 46, 42, 29] := by decide +kernel
theorem ck_L_law_22_31law0 : ((cL_law.data.toList).drop 352).take 16 = [6, 96, 46, 42, 29, 7, 96, 46, 42, 29, 8, 96, 46, 182, 0, 31] := by decide +kernel
theorem ck_L_law_23_31law0 : ((cL_law.data.toList).drop 368).take 16 = [87, 167, 5, 185, 43, 42, 29, 4, 96, 46, 42, 29, 5, 96, 46, 182] := by decide +kernel
theorem ck_L_law_24_31law0 : ((cL_law.data.toList).drop 384).take 16 = [0, 32, 87, 44, 42, 29, 4, 96, 46, 42, 29, 5, 96, 46, 182, 0] := by decide +kernel
theorem ck_L_law_25_31law0 : ((cL_law.data.toList).drop 400).take 16 = [36, 87, 167, 5, 152, 43, 42, 29, 4, 96, 46, 42, 29, 5, 96, 46] := by decide +kernel
theorem ck_L_law_26_31law0 : ((cL_law.data.toList).drop 416).take 16 = [42, 29, 6, 96, 46, 182, 0, 37, 88, 44, 42, 29, 4, 96, 46, 42] := by decide +kernel
theorem ck_L_law_27_31law0 : ((cL_law.data.toList).drop 432).take 16 = [29, 5, 96, 46, 42, 29, 6, 96, 46, 182, 0, 41, 88, 167, 5, 109] := by decide +kernel
theorem ck_L_law_28_31law0 : ((cL_law.data.toList).drop 448).take 16 = [43, 42, 29, 4, 96, 46, 42, 29, 5, 96, 46, 42, 29, 6, 96, 46] := by decide +kernel
theorem ck_L_law_29_31law0 : ((cL_law.data.toList).drop 464).take 16 = [133, 16, 32, 121, 42, 29, 7, 96, 46, 133, 20, 0, 42, 127, 129, 182] := by decide +kernel
theorem ck_L_law_30_31law0 : ((cL_law.data.toList).drop 480).take 16 = [0, 44, 87, 44, 42, 29, 4, 96, 46, 42, 29, 5, 96, 46, 42, 29] := by decide +kernel
theorem ck_L_law_31_31law0 : ((cL_law.data.toList).drop 496).take 16 = [6, 96, 46, 133, 16, 32, 121, 42, 29, 7, 96, 46, 133, 20, 0, 42] := by decide +kernel
theorem ck_L_law_32_31law0 : ((cL_law.data.toList).drop 512).take 16 = [127, 129, 182, 0, 48, 87, 167, 5, 36, 43, 42, 29, 4, 96, 46, 182] := by decide +kernel
theorem ck_L_law_33_31law0 : ((cL_law.data.toList).drop 528).take 16 = [0, 49, 87, 44, 42, 29, 4, 96, 46, 182, 0, 52, 87, 167, 5, 13] := by decide +kernel
theorem ck_L_law_34_31law0 : ((cL_law.data.toList).drop 544).take 16 = [43, 42, 29, 4, 96, 46, 42, 29, 5, 96, 46, 42, 29, 6, 96, 46] := by decide +kernel
theorem ck_L_law_35_31law0 : ((cL_law.data.toList).drop 560).take 16 = [42, 29, 7, 96, 46, 182, 0, 53, 87, 44, 42, 29, 4, 96, 46, 42] := by decide +kernel
theorem ck_L_law_36_31law0 : ((cL_law.data.toList).drop 576).take 16 = [29, 5, 96, 46, 42, 29, 6, 96, 46, 42, 29, 7, 96, 46, 182, 0] := by decide +kernel
theorem ck_L_law_37_31law0 : ((cL_law.data.toList).drop 592).take 16 = [57, 87, 167, 4, 216, 43, 42, 29, 4, 96, 46, 42, 29, 5, 96, 46] := by decide +kernel
theorem ck_L_law_38_31law0 : ((cL_law.data.toList).drop 608).take 16 = [42, 29, 6, 96, 46, 133, 16, 32, 121, 42, 29, 7, 96, 46, 133, 20] := by decide +kernel
theorem ck_L_law_39_31law0 : ((cL_law.data.toList).drop 624).take 16 = [0, 42, 127, 129, 182, 0, 58, 87, 44, 42, 29, 4, 96, 46, 42, 29] := by decide +kernel
theorem ck_L_law_40_31law0 : ((cL_law.data.toList).drop 640).take 16 = [5, 96, 46, 42, 29, 6, 96, 46, 133, 16, 32, 121, 42, 29, 7, 96] := by decide +kernel
theorem ck_L_law_41_31law0 : ((cL_law.data.toList).drop 656).take 16 = [46, 133, 20, 0, 42, 127, 129, 182, 0, 61, 87, 167, 4, 143, 43, 42] := by decide +kernel
theorem dL_law_200 : decode cL_law 200 = .ok (.aload_n 1, 1) := dk_0 (dk_k43 200) (dk_by (j := 8) rfl ck_L_law_12_31law0 rfl rfl rfl)
theorem dL_law_201 : decode cL_law 201 = .ok (.aload_n 0, 1) := dk_0 (dk_k42 201) (dk_by (j := 9) rfl ck_L_law_12_31law0 rfl rfl rfl)
theorem dL_law_202 : decode cL_law 202 = .ok (.iload_n 3, 1) := dk_0 (dk_k29 202) (dk_by (j := 10) rfl ck_L_law_12_31law0 rfl rfl rfl)
theorem dL_law_203 : decode cL_law 203 = .ok (.iconst 1, 1) := dk_0 (dk_k4 203) (dk_by (j := 11) rfl ck_L_law_12_31law0 rfl rfl rfl)
theorem dL_law_204 : decode cL_law 204 = .ok (.iadd, 1) := dk_0 (dk_k96 204) (dk_by (j := 12) rfl ck_L_law_12_31law0 rfl rfl rfl)
theorem dL_law_205 : decode cL_law 205 = .ok (.iaload, 1) := dk_0 (dk_k46 205) (dk_by (j := 13) rfl ck_L_law_12_31law0 rfl rfl rfl)
theorem gL_law_X11_pass : GoodIn lw_tbl (wsV RL 13 RX11 yX11_pass wsX11_pass) := ru_gL (ru_gV tw_2_135 tw_2_136 tw_2_137 tw_1_1 mT_X11_pass)
theorem dL_law_206 : decode cL_law 206 = .ok (.invokevirtual 13, 3) := dk_2 (dk_k182 206) (dk_by (j := 14) rfl ck_L_law_12_31law0 rfl rfl rfl) (dk_by (j := 15) rfl ck_L_law_12_31law0 rfl rfl rfl) (dk_by (j := 0) rfl ck_L_law_13_31law0 rfl rfl rfl) (by decide)
theorem dL_law_209 : decode cL_law 209 = .ok (.pop, 1) := dk_0 (dk_k87 209) (dk_by (j := 1) rfl ck_L_law_13_31law0 rfl rfl rfl)
theorem dL_law_210 : decode cL_law 210 = .ok (.aload_n 2, 1) := dk_0 (dk_k44 210) (dk_by (j := 2) rfl ck_L_law_13_31law0 rfl rfl rfl)
theorem dL_law_211 : decode cL_law 211 = .ok (.aload_n 0, 1) := dk_0 (dk_k42 211) (dk_by (j := 3) rfl ck_L_law_13_31law0 rfl rfl rfl)
theorem dL_law_212 : decode cL_law 212 = .ok (.iload_n 3, 1) := dk_0 (dk_k29 212) (dk_by (j := 4) rfl ck_L_law_13_31law0 rfl rfl rfl)
theorem dL_law_213 : decode cL_law 213 = .ok (.iconst 1, 1) := dk_0 (dk_k4 213) (dk_by (j := 5) rfl ck_L_law_13_31law0 rfl rfl rfl)
theorem dL_law_214 : decode cL_law 214 = .ok (.iadd, 1) := dk_0 (dk_k96 214) (dk_by (j := 6) rfl ck_L_law_13_31law0 rfl rfl rfl)
theorem dL_law_215 : decode cL_law 215 = .ok (.iaload, 1) := dk_0 (dk_k46 215) (dk_by (j := 7) rfl ck_L_law_13_31law0 rfl rfl rfl)
theorem gL_law_X12_pass : GoodIn lw_tbl (wsV RL 17 RX12 yX12_pass wsX12_pass) := ru_gL (ru_gV tw_6_118 tw_6_119 tw_6_120 tw_1_12 mT_X12_pass)
theorem dL_law_216 : decode cL_law 216 = .ok (.invokevirtual 17, 3) := dk_2 (dk_k182 216) (dk_by (j := 8) rfl ck_L_law_13_31law0 rfl rfl rfl) (dk_by (j := 9) rfl ck_L_law_13_31law0 rfl rfl rfl) (dk_by (j := 10) rfl ck_L_law_13_31law0 rfl rfl rfl) (by decide)
theorem dL_law_219 : decode cL_law 219 = .ok (.pop, 1) := dk_0 (dk_k87 219) (dk_by (j := 11) rfl ck_L_law_13_31law0 rfl rfl rfl)
theorem dL_law_220 : decode cL_law 220 = .ok (.goto 1614, 3) := dk_s (dk_k167 220) (dk_by (j := 12) rfl ck_L_law_13_31law0 rfl rfl rfl) (dk_by (j := 13) rfl ck_L_law_13_31law0 rfl rfl rfl) (dk_by (j := 14) rfl ck_L_law_13_31law0 rfl rfl rfl) (by decide)
theorem dL_law_223 : decode cL_law 223 = .ok (.aload_n 1, 1) := dk_0 (dk_k43 223) (dk_by (j := 15) rfl ck_L_law_13_31law0 rfl rfl rfl)
theorem dL_law_224 : decode cL_law 224 = .ok (.aload_n 0, 1) := dk_0 (dk_k42 224) (dk_by (j := 0) rfl ck_L_law_14_31law0 rfl rfl rfl)
theorem dL_law_225 : decode cL_law 225 = .ok (.iload_n 3, 1) := dk_0 (dk_k29 225) (dk_by (j := 1) rfl ck_L_law_14_31law0 rfl rfl rfl)
theorem dL_law_226 : decode cL_law 226 = .ok (.iconst 1, 1) := dk_0 (dk_k4 226) (dk_by (j := 2) rfl ck_L_law_14_31law0 rfl rfl rfl)
theorem dL_law_227 : decode cL_law 227 = .ok (.iadd, 1) := dk_0 (dk_k96 227) (dk_by (j := 3) rfl ck_L_law_14_31law0 rfl rfl rfl)
theorem dL_law_228 : decode cL_law 228 = .ok (.iaload, 1) := dk_0 (dk_k46 228) (dk_by (j := 4) rfl ck_L_law_14_31law0 rfl rfl rfl)
theorem dL_law_229 : decode cL_law 229 = .ok (.aload_n 0, 1) := dk_0 (dk_k42 229) (dk_by (j := 5) rfl ck_L_law_14_31law0 rfl rfl rfl)
theorem dL_law_230 : decode cL_law 230 = .ok (.iload_n 3, 1) := dk_0 (dk_k29 230) (dk_by (j := 6) rfl ck_L_law_14_31law0 rfl rfl rfl)
theorem dL_law_231 : decode cL_law 231 = .ok (.iconst 2, 1) := dk_0 (dk_k5 231) (dk_by (j := 7) rfl ck_L_law_14_31law0 rfl rfl rfl)
theorem dL_law_232 : decode cL_law 232 = .ok (.iadd, 1) := dk_0 (dk_k96 232) (dk_by (j := 8) rfl ck_L_law_14_31law0 rfl rfl rfl)
theorem dL_law_233 : decode cL_law 233 = .ok (.iaload, 1) := dk_0 (dk_k46 233) (dk_by (j := 9) rfl ck_L_law_14_31law0 rfl rfl rfl)
theorem dL_law_234 : decode cL_law 234 = .ok (.aload_n 0, 1) := dk_0 (dk_k42 234) (dk_by (j := 10) rfl ck_L_law_14_31law0 rfl rfl rfl)
theorem dL_law_235 : decode cL_law 235 = .ok (.iload_n 3, 1) := dk_0 (dk_k29 235) (dk_by (j := 11) rfl ck_L_law_14_31law0 rfl rfl rfl)
theorem dL_law_236 : decode cL_law 236 = .ok (.iconst 3, 1) := dk_0 (dk_k6 236) (dk_by (j := 12) rfl ck_L_law_14_31law0 rfl rfl rfl)
theorem dL_law_237 : decode cL_law 237 = .ok (.iadd, 1) := dk_0 (dk_k96 237) (dk_by (j := 13) rfl ck_L_law_14_31law0 rfl rfl rfl)
theorem dL_law_238 : decode cL_law 238 = .ok (.iaload, 1) := dk_0 (dk_k46 238) (dk_by (j := 14) rfl ck_L_law_14_31law0 rfl rfl rfl)
theorem gL_law_X11_wind : GoodIn lw_tbl (wsV RL 18 RX11 yX11_wind wsX11_wind) := ru_gL (ru_gV tw_2_158 tw_2_159 tw_2_160 tw_1_1 mT_X11_wind)
theorem dL_law_239 : decode cL_law 239 = .ok (.invokevirtual 18, 3) := dk_2 (dk_k182 239) (dk_by (j := 15) rfl ck_L_law_14_31law0 rfl rfl rfl) (dk_by (j := 0) rfl ck_L_law_15_31law0 rfl rfl rfl) (dk_by (j := 1) rfl ck_L_law_15_31law0 rfl rfl rfl) (by decide)
theorem dL_law_242 : decode cL_law 242 = .ok (.pop, 1) := dk_0 (dk_k87 242) (dk_by (j := 2) rfl ck_L_law_15_31law0 rfl rfl rfl)
theorem dL_law_243 : decode cL_law 243 = .ok (.aload_n 2, 1) := dk_0 (dk_k44 243) (dk_by (j := 3) rfl ck_L_law_15_31law0 rfl rfl rfl)
theorem dL_law_244 : decode cL_law 244 = .ok (.aload_n 0, 1) := dk_0 (dk_k42 244) (dk_by (j := 4) rfl ck_L_law_15_31law0 rfl rfl rfl)
theorem dL_law_245 : decode cL_law 245 = .ok (.iload_n 3, 1) := dk_0 (dk_k29 245) (dk_by (j := 5) rfl ck_L_law_15_31law0 rfl rfl rfl)
theorem dL_law_246 : decode cL_law 246 = .ok (.iconst 1, 1) := dk_0 (dk_k4 246) (dk_by (j := 6) rfl ck_L_law_15_31law0 rfl rfl rfl)
theorem dL_law_247 : decode cL_law 247 = .ok (.iadd, 1) := dk_0 (dk_k96 247) (dk_by (j := 7) rfl ck_L_law_15_31law0 rfl rfl rfl)
theorem dL_law_248 : decode cL_law 248 = .ok (.iaload, 1) := dk_0 (dk_k46 248) (dk_by (j := 8) rfl ck_L_law_15_31law0 rfl rfl rfl)
theorem dL_law_249 : decode cL_law 249 = .ok (.aload_n 0, 1) := dk_0 (dk_k42 249) (dk_by (j := 9) rfl ck_L_law_15_31law0 rfl rfl rfl)
theorem dL_law_250 : decode cL_law 250 = .ok (.iload_n 3, 1) := dk_0 (dk_k29 250) (dk_by (j := 10) rfl ck_L_law_15_31law0 rfl rfl rfl)
theorem dL_law_251 : decode cL_law 251 = .ok (.iconst 2, 1) := dk_0 (dk_k5 251) (dk_by (j := 11) rfl ck_L_law_15_31law0 rfl rfl rfl)
theorem dL_law_252 : decode cL_law 252 = .ok (.iadd, 1) := dk_0 (dk_k96 252) (dk_by (j := 12) rfl ck_L_law_15_31law0 rfl rfl rfl)
theorem dL_law_253 : decode cL_law 253 = .ok (.iaload, 1) := dk_0 (dk_k46 253) (dk_by (j := 13) rfl ck_L_law_15_31law0 rfl rfl rfl)
theorem dL_law_254 : decode cL_law 254 = .ok (.aload_n 0, 1) := dk_0 (dk_k42 254) (dk_by (j := 14) rfl ck_L_law_15_31law0 rfl rfl rfl)
theorem dL_law_255 : decode cL_law 255 = .ok (.iload_n 3, 1) := dk_0 (dk_k29 255) (dk_by (j := 15) rfl ck_L_law_15_31law0 rfl rfl rfl)
theorem dL_law_256 : decode cL_law 256 = .ok (.iconst 3, 1) := dk_0 (dk_k6 256) (dk_by (j := 0) rfl ck_L_law_16_31law0 rfl rfl rfl)
theorem dL_law_257 : decode cL_law 257 = .ok (.iadd, 1) := dk_0 (dk_k96 257) (dk_by (j := 1) rfl ck_L_law_16_31law0 rfl rfl rfl)
theorem dL_law_258 : decode cL_law 258 = .ok (.iaload, 1) := dk_0 (dk_k46 258) (dk_by (j := 2) rfl ck_L_law_16_31law0 rfl rfl rfl)
theorem gL_law_X12_wind : GoodIn lw_tbl (wsV RL 22 RX12 yX12_wind wsX12_wind) := ru_gL (ru_gV tw_6_129 tw_6_130 tw_6_131 tw_1_12 mT_X12_wind)
theorem dL_law_259 : decode cL_law 259 = .ok (.invokevirtual 22, 3) := dk_2 (dk_k182 259) (dk_by (j := 3) rfl ck_L_law_16_31law0 rfl rfl rfl) (dk_by (j := 4) rfl ck_L_law_16_31law0 rfl rfl rfl) (dk_by (j := 5) rfl ck_L_law_16_31law0 rfl rfl rfl) (by decide)
theorem dL_law_262 : decode cL_law 262 = .ok (.pop, 1) := dk_0 (dk_k87 262) (dk_by (j := 6) rfl ck_L_law_16_31law0 rfl rfl rfl)
theorem dL_law_263 : decode cL_law 263 = .ok (.goto 1571, 3) := dk_s (dk_k167 263) (dk_by (j := 7) rfl ck_L_law_16_31law0 rfl rfl rfl) (dk_by (j := 8) rfl ck_L_law_16_31law0 rfl rfl rfl) (dk_by (j := 9) rfl ck_L_law_16_31law0 rfl rfl rfl) (by decide)
theorem dL_law_266 : decode cL_law 266 = .ok (.aload_n 1, 1) := dk_0 (dk_k43 266) (dk_by (j := 10) rfl ck_L_law_16_31law0 rfl rfl rfl)
theorem dL_law_267 : decode cL_law 267 = .ok (.aload_n 0, 1) := dk_0 (dk_k42 267) (dk_by (j := 11) rfl ck_L_law_16_31law0 rfl rfl rfl)
theorem dL_law_268 : decode cL_law 268 = .ok (.iload_n 3, 1) := dk_0 (dk_k29 268) (dk_by (j := 12) rfl ck_L_law_16_31law0 rfl rfl rfl)
theorem dL_law_269 : decode cL_law 269 = .ok (.iconst 1, 1) := dk_0 (dk_k4 269) (dk_by (j := 13) rfl ck_L_law_16_31law0 rfl rfl rfl)
theorem dL_law_270 : decode cL_law 270 = .ok (.iadd, 1) := dk_0 (dk_k96 270) (dk_by (j := 14) rfl ck_L_law_16_31law0 rfl rfl rfl)
theorem dL_law_271 : decode cL_law 271 = .ok (.iaload, 1) := dk_0 (dk_k46 271) (dk_by (j := 15) rfl ck_L_law_16_31law0 rfl rfl rfl)
theorem dL_law_272 : decode cL_law 272 = .ok (.aload_n 0, 1) := dk_0 (dk_k42 272) (dk_by (j := 0) rfl ck_L_law_17_31law0 rfl rfl rfl)
theorem dL_law_273 : decode cL_law 273 = .ok (.iload_n 3, 1) := dk_0 (dk_k29 273) (dk_by (j := 1) rfl ck_L_law_17_31law0 rfl rfl rfl)
theorem dL_law_274 : decode cL_law 274 = .ok (.iconst 2, 1) := dk_0 (dk_k5 274) (dk_by (j := 2) rfl ck_L_law_17_31law0 rfl rfl rfl)
theorem dL_law_275 : decode cL_law 275 = .ok (.iadd, 1) := dk_0 (dk_k96 275) (dk_by (j := 3) rfl ck_L_law_17_31law0 rfl rfl rfl)
theorem dL_law_276 : decode cL_law 276 = .ok (.iaload, 1) := dk_0 (dk_k46 276) (dk_by (j := 4) rfl ck_L_law_17_31law0 rfl rfl rfl)
theorem dL_law_277 : decode cL_law 277 = .ok (.aload_n 0, 1) := dk_0 (dk_k42 277) (dk_by (j := 5) rfl ck_L_law_17_31law0 rfl rfl rfl)
theorem dL_law_278 : decode cL_law 278 = .ok (.iload_n 3, 1) := dk_0 (dk_k29 278) (dk_by (j := 6) rfl ck_L_law_17_31law0 rfl rfl rfl)
theorem dL_law_279 : decode cL_law 279 = .ok (.iconst 3, 1) := dk_0 (dk_k6 279) (dk_by (j := 7) rfl ck_L_law_17_31law0 rfl rfl rfl)
theorem dL_law_280 : decode cL_law 280 = .ok (.iadd, 1) := dk_0 (dk_k96 280) (dk_by (j := 8) rfl ck_L_law_17_31law0 rfl rfl rfl)
theorem dL_law_281 : decode cL_law 281 = .ok (.iaload, 1) := dk_0 (dk_k46 281) (dk_by (j := 9) rfl ck_L_law_17_31law0 rfl rfl rfl)
theorem gL_law_X11_fog : GoodIn lw_tbl (wsV RL 23 RX11 yX11_fog wsX11_fog) := ru_gL (ru_gV tw_2_183 tw_2_184 tw_2_185 tw_1_1 mT_X11_fog)
theorem dL_law_282 : decode cL_law 282 = .ok (.invokevirtual 23, 3) := dk_2 (dk_k182 282) (dk_by (j := 10) rfl ck_L_law_17_31law0 rfl rfl rfl) (dk_by (j := 11) rfl ck_L_law_17_31law0 rfl rfl rfl) (dk_by (j := 12) rfl ck_L_law_17_31law0 rfl rfl rfl) (by decide)
theorem dL_law_285 : decode cL_law 285 = .ok (.pop, 1) := dk_0 (dk_k87 285) (dk_by (j := 13) rfl ck_L_law_17_31law0 rfl rfl rfl)
theorem dL_law_286 : decode cL_law 286 = .ok (.aload_n 2, 1) := dk_0 (dk_k44 286) (dk_by (j := 14) rfl ck_L_law_17_31law0 rfl rfl rfl)
theorem dL_law_287 : decode cL_law 287 = .ok (.aload_n 0, 1) := dk_0 (dk_k42 287) (dk_by (j := 15) rfl ck_L_law_17_31law0 rfl rfl rfl)
theorem dL_law_288 : decode cL_law 288 = .ok (.iload_n 3, 1) := dk_0 (dk_k29 288) (dk_by (j := 0) rfl ck_L_law_18_31law0 rfl rfl rfl)
theorem dL_law_289 : decode cL_law 289 = .ok (.iconst 1, 1) := dk_0 (dk_k4 289) (dk_by (j := 1) rfl ck_L_law_18_31law0 rfl rfl rfl)
theorem dL_law_290 : decode cL_law 290 = .ok (.iadd, 1) := dk_0 (dk_k96 290) (dk_by (j := 2) rfl ck_L_law_18_31law0 rfl rfl rfl)
theorem dL_law_291 : decode cL_law 291 = .ok (.iaload, 1) := dk_0 (dk_k46 291) (dk_by (j := 3) rfl ck_L_law_18_31law0 rfl rfl rfl)
theorem dL_law_292 : decode cL_law 292 = .ok (.aload_n 0, 1) := dk_0 (dk_k42 292) (dk_by (j := 4) rfl ck_L_law_18_31law0 rfl rfl rfl)
theorem dL_law_293 : decode cL_law 293 = .ok (.iload_n 3, 1) := dk_0 (dk_k29 293) (dk_by (j := 5) rfl ck_L_law_18_31law0 rfl rfl rfl)
theorem dL_law_294 : decode cL_law 294 = .ok (.iconst 2, 1) := dk_0 (dk_k5 294) (dk_by (j := 6) rfl ck_L_law_18_31law0 rfl rfl rfl)
theorem dL_law_295 : decode cL_law 295 = .ok (.iadd, 1) := dk_0 (dk_k96 295) (dk_by (j := 7) rfl ck_L_law_18_31law0 rfl rfl rfl)
theorem dL_law_296 : decode cL_law 296 = .ok (.iaload, 1) := dk_0 (dk_k46 296) (dk_by (j := 8) rfl ck_L_law_18_31law0 rfl rfl rfl)
theorem dL_law_297 : decode cL_law 297 = .ok (.aload_n 0, 1) := dk_0 (dk_k42 297) (dk_by (j := 9) rfl ck_L_law_18_31law0 rfl rfl rfl)
theorem dL_law_298 : decode cL_law 298 = .ok (.iload_n 3, 1) := dk_0 (dk_k29 298) (dk_by (j := 10) rfl ck_L_law_18_31law0 rfl rfl rfl)
theorem dL_law_299 : decode cL_law 299 = .ok (.iconst 3, 1) := dk_0 (dk_k6 299) (dk_by (j := 11) rfl ck_L_law_18_31law0 rfl rfl rfl)
theorem dL_law_300 : decode cL_law 300 = .ok (.iadd, 1) := dk_0 (dk_k96 300) (dk_by (j := 12) rfl ck_L_law_18_31law0 rfl rfl rfl)
theorem dL_law_301 : decode cL_law 301 = .ok (.iaload, 1) := dk_0 (dk_k46 301) (dk_by (j := 13) rfl ck_L_law_18_31law0 rfl rfl rfl)
theorem gL_law_X12_fog : GoodIn lw_tbl (wsV RL 26 RX12 yX12_fog wsX12_fog) := ru_gL (ru_gV tw_6_136 tw_6_137 tw_6_138 tw_1_12 mT_X12_fog)
theorem dL_law_302 : decode cL_law 302 = .ok (.invokevirtual 26, 3) := dk_2 (dk_k182 302) (dk_by (j := 14) rfl ck_L_law_18_31law0 rfl rfl rfl) (dk_by (j := 15) rfl ck_L_law_18_31law0 rfl rfl rfl) (dk_by (j := 0) rfl ck_L_law_19_31law0 rfl rfl rfl) (by decide)
theorem dL_law_305 : decode cL_law 305 = .ok (.pop, 1) := dk_0 (dk_k87 305) (dk_by (j := 1) rfl ck_L_law_19_31law0 rfl rfl rfl)
theorem dL_law_306 : decode cL_law 306 = .ok (.goto 1528, 3) := dk_s (dk_k167 306) (dk_by (j := 2) rfl ck_L_law_19_31law0 rfl rfl rfl) (dk_by (j := 3) rfl ck_L_law_19_31law0 rfl rfl rfl) (dk_by (j := 4) rfl ck_L_law_19_31law0 rfl rfl rfl) (by decide)
theorem dL_law_338 : decode cL_law 338 = .ok (.pop, 1) := dk_0 (dk_k87 338) (dk_by (j := 2) rfl ck_L_law_21_31law0 rfl rfl rfl)
theorem dL_law_339 : decode cL_law 339 = .ok (.aload_n 2, 1) := dk_0 (dk_k44 339) (dk_by (j := 3) rfl ck_L_law_21_31law0 rfl rfl rfl)
theorem dL_law_340 : decode cL_law 340 = .ok (.aload_n 0, 1) := dk_0 (dk_k42 340) (dk_by (j := 4) rfl ck_L_law_21_31law0 rfl rfl rfl)
theorem dL_law_341 : decode cL_law 341 = .ok (.iload_n 3, 1) := dk_0 (dk_k29 341) (dk_by (j := 5) rfl ck_L_law_21_31law0 rfl rfl rfl)
theorem dL_law_342 : decode cL_law 342 = .ok (.iconst 1, 1) := dk_0 (dk_k4 342) (dk_by (j := 6) rfl ck_L_law_21_31law0 rfl rfl rfl)
theorem dL_law_343 : decode cL_law 343 = .ok (.iadd, 1) := dk_0 (dk_k96 343) (dk_by (j := 7) rfl ck_L_law_21_31law0 rfl rfl rfl)
theorem dL_law_344 : decode cL_law 344 = .ok (.iaload, 1) := dk_0 (dk_k46 344) (dk_by (j := 8) rfl ck_L_law_21_31law0 rfl rfl rfl)
theorem dL_law_345 : decode cL_law 345 = .ok (.aload_n 0, 1) := dk_0 (dk_k42 345) (dk_by (j := 9) rfl ck_L_law_21_31law0 rfl rfl rfl)
theorem dL_law_346 : decode cL_law 346 = .ok (.iload_n 3, 1) := dk_0 (dk_k29 346) (dk_by (j := 10) rfl ck_L_law_21_31law0 rfl rfl rfl)
theorem dL_law_347 : decode cL_law 347 = .ok (.iconst 2, 1) := dk_0 (dk_k5 347) (dk_by (j := 11) rfl ck_L_law_21_31law0 rfl rfl rfl)
theorem dL_law_348 : decode cL_law 348 = .ok (.iadd, 1) := dk_0 (dk_k96 348) (dk_by (j := 12) rfl ck_L_law_21_31law0 rfl rfl rfl)
theorem dL_law_349 : decode cL_law 349 = .ok (.iaload, 1) := dk_0 (dk_k46 349) (dk_by (j := 13) rfl ck_L_law_21_31law0 rfl rfl rfl)
theorem dL_law_350 : decode cL_law 350 = .ok (.aload_n 0, 1) := dk_0 (dk_k42 350) (dk_by (j := 14) rfl ck_L_law_21_31law0 rfl rfl rfl)
theorem dL_law_351 : decode cL_law 351 = .ok (.iload_n 3, 1) := dk_0 (dk_k29 351) (dk_by (j := 15) rfl ck_L_law_21_31law0 rfl rfl rfl)
theorem dL_law_352 : decode cL_law 352 = .ok (.iconst 3, 1) := dk_0 (dk_k6 352) (dk_by (j := 0) rfl ck_L_law_22_31law0 rfl rfl rfl)
theorem dL_law_353 : decode cL_law 353 = .ok (.iadd, 1) := dk_0 (dk_k96 353) (dk_by (j := 1) rfl ck_L_law_22_31law0 rfl rfl rfl)
theorem dL_law_354 : decode cL_law 354 = .ok (.iaload, 1) := dk_0 (dk_k46 354) (dk_by (j := 2) rfl ck_L_law_22_31law0 rfl rfl rfl)
theorem dL_law_355 : decode cL_law 355 = .ok (.aload_n 0, 1) := dk_0 (dk_k42 355) (dk_by (j := 3) rfl ck_L_law_22_31law0 rfl rfl rfl)
theorem dL_law_356 : decode cL_law 356 = .ok (.iload_n 3, 1) := dk_0 (dk_k29 356) (dk_by (j := 4) rfl ck_L_law_22_31law0 rfl rfl rfl)
theorem dL_law_357 : decode cL_law 357 = .ok (.iconst 4, 1) := dk_0 (dk_k7 357) (dk_by (j := 5) rfl ck_L_law_22_31law0 rfl rfl rfl)
theorem dL_law_358 : decode cL_law 358 = .ok (.iadd, 1) := dk_0 (dk_k96 358) (dk_by (j := 6) rfl ck_L_law_22_31law0 rfl rfl rfl)
theorem dL_law_359 : decode cL_law 359 = .ok (.iaload, 1) := dk_0 (dk_k46 359) (dk_by (j := 7) rfl ck_L_law_22_31law0 rfl rfl rfl)
theorem dL_law_360 : decode cL_law 360 = .ok (.aload_n 0, 1) := dk_0 (dk_k42 360) (dk_by (j := 8) rfl ck_L_law_22_31law0 rfl rfl rfl)
theorem dL_law_361 : decode cL_law 361 = .ok (.iload_n 3, 1) := dk_0 (dk_k29 361) (dk_by (j := 9) rfl ck_L_law_22_31law0 rfl rfl rfl)
theorem dL_law_362 : decode cL_law 362 = .ok (.iconst 5, 1) := dk_0 (dk_k8 362) (dk_by (j := 10) rfl ck_L_law_22_31law0 rfl rfl rfl)
theorem dL_law_363 : decode cL_law 363 = .ok (.iadd, 1) := dk_0 (dk_k96 363) (dk_by (j := 11) rfl ck_L_law_22_31law0 rfl rfl rfl)
theorem dL_law_364 : decode cL_law 364 = .ok (.iaload, 1) := dk_0 (dk_k46 364) (dk_by (j := 12) rfl ck_L_law_22_31law0 rfl rfl rfl)
theorem gL_law_X12_body : GoodIn lw_tbl (wsV RL 31 RX12 yX12_body wsX12_body) := ru_gL (ru_gV tw_6_140 tw_6_141 tw_6_142 tw_1_12 mT_X12_body)
theorem dL_law_365 : decode cL_law 365 = .ok (.invokevirtual 31, 3) := dk_2 (dk_k182 365) (dk_by (j := 13) rfl ck_L_law_22_31law0 rfl rfl rfl) (dk_by (j := 14) rfl ck_L_law_22_31law0 rfl rfl rfl) (dk_by (j := 15) rfl ck_L_law_22_31law0 rfl rfl rfl) (by decide)
theorem dL_law_368 : decode cL_law 368 = .ok (.pop, 1) := dk_0 (dk_k87 368) (dk_by (j := 0) rfl ck_L_law_23_31law0 rfl rfl rfl)
theorem dL_law_369 : decode cL_law 369 = .ok (.goto 1465, 3) := dk_s (dk_k167 369) (dk_by (j := 1) rfl ck_L_law_23_31law0 rfl rfl rfl) (dk_by (j := 2) rfl ck_L_law_23_31law0 rfl rfl rfl) (dk_by (j := 3) rfl ck_L_law_23_31law0 rfl rfl rfl) (by decide)
theorem dL_law_309 : decode cL_law 309 = .ok (.aload_n 1, 1) := dk_0 (dk_k43 309) (dk_by (j := 5) rfl ck_L_law_19_31law0 rfl rfl rfl)
theorem dL_law_310 : decode cL_law 310 = .ok (.aload_n 0, 1) := dk_0 (dk_k42 310) (dk_by (j := 6) rfl ck_L_law_19_31law0 rfl rfl rfl)
theorem dL_law_311 : decode cL_law 311 = .ok (.iload_n 3, 1) := dk_0 (dk_k29 311) (dk_by (j := 7) rfl ck_L_law_19_31law0 rfl rfl rfl)
theorem dL_law_312 : decode cL_law 312 = .ok (.iconst 1, 1) := dk_0 (dk_k4 312) (dk_by (j := 8) rfl ck_L_law_19_31law0 rfl rfl rfl)
theorem dL_law_313 : decode cL_law 313 = .ok (.iadd, 1) := dk_0 (dk_k96 313) (dk_by (j := 9) rfl ck_L_law_19_31law0 rfl rfl rfl)
theorem dL_law_314 : decode cL_law 314 = .ok (.iaload, 1) := dk_0 (dk_k46 314) (dk_by (j := 10) rfl ck_L_law_19_31law0 rfl rfl rfl)
theorem dL_law_315 : decode cL_law 315 = .ok (.aload_n 0, 1) := dk_0 (dk_k42 315) (dk_by (j := 11) rfl ck_L_law_19_31law0 rfl rfl rfl)
theorem dL_law_316 : decode cL_law 316 = .ok (.iload_n 3, 1) := dk_0 (dk_k29 316) (dk_by (j := 12) rfl ck_L_law_19_31law0 rfl rfl rfl)
theorem dL_law_317 : decode cL_law 317 = .ok (.iconst 2, 1) := dk_0 (dk_k5 317) (dk_by (j := 13) rfl ck_L_law_19_31law0 rfl rfl rfl)
theorem dL_law_318 : decode cL_law 318 = .ok (.iadd, 1) := dk_0 (dk_k96 318) (dk_by (j := 14) rfl ck_L_law_19_31law0 rfl rfl rfl)
theorem dL_law_319 : decode cL_law 319 = .ok (.iaload, 1) := dk_0 (dk_k46 319) (dk_by (j := 15) rfl ck_L_law_19_31law0 rfl rfl rfl)
theorem dL_law_320 : decode cL_law 320 = .ok (.aload_n 0, 1) := dk_0 (dk_k42 320) (dk_by (j := 0) rfl ck_L_law_20_31law0 rfl rfl rfl)
theorem dL_law_321 : decode cL_law 321 = .ok (.iload_n 3, 1) := dk_0 (dk_k29 321) (dk_by (j := 1) rfl ck_L_law_20_31law0 rfl rfl rfl)
theorem dL_law_322 : decode cL_law 322 = .ok (.iconst 3, 1) := dk_0 (dk_k6 322) (dk_by (j := 2) rfl ck_L_law_20_31law0 rfl rfl rfl)
theorem dL_law_323 : decode cL_law 323 = .ok (.iadd, 1) := dk_0 (dk_k96 323) (dk_by (j := 3) rfl ck_L_law_20_31law0 rfl rfl rfl)
theorem dL_law_324 : decode cL_law 324 = .ok (.iaload, 1) := dk_0 (dk_k46 324) (dk_by (j := 4) rfl ck_L_law_20_31law0 rfl rfl rfl)
theorem dL_law_325 : decode cL_law 325 = .ok (.aload_n 0, 1) := dk_0 (dk_k42 325) (dk_by (j := 5) rfl ck_L_law_20_31law0 rfl rfl rfl)
theorem dL_law_326 : decode cL_law 326 = .ok (.iload_n 3, 1) := dk_0 (dk_k29 326) (dk_by (j := 6) rfl ck_L_law_20_31law0 rfl rfl rfl)
theorem dL_law_327 : decode cL_law 327 = .ok (.iconst 4, 1) := dk_0 (dk_k7 327) (dk_by (j := 7) rfl ck_L_law_20_31law0 rfl rfl rfl)
theorem dL_law_328 : decode cL_law 328 = .ok (.iadd, 1) := dk_0 (dk_k96 328) (dk_by (j := 8) rfl ck_L_law_20_31law0 rfl rfl rfl)
theorem dL_law_329 : decode cL_law 329 = .ok (.iaload, 1) := dk_0 (dk_k46 329) (dk_by (j := 9) rfl ck_L_law_20_31law0 rfl rfl rfl)
theorem dL_law_330 : decode cL_law 330 = .ok (.aload_n 0, 1) := dk_0 (dk_k42 330) (dk_by (j := 10) rfl ck_L_law_20_31law0 rfl rfl rfl)
theorem dL_law_331 : decode cL_law 331 = .ok (.iload_n 3, 1) := dk_0 (dk_k29 331) (dk_by (j := 11) rfl ck_L_law_20_31law0 rfl rfl rfl)
theorem dL_law_332 : decode cL_law 332 = .ok (.iconst 5, 1) := dk_0 (dk_k8 332) (dk_by (j := 12) rfl ck_L_law_20_31law0 rfl rfl rfl)
theorem dL_law_333 : decode cL_law 333 = .ok (.iadd, 1) := dk_0 (dk_k96 333) (dk_by (j := 13) rfl ck_L_law_20_31law0 rfl rfl rfl)
theorem dL_law_334 : decode cL_law 334 = .ok (.iaload, 1) := dk_0 (dk_k46 334) (dk_by (j := 14) rfl ck_L_law_20_31law0 rfl rfl rfl)
theorem gL_law_X11_body : GoodIn lw_tbl (wsV RL 27 RX11 yX11_body wsX11_body) := ru_gL (ru_gV tw_2_191 tw_2_192 tw_2_193 tw_1_1 mT_X11_body)
theorem dL_law_335 : decode cL_law 335 = .ok (.invokevirtual 27, 3) := dk_2 (dk_k182 335) (dk_by (j := 15) rfl ck_L_law_20_31law0 rfl rfl rfl) (dk_by (j := 0) rfl ck_L_law_21_31law0 rfl rfl rfl) (dk_by (j := 1) rfl ck_L_law_21_31law0 rfl rfl rfl) (by decide)
theorem dL_law_372 : decode cL_law 372 = .ok (.aload_n 1, 1) := dk_0 (dk_k43 372) (dk_by (j := 4) rfl ck_L_law_23_31law0 rfl rfl rfl)
theorem dL_law_373 : decode cL_law 373 = .ok (.aload_n 0, 1) := dk_0 (dk_k42 373) (dk_by (j := 5) rfl ck_L_law_23_31law0 rfl rfl rfl)
theorem dL_law_374 : decode cL_law 374 = .ok (.iload_n 3, 1) := dk_0 (dk_k29 374) (dk_by (j := 6) rfl ck_L_law_23_31law0 rfl rfl rfl)
theorem dL_law_375 : decode cL_law 375 = .ok (.iconst 1, 1) := dk_0 (dk_k4 375) (dk_by (j := 7) rfl ck_L_law_23_31law0 rfl rfl rfl)
theorem dL_law_376 : decode cL_law 376 = .ok (.iadd, 1) := dk_0 (dk_k96 376) (dk_by (j := 8) rfl ck_L_law_23_31law0 rfl rfl rfl)
theorem dL_law_377 : decode cL_law 377 = .ok (.iaload, 1) := dk_0 (dk_k46 377) (dk_by (j := 9) rfl ck_L_law_23_31law0 rfl rfl rfl)
theorem dL_law_378 : decode cL_law 378 = .ok (.aload_n 0, 1) := dk_0 (dk_k42 378) (dk_by (j := 10) rfl ck_L_law_23_31law0 rfl rfl rfl)
theorem dL_law_379 : decode cL_law 379 = .ok (.iload_n 3, 1) := dk_0 (dk_k29 379) (dk_by (j := 11) rfl ck_L_law_23_31law0 rfl rfl rfl)
theorem dL_law_380 : decode cL_law 380 = .ok (.iconst 2, 1) := dk_0 (dk_k5 380) (dk_by (j := 12) rfl ck_L_law_23_31law0 rfl rfl rfl)
theorem dL_law_381 : decode cL_law 381 = .ok (.iadd, 1) := dk_0 (dk_k96 381) (dk_by (j := 13) rfl ck_L_law_23_31law0 rfl rfl rfl)
theorem dL_law_382 : decode cL_law 382 = .ok (.iaload, 1) := dk_0 (dk_k46 382) (dk_by (j := 14) rfl ck_L_law_23_31law0 rfl rfl rfl)
theorem gL_law_X11_bodyTold : GoodIn lw_tbl (wsV RL 32 RX11 yX11_bodyTold wsX11_bodyTold) := ru_gL (ru_gV tw_3_19 tw_3_20 tw_3_21 tw_1_1 mT_X11_bodyTold)
theorem dL_law_383 : decode cL_law 383 = .ok (.invokevirtual 32, 3) := dk_2 (dk_k182 383) (dk_by (j := 15) rfl ck_L_law_23_31law0 rfl rfl rfl) (dk_by (j := 0) rfl ck_L_law_24_31law0 rfl rfl rfl) (dk_by (j := 1) rfl ck_L_law_24_31law0 rfl rfl rfl) (by decide)
theorem dL_law_386 : decode cL_law 386 = .ok (.pop, 1) := dk_0 (dk_k87 386) (dk_by (j := 2) rfl ck_L_law_24_31law0 rfl rfl rfl)
theorem dL_law_387 : decode cL_law 387 = .ok (.aload_n 2, 1) := dk_0 (dk_k44 387) (dk_by (j := 3) rfl ck_L_law_24_31law0 rfl rfl rfl)
theorem dL_law_388 : decode cL_law 388 = .ok (.aload_n 0, 1) := dk_0 (dk_k42 388) (dk_by (j := 4) rfl ck_L_law_24_31law0 rfl rfl rfl)
theorem dL_law_389 : decode cL_law 389 = .ok (.iload_n 3, 1) := dk_0 (dk_k29 389) (dk_by (j := 5) rfl ck_L_law_24_31law0 rfl rfl rfl)
theorem dL_law_390 : decode cL_law 390 = .ok (.iconst 1, 1) := dk_0 (dk_k4 390) (dk_by (j := 6) rfl ck_L_law_24_31law0 rfl rfl rfl)
theorem dL_law_391 : decode cL_law 391 = .ok (.iadd, 1) := dk_0 (dk_k96 391) (dk_by (j := 7) rfl ck_L_law_24_31law0 rfl rfl rfl)
theorem dL_law_392 : decode cL_law 392 = .ok (.iaload, 1) := dk_0 (dk_k46 392) (dk_by (j := 8) rfl ck_L_law_24_31law0 rfl rfl rfl)
theorem dL_law_393 : decode cL_law 393 = .ok (.aload_n 0, 1) := dk_0 (dk_k42 393) (dk_by (j := 9) rfl ck_L_law_24_31law0 rfl rfl rfl)
theorem dL_law_394 : decode cL_law 394 = .ok (.iload_n 3, 1) := dk_0 (dk_k29 394) (dk_by (j := 10) rfl ck_L_law_24_31law0 rfl rfl rfl)
theorem dL_law_395 : decode cL_law 395 = .ok (.iconst 2, 1) := dk_0 (dk_k5 395) (dk_by (j := 11) rfl ck_L_law_24_31law0 rfl rfl rfl)
theorem dL_law_396 : decode cL_law 396 = .ok (.iadd, 1) := dk_0 (dk_k96 396) (dk_by (j := 12) rfl ck_L_law_24_31law0 rfl rfl rfl)
theorem dL_law_397 : decode cL_law 397 = .ok (.iaload, 1) := dk_0 (dk_k46 397) (dk_by (j := 13) rfl ck_L_law_24_31law0 rfl rfl rfl)
theorem gL_law_X12_bodyTold : GoodIn lw_tbl (wsV RL 36 RX12 yX12_bodyTold wsX12_bodyTold) := ru_gL (ru_gV tw_6_147 tw_6_148 tw_6_149 tw_1_12 mT_X12_bodyTold)
theorem dL_law_398 : decode cL_law 398 = .ok (.invokevirtual 36, 3) := dk_2 (dk_k182 398) (dk_by (j := 14) rfl ck_L_law_24_31law0 rfl rfl rfl) (dk_by (j := 15) rfl ck_L_law_24_31law0 rfl rfl rfl) (dk_by (j := 0) rfl ck_L_law_25_31law0 rfl rfl rfl) (by decide)
theorem dL_law_401 : decode cL_law 401 = .ok (.pop, 1) := dk_0 (dk_k87 401) (dk_by (j := 1) rfl ck_L_law_25_31law0 rfl rfl rfl)
theorem dL_law_402 : decode cL_law 402 = .ok (.goto 1432, 3) := dk_s (dk_k167 402) (dk_by (j := 2) rfl ck_L_law_25_31law0 rfl rfl rfl) (dk_by (j := 3) rfl ck_L_law_25_31law0 rfl rfl rfl) (dk_by (j := 4) rfl ck_L_law_25_31law0 rfl rfl rfl) (by decide)
theorem dL_law_405 : decode cL_law 405 = .ok (.aload_n 1, 1) := dk_0 (dk_k43 405) (dk_by (j := 5) rfl ck_L_law_25_31law0 rfl rfl rfl)
theorem dL_law_406 : decode cL_law 406 = .ok (.aload_n 0, 1) := dk_0 (dk_k42 406) (dk_by (j := 6) rfl ck_L_law_25_31law0 rfl rfl rfl)
theorem dL_law_407 : decode cL_law 407 = .ok (.iload_n 3, 1) := dk_0 (dk_k29 407) (dk_by (j := 7) rfl ck_L_law_25_31law0 rfl rfl rfl)
theorem dL_law_408 : decode cL_law 408 = .ok (.iconst 1, 1) := dk_0 (dk_k4 408) (dk_by (j := 8) rfl ck_L_law_25_31law0 rfl rfl rfl)
theorem dL_law_409 : decode cL_law 409 = .ok (.iadd, 1) := dk_0 (dk_k96 409) (dk_by (j := 9) rfl ck_L_law_25_31law0 rfl rfl rfl)
theorem dL_law_410 : decode cL_law 410 = .ok (.iaload, 1) := dk_0 (dk_k46 410) (dk_by (j := 10) rfl ck_L_law_25_31law0 rfl rfl rfl)
theorem dL_law_411 : decode cL_law 411 = .ok (.aload_n 0, 1) := dk_0 (dk_k42 411) (dk_by (j := 11) rfl ck_L_law_25_31law0 rfl rfl rfl)
theorem dL_law_412 : decode cL_law 412 = .ok (.iload_n 3, 1) := dk_0 (dk_k29 412) (dk_by (j := 12) rfl ck_L_law_25_31law0 rfl rfl rfl)
theorem dL_law_413 : decode cL_law 413 = .ok (.iconst 2, 1) := dk_0 (dk_k5 413) (dk_by (j := 13) rfl ck_L_law_25_31law0 rfl rfl rfl)
theorem dL_law_414 : decode cL_law 414 = .ok (.iadd, 1) := dk_0 (dk_k96 414) (dk_by (j := 14) rfl ck_L_law_25_31law0 rfl rfl rfl)
theorem dL_law_415 : decode cL_law 415 = .ok (.iaload, 1) := dk_0 (dk_k46 415) (dk_by (j := 15) rfl ck_L_law_25_31law0 rfl rfl rfl)
theorem dL_law_416 : decode cL_law 416 = .ok (.aload_n 0, 1) := dk_0 (dk_k42 416) (dk_by (j := 0) rfl ck_L_law_26_31law0 rfl rfl rfl)
theorem dL_law_417 : decode cL_law 417 = .ok (.iload_n 3, 1) := dk_0 (dk_k29 417) (dk_by (j := 1) rfl ck_L_law_26_31law0 rfl rfl rfl)
theorem dL_law_418 : decode cL_law 418 = .ok (.iconst 3, 1) := dk_0 (dk_k6 418) (dk_by (j := 2) rfl ck_L_law_26_31law0 rfl rfl rfl)
theorem dL_law_419 : decode cL_law 419 = .ok (.iadd, 1) := dk_0 (dk_k96 419) (dk_by (j := 3) rfl ck_L_law_26_31law0 rfl rfl rfl)
theorem dL_law_420 : decode cL_law 420 = .ok (.iaload, 1) := dk_0 (dk_k46 420) (dk_by (j := 4) rfl ck_L_law_26_31law0 rfl rfl rfl)
theorem gL_law_X11_patch : GoodIn lw_tbl (wsV RL 37 RX11 yX11_patch wsX11_patch) := ru_gL (ru_gV tw_3_34 tw_3_35 tw_3_36 tw_1_1 mT_X11_patch)
theorem dL_law_421 : decode cL_law 421 = .ok (.invokevirtual 37, 3) := dk_2 (dk_k182 421) (dk_by (j := 5) rfl ck_L_law_26_31law0 rfl rfl rfl) (dk_by (j := 6) rfl ck_L_law_26_31law0 rfl rfl rfl) (dk_by (j := 7) rfl ck_L_law_26_31law0 rfl rfl rfl) (by decide)
theorem dL_law_424 : decode cL_law 424 = .ok (.pop2, 1) := dk_0 (dk_k88 424) (dk_by (j := 8) rfl ck_L_law_26_31law0 rfl rfl rfl)
theorem dL_law_425 : decode cL_law 425 = .ok (.aload_n 2, 1) := dk_0 (dk_k44 425) (dk_by (j := 9) rfl ck_L_law_26_31law0 rfl rfl rfl)
theorem dL_law_426 : decode cL_law 426 = .ok (.aload_n 0, 1) := dk_0 (dk_k42 426) (dk_by (j := 10) rfl ck_L_law_26_31law0 rfl rfl rfl)
theorem dL_law_427 : decode cL_law 427 = .ok (.iload_n 3, 1) := dk_0 (dk_k29 427) (dk_by (j := 11) rfl ck_L_law_26_31law0 rfl rfl rfl)
theorem dL_law_428 : decode cL_law 428 = .ok (.iconst 1, 1) := dk_0 (dk_k4 428) (dk_by (j := 12) rfl ck_L_law_26_31law0 rfl rfl rfl)
theorem dL_law_429 : decode cL_law 429 = .ok (.iadd, 1) := dk_0 (dk_k96 429) (dk_by (j := 13) rfl ck_L_law_26_31law0 rfl rfl rfl)
theorem dL_law_430 : decode cL_law 430 = .ok (.iaload, 1) := dk_0 (dk_k46 430) (dk_by (j := 14) rfl ck_L_law_26_31law0 rfl rfl rfl)
theorem dL_law_431 : decode cL_law 431 = .ok (.aload_n 0, 1) := dk_0 (dk_k42 431) (dk_by (j := 15) rfl ck_L_law_26_31law0 rfl rfl rfl)
theorem dL_law_432 : decode cL_law 432 = .ok (.iload_n 3, 1) := dk_0 (dk_k29 432) (dk_by (j := 0) rfl ck_L_law_27_31law0 rfl rfl rfl)
theorem dL_law_433 : decode cL_law 433 = .ok (.iconst 2, 1) := dk_0 (dk_k5 433) (dk_by (j := 1) rfl ck_L_law_27_31law0 rfl rfl rfl)
theorem dL_law_434 : decode cL_law 434 = .ok (.iadd, 1) := dk_0 (dk_k96 434) (dk_by (j := 2) rfl ck_L_law_27_31law0 rfl rfl rfl)
theorem dL_law_435 : decode cL_law 435 = .ok (.iaload, 1) := dk_0 (dk_k46 435) (dk_by (j := 3) rfl ck_L_law_27_31law0 rfl rfl rfl)
theorem dL_law_436 : decode cL_law 436 = .ok (.aload_n 0, 1) := dk_0 (dk_k42 436) (dk_by (j := 4) rfl ck_L_law_27_31law0 rfl rfl rfl)
theorem dL_law_437 : decode cL_law 437 = .ok (.iload_n 3, 1) := dk_0 (dk_k29 437) (dk_by (j := 5) rfl ck_L_law_27_31law0 rfl rfl rfl)
theorem dL_law_438 : decode cL_law 438 = .ok (.iconst 3, 1) := dk_0 (dk_k6 438) (dk_by (j := 6) rfl ck_L_law_27_31law0 rfl rfl rfl)
theorem dL_law_439 : decode cL_law 439 = .ok (.iadd, 1) := dk_0 (dk_k96 439) (dk_by (j := 7) rfl ck_L_law_27_31law0 rfl rfl rfl)
theorem dL_law_440 : decode cL_law 440 = .ok (.iaload, 1) := dk_0 (dk_k46 440) (dk_by (j := 8) rfl ck_L_law_27_31law0 rfl rfl rfl)
theorem gL_law_X12_patch : GoodIn lw_tbl (wsV RL 41 RX12 yX12_patch wsX12_patch) := ru_gL (ru_gV tw_6_159 tw_6_160 tw_6_161 tw_1_12 mT_X12_patch)
theorem dL_law_441 : decode cL_law 441 = .ok (.invokevirtual 41, 3) := dk_2 (dk_k182 441) (dk_by (j := 9) rfl ck_L_law_27_31law0 rfl rfl rfl) (dk_by (j := 10) rfl ck_L_law_27_31law0 rfl rfl rfl) (dk_by (j := 11) rfl ck_L_law_27_31law0 rfl rfl rfl) (by decide)
theorem dL_law_444 : decode cL_law 444 = .ok (.pop2, 1) := dk_0 (dk_k88 444) (dk_by (j := 12) rfl ck_L_law_27_31law0 rfl rfl rfl)
theorem dL_law_445 : decode cL_law 445 = .ok (.goto 1389, 3) := dk_s (dk_k167 445) (dk_by (j := 13) rfl ck_L_law_27_31law0 rfl rfl rfl) (dk_by (j := 14) rfl ck_L_law_27_31law0 rfl rfl rfl) (dk_by (j := 15) rfl ck_L_law_27_31law0 rfl rfl rfl) (by decide)
theorem dL_law_448 : decode cL_law 448 = .ok (.aload_n 1, 1) := dk_0 (dk_k43 448) (dk_by (j := 0) rfl ck_L_law_28_31law0 rfl rfl rfl)
theorem dL_law_449 : decode cL_law 449 = .ok (.aload_n 0, 1) := dk_0 (dk_k42 449) (dk_by (j := 1) rfl ck_L_law_28_31law0 rfl rfl rfl)
theorem dL_law_450 : decode cL_law 450 = .ok (.iload_n 3, 1) := dk_0 (dk_k29 450) (dk_by (j := 2) rfl ck_L_law_28_31law0 rfl rfl rfl)
theorem dL_law_451 : decode cL_law 451 = .ok (.iconst 1, 1) := dk_0 (dk_k4 451) (dk_by (j := 3) rfl ck_L_law_28_31law0 rfl rfl rfl)
theorem dL_law_452 : decode cL_law 452 = .ok (.iadd, 1) := dk_0 (dk_k96 452) (dk_by (j := 4) rfl ck_L_law_28_31law0 rfl rfl rfl)
theorem dL_law_453 : decode cL_law 453 = .ok (.iaload, 1) := dk_0 (dk_k46 453) (dk_by (j := 5) rfl ck_L_law_28_31law0 rfl rfl rfl)
theorem dL_law_454 : decode cL_law 454 = .ok (.aload_n 0, 1) := dk_0 (dk_k42 454) (dk_by (j := 6) rfl ck_L_law_28_31law0 rfl rfl rfl)
theorem dL_law_455 : decode cL_law 455 = .ok (.iload_n 3, 1) := dk_0 (dk_k29 455) (dk_by (j := 7) rfl ck_L_law_28_31law0 rfl rfl rfl)
theorem dL_law_456 : decode cL_law 456 = .ok (.iconst 2, 1) := dk_0 (dk_k5 456) (dk_by (j := 8) rfl ck_L_law_28_31law0 rfl rfl rfl)
theorem dL_law_457 : decode cL_law 457 = .ok (.iadd, 1) := dk_0 (dk_k96 457) (dk_by (j := 9) rfl ck_L_law_28_31law0 rfl rfl rfl)
theorem dL_law_458 : decode cL_law 458 = .ok (.iaload, 1) := dk_0 (dk_k46 458) (dk_by (j := 10) rfl ck_L_law_28_31law0 rfl rfl rfl)
theorem dL_law_459 : decode cL_law 459 = .ok (.aload_n 0, 1) := dk_0 (dk_k42 459) (dk_by (j := 11) rfl ck_L_law_28_31law0 rfl rfl rfl)
theorem dL_law_460 : decode cL_law 460 = .ok (.iload_n 3, 1) := dk_0 (dk_k29 460) (dk_by (j := 12) rfl ck_L_law_28_31law0 rfl rfl rfl)
theorem dL_law_461 : decode cL_law 461 = .ok (.iconst 3, 1) := dk_0 (dk_k6 461) (dk_by (j := 13) rfl ck_L_law_28_31law0 rfl rfl rfl)
theorem dL_law_462 : decode cL_law 462 = .ok (.iadd, 1) := dk_0 (dk_k96 462) (dk_by (j := 14) rfl ck_L_law_28_31law0 rfl rfl rfl)
theorem dL_law_463 : decode cL_law 463 = .ok (.iaload, 1) := dk_0 (dk_k46 463) (dk_by (j := 15) rfl ck_L_law_28_31law0 rfl rfl rfl)
theorem dL_law_464 : decode cL_law 464 = .ok (.i2l, 1) := dk_0 (dk_k133 464) (dk_by (j := 0) rfl ck_L_law_29_31law0 rfl rfl rfl)
theorem dL_law_465 : decode cL_law 465 = .ok (.bipush 32, 2) := dk_1 (dk_k16 465) (dk_by (j := 1) rfl ck_L_law_29_31law0 rfl rfl rfl) (dk_by (j := 2) rfl ck_L_law_29_31law0 rfl rfl rfl) (by decide)
theorem dL_law_467 : decode cL_law 467 = .ok (.lshl, 1) := dk_0 (dk_k121 467) (dk_by (j := 3) rfl ck_L_law_29_31law0 rfl rfl rfl)
theorem dL_law_468 : decode cL_law 468 = .ok (.aload_n 0, 1) := dk_0 (dk_k42 468) (dk_by (j := 4) rfl ck_L_law_29_31law0 rfl rfl rfl)
theorem dL_law_469 : decode cL_law 469 = .ok (.iload_n 3, 1) := dk_0 (dk_k29 469) (dk_by (j := 5) rfl ck_L_law_29_31law0 rfl rfl rfl)
theorem dL_law_470 : decode cL_law 470 = .ok (.iconst 4, 1) := dk_0 (dk_k7 470) (dk_by (j := 6) rfl ck_L_law_29_31law0 rfl rfl rfl)
theorem dL_law_471 : decode cL_law 471 = .ok (.iadd, 1) := dk_0 (dk_k96 471) (dk_by (j := 7) rfl ck_L_law_29_31law0 rfl rfl rfl)
theorem dL_law_472 : decode cL_law 472 = .ok (.iaload, 1) := dk_0 (dk_k46 472) (dk_by (j := 8) rfl ck_L_law_29_31law0 rfl rfl rfl)
theorem dL_law_473 : decode cL_law 473 = .ok (.i2l, 1) := dk_0 (dk_k133 473) (dk_by (j := 9) rfl ck_L_law_29_31law0 rfl rfl rfl)
theorem dL_law_474 : decode cL_law 474 = .ok (.ldc2_w 42, 3) := dk_2 (dk_k20 474) (dk_by (j := 10) rfl ck_L_law_29_31law0 rfl rfl rfl) (dk_by (j := 11) rfl ck_L_law_29_31law0 rfl rfl rfl) (dk_by (j := 12) rfl ck_L_law_29_31law0 rfl rfl rfl) (by decide)
theorem dL_law_477 : decode cL_law 477 = .ok (.land, 1) := dk_0 (dk_k127 477) (dk_by (j := 13) rfl ck_L_law_29_31law0 rfl rfl rfl)
theorem dL_law_478 : decode cL_law 478 = .ok (.lor, 1) := dk_0 (dk_k129 478) (dk_by (j := 14) rfl ck_L_law_29_31law0 rfl rfl rfl)
theorem gL_law_X11_fix : GoodIn lw_tbl (wsV RL 44 RX11 yX11_fix wsX11_fix) := ru_gL (ru_gV tw_3_70 tw_3_71 tw_3_72 tw_1_1 mT_X11_fix)
theorem dL_law_479 : decode cL_law 479 = .ok (.invokevirtual 44, 3) := dk_2 (dk_k182 479) (dk_by (j := 15) rfl ck_L_law_29_31law0 rfl rfl rfl) (dk_by (j := 0) rfl ck_L_law_30_31law0 rfl rfl rfl) (dk_by (j := 1) rfl ck_L_law_30_31law0 rfl rfl rfl) (by decide)
theorem dL_law_482 : decode cL_law 482 = .ok (.pop, 1) := dk_0 (dk_k87 482) (dk_by (j := 2) rfl ck_L_law_30_31law0 rfl rfl rfl)
theorem dL_law_483 : decode cL_law 483 = .ok (.aload_n 2, 1) := dk_0 (dk_k44 483) (dk_by (j := 3) rfl ck_L_law_30_31law0 rfl rfl rfl)
theorem dL_law_484 : decode cL_law 484 = .ok (.aload_n 0, 1) := dk_0 (dk_k42 484) (dk_by (j := 4) rfl ck_L_law_30_31law0 rfl rfl rfl)
theorem dL_law_485 : decode cL_law 485 = .ok (.iload_n 3, 1) := dk_0 (dk_k29 485) (dk_by (j := 5) rfl ck_L_law_30_31law0 rfl rfl rfl)
theorem dL_law_486 : decode cL_law 486 = .ok (.iconst 1, 1) := dk_0 (dk_k4 486) (dk_by (j := 6) rfl ck_L_law_30_31law0 rfl rfl rfl)
theorem dL_law_487 : decode cL_law 487 = .ok (.iadd, 1) := dk_0 (dk_k96 487) (dk_by (j := 7) rfl ck_L_law_30_31law0 rfl rfl rfl)
theorem dL_law_488 : decode cL_law 488 = .ok (.iaload, 1) := dk_0 (dk_k46 488) (dk_by (j := 8) rfl ck_L_law_30_31law0 rfl rfl rfl)
theorem dL_law_489 : decode cL_law 489 = .ok (.aload_n 0, 1) := dk_0 (dk_k42 489) (dk_by (j := 9) rfl ck_L_law_30_31law0 rfl rfl rfl)
theorem dL_law_490 : decode cL_law 490 = .ok (.iload_n 3, 1) := dk_0 (dk_k29 490) (dk_by (j := 10) rfl ck_L_law_30_31law0 rfl rfl rfl)
theorem dL_law_491 : decode cL_law 491 = .ok (.iconst 2, 1) := dk_0 (dk_k5 491) (dk_by (j := 11) rfl ck_L_law_30_31law0 rfl rfl rfl)
theorem dL_law_492 : decode cL_law 492 = .ok (.iadd, 1) := dk_0 (dk_k96 492) (dk_by (j := 12) rfl ck_L_law_30_31law0 rfl rfl rfl)
theorem dL_law_493 : decode cL_law 493 = .ok (.iaload, 1) := dk_0 (dk_k46 493) (dk_by (j := 13) rfl ck_L_law_30_31law0 rfl rfl rfl)
theorem dL_law_494 : decode cL_law 494 = .ok (.aload_n 0, 1) := dk_0 (dk_k42 494) (dk_by (j := 14) rfl ck_L_law_30_31law0 rfl rfl rfl)
theorem dL_law_495 : decode cL_law 495 = .ok (.iload_n 3, 1) := dk_0 (dk_k29 495) (dk_by (j := 15) rfl ck_L_law_30_31law0 rfl rfl rfl)
theorem dL_law_496 : decode cL_law 496 = .ok (.iconst 3, 1) := dk_0 (dk_k6 496) (dk_by (j := 0) rfl ck_L_law_31_31law0 rfl rfl rfl)
theorem dL_law_497 : decode cL_law 497 = .ok (.iadd, 1) := dk_0 (dk_k96 497) (dk_by (j := 1) rfl ck_L_law_31_31law0 rfl rfl rfl)
theorem dL_law_498 : decode cL_law 498 = .ok (.iaload, 1) := dk_0 (dk_k46 498) (dk_by (j := 2) rfl ck_L_law_31_31law0 rfl rfl rfl)
theorem dL_law_499 : decode cL_law 499 = .ok (.i2l, 1) := dk_0 (dk_k133 499) (dk_by (j := 3) rfl ck_L_law_31_31law0 rfl rfl rfl)
theorem dL_law_500 : decode cL_law 500 = .ok (.bipush 32, 2) := dk_1 (dk_k16 500) (dk_by (j := 4) rfl ck_L_law_31_31law0 rfl rfl rfl) (dk_by (j := 5) rfl ck_L_law_31_31law0 rfl rfl rfl) (by decide)
theorem dL_law_502 : decode cL_law 502 = .ok (.lshl, 1) := dk_0 (dk_k121 502) (dk_by (j := 6) rfl ck_L_law_31_31law0 rfl rfl rfl)
theorem dL_law_503 : decode cL_law 503 = .ok (.aload_n 0, 1) := dk_0 (dk_k42 503) (dk_by (j := 7) rfl ck_L_law_31_31law0 rfl rfl rfl)
theorem dL_law_504 : decode cL_law 504 = .ok (.iload_n 3, 1) := dk_0 (dk_k29 504) (dk_by (j := 8) rfl ck_L_law_31_31law0 rfl rfl rfl)
theorem dL_law_505 : decode cL_law 505 = .ok (.iconst 4, 1) := dk_0 (dk_k7 505) (dk_by (j := 9) rfl ck_L_law_31_31law0 rfl rfl rfl)
theorem dL_law_506 : decode cL_law 506 = .ok (.iadd, 1) := dk_0 (dk_k96 506) (dk_by (j := 10) rfl ck_L_law_31_31law0 rfl rfl rfl)
theorem dL_law_507 : decode cL_law 507 = .ok (.iaload, 1) := dk_0 (dk_k46 507) (dk_by (j := 11) rfl ck_L_law_31_31law0 rfl rfl rfl)
theorem dL_law_508 : decode cL_law 508 = .ok (.i2l, 1) := dk_0 (dk_k133 508) (dk_by (j := 12) rfl ck_L_law_31_31law0 rfl rfl rfl)
theorem dL_law_509 : decode cL_law 509 = .ok (.ldc2_w 42, 3) := dk_2 (dk_k20 509) (dk_by (j := 13) rfl ck_L_law_31_31law0 rfl rfl rfl) (dk_by (j := 14) rfl ck_L_law_31_31law0 rfl rfl rfl) (dk_by (j := 15) rfl ck_L_law_31_31law0 rfl rfl rfl) (by decide)
theorem dL_law_512 : decode cL_law 512 = .ok (.land, 1) := dk_0 (dk_k127 512) (dk_by (j := 0) rfl ck_L_law_32_31law0 rfl rfl rfl)
theorem dL_law_513 : decode cL_law 513 = .ok (.lor, 1) := dk_0 (dk_k129 513) (dk_by (j := 1) rfl ck_L_law_32_31law0 rfl rfl rfl)
theorem gL_law_X12_fix : GoodIn lw_tbl (wsV RL 48 RX12 yX12_fix wsX12_fix) := ru_gL (ru_gV tw_6_177 tw_6_178 tw_6_179 tw_1_12 mT_X12_fix)
theorem dL_law_514 : decode cL_law 514 = .ok (.invokevirtual 48, 3) := dk_2 (dk_k182 514) (dk_by (j := 2) rfl ck_L_law_32_31law0 rfl rfl rfl) (dk_by (j := 3) rfl ck_L_law_32_31law0 rfl rfl rfl) (dk_by (j := 4) rfl ck_L_law_32_31law0 rfl rfl rfl) (by decide)
theorem dL_law_517 : decode cL_law 517 = .ok (.pop, 1) := dk_0 (dk_k87 517) (dk_by (j := 5) rfl ck_L_law_32_31law0 rfl rfl rfl)
theorem dL_law_518 : decode cL_law 518 = .ok (.goto 1316, 3) := dk_s (dk_k167 518) (dk_by (j := 6) rfl ck_L_law_32_31law0 rfl rfl rfl) (dk_by (j := 7) rfl ck_L_law_32_31law0 rfl rfl rfl) (dk_by (j := 8) rfl ck_L_law_32_31law0 rfl rfl rfl) (by decide)
theorem dL_law_521 : decode cL_law 521 = .ok (.aload_n 1, 1) := dk_0 (dk_k43 521) (dk_by (j := 9) rfl ck_L_law_32_31law0 rfl rfl rfl)
theorem dL_law_522 : decode cL_law 522 = .ok (.aload_n 0, 1) := dk_0 (dk_k42 522) (dk_by (j := 10) rfl ck_L_law_32_31law0 rfl rfl rfl)
theorem dL_law_523 : decode cL_law 523 = .ok (.iload_n 3, 1) := dk_0 (dk_k29 523) (dk_by (j := 11) rfl ck_L_law_32_31law0 rfl rfl rfl)
theorem dL_law_524 : decode cL_law 524 = .ok (.iconst 1, 1) := dk_0 (dk_k4 524) (dk_by (j := 12) rfl ck_L_law_32_31law0 rfl rfl rfl)
theorem dL_law_525 : decode cL_law 525 = .ok (.iadd, 1) := dk_0 (dk_k96 525) (dk_by (j := 13) rfl ck_L_law_32_31law0 rfl rfl rfl)
theorem dL_law_526 : decode cL_law 526 = .ok (.iaload, 1) := dk_0 (dk_k46 526) (dk_by (j := 14) rfl ck_L_law_32_31law0 rfl rfl rfl)
theorem gL_law_X11_hearer : GoodIn lw_tbl (wsV RL 49 RX11 yX11_hearer wsX11_hearer) := ru_gL (ru_gV tw_3_79 tw_3_80 tw_3_81 tw_1_1 mT_X11_hearer)
theorem dL_law_527 : decode cL_law 527 = .ok (.invokevirtual 49, 3) := dk_2 (dk_k182 527) (dk_by (j := 15) rfl ck_L_law_32_31law0 rfl rfl rfl) (dk_by (j := 0) rfl ck_L_law_33_31law0 rfl rfl rfl) (dk_by (j := 1) rfl ck_L_law_33_31law0 rfl rfl rfl) (by decide)
theorem dL_law_530 : decode cL_law 530 = .ok (.pop, 1) := dk_0 (dk_k87 530) (dk_by (j := 2) rfl ck_L_law_33_31law0 rfl rfl rfl)
theorem dL_law_531 : decode cL_law 531 = .ok (.aload_n 2, 1) := dk_0 (dk_k44 531) (dk_by (j := 3) rfl ck_L_law_33_31law0 rfl rfl rfl)
theorem dL_law_532 : decode cL_law 532 = .ok (.aload_n 0, 1) := dk_0 (dk_k42 532) (dk_by (j := 4) rfl ck_L_law_33_31law0 rfl rfl rfl)
theorem dL_law_533 : decode cL_law 533 = .ok (.iload_n 3, 1) := dk_0 (dk_k29 533) (dk_by (j := 5) rfl ck_L_law_33_31law0 rfl rfl rfl)
theorem dL_law_534 : decode cL_law 534 = .ok (.iconst 1, 1) := dk_0 (dk_k4 534) (dk_by (j := 6) rfl ck_L_law_33_31law0 rfl rfl rfl)
theorem dL_law_535 : decode cL_law 535 = .ok (.iadd, 1) := dk_0 (dk_k96 535) (dk_by (j := 7) rfl ck_L_law_33_31law0 rfl rfl rfl)
theorem dL_law_536 : decode cL_law 536 = .ok (.iaload, 1) := dk_0 (dk_k46 536) (dk_by (j := 8) rfl ck_L_law_33_31law0 rfl rfl rfl)
theorem gL_law_X12_hearer : GoodIn lw_tbl (wsV RL 52 RX12 yX12_hearer wsX12_hearer) := ru_gL (ru_gV tw_6_185 tw_6_186 tw_6_187 tw_1_12 mT_X12_hearer)
theorem dL_law_537 : decode cL_law 537 = .ok (.invokevirtual 52, 3) := dk_2 (dk_k182 537) (dk_by (j := 9) rfl ck_L_law_33_31law0 rfl rfl rfl) (dk_by (j := 10) rfl ck_L_law_33_31law0 rfl rfl rfl) (dk_by (j := 11) rfl ck_L_law_33_31law0 rfl rfl rfl) (by decide)
theorem dL_law_540 : decode cL_law 540 = .ok (.pop, 1) := dk_0 (dk_k87 540) (dk_by (j := 12) rfl ck_L_law_33_31law0 rfl rfl rfl)
theorem dL_law_541 : decode cL_law 541 = .ok (.goto 1293, 3) := dk_s (dk_k167 541) (dk_by (j := 13) rfl ck_L_law_33_31law0 rfl rfl rfl) (dk_by (j := 14) rfl ck_L_law_33_31law0 rfl rfl rfl) (dk_by (j := 15) rfl ck_L_law_33_31law0 rfl rfl rfl) (by decide)
theorem dL_law_544 : decode cL_law 544 = .ok (.aload_n 1, 1) := dk_0 (dk_k43 544) (dk_by (j := 0) rfl ck_L_law_34_31law0 rfl rfl rfl)
theorem dL_law_545 : decode cL_law 545 = .ok (.aload_n 0, 1) := dk_0 (dk_k42 545) (dk_by (j := 1) rfl ck_L_law_34_31law0 rfl rfl rfl)
theorem dL_law_546 : decode cL_law 546 = .ok (.iload_n 3, 1) := dk_0 (dk_k29 546) (dk_by (j := 2) rfl ck_L_law_34_31law0 rfl rfl rfl)
theorem dL_law_547 : decode cL_law 547 = .ok (.iconst 1, 1) := dk_0 (dk_k4 547) (dk_by (j := 3) rfl ck_L_law_34_31law0 rfl rfl rfl)
theorem dL_law_548 : decode cL_law 548 = .ok (.iadd, 1) := dk_0 (dk_k96 548) (dk_by (j := 4) rfl ck_L_law_34_31law0 rfl rfl rfl)
theorem dL_law_549 : decode cL_law 549 = .ok (.iaload, 1) := dk_0 (dk_k46 549) (dk_by (j := 5) rfl ck_L_law_34_31law0 rfl rfl rfl)
theorem dL_law_550 : decode cL_law 550 = .ok (.aload_n 0, 1) := dk_0 (dk_k42 550) (dk_by (j := 6) rfl ck_L_law_34_31law0 rfl rfl rfl)
theorem dL_law_551 : decode cL_law 551 = .ok (.iload_n 3, 1) := dk_0 (dk_k29 551) (dk_by (j := 7) rfl ck_L_law_34_31law0 rfl rfl rfl)
theorem dL_law_552 : decode cL_law 552 = .ok (.iconst 2, 1) := dk_0 (dk_k5 552) (dk_by (j := 8) rfl ck_L_law_34_31law0 rfl rfl rfl)
theorem dL_law_553 : decode cL_law 553 = .ok (.iadd, 1) := dk_0 (dk_k96 553) (dk_by (j := 9) rfl ck_L_law_34_31law0 rfl rfl rfl)
theorem dL_law_554 : decode cL_law 554 = .ok (.iaload, 1) := dk_0 (dk_k46 554) (dk_by (j := 10) rfl ck_L_law_34_31law0 rfl rfl rfl)
theorem dL_law_555 : decode cL_law 555 = .ok (.aload_n 0, 1) := dk_0 (dk_k42 555) (dk_by (j := 11) rfl ck_L_law_34_31law0 rfl rfl rfl)
theorem dL_law_556 : decode cL_law 556 = .ok (.iload_n 3, 1) := dk_0 (dk_k29 556) (dk_by (j := 12) rfl ck_L_law_34_31law0 rfl rfl rfl)
theorem dL_law_557 : decode cL_law 557 = .ok (.iconst 3, 1) := dk_0 (dk_k6 557) (dk_by (j := 13) rfl ck_L_law_34_31law0 rfl rfl rfl)
theorem dL_law_558 : decode cL_law 558 = .ok (.iadd, 1) := dk_0 (dk_k96 558) (dk_by (j := 14) rfl ck_L_law_34_31law0 rfl rfl rfl)
theorem dL_law_559 : decode cL_law 559 = .ok (.iaload, 1) := dk_0 (dk_k46 559) (dk_by (j := 15) rfl ck_L_law_34_31law0 rfl rfl rfl)
theorem dL_law_560 : decode cL_law 560 = .ok (.aload_n 0, 1) := dk_0 (dk_k42 560) (dk_by (j := 0) rfl ck_L_law_35_31law0 rfl rfl rfl)
theorem dL_law_561 : decode cL_law 561 = .ok (.iload_n 3, 1) := dk_0 (dk_k29 561) (dk_by (j := 1) rfl ck_L_law_35_31law0 rfl rfl rfl)
theorem dL_law_562 : decode cL_law 562 = .ok (.iconst 4, 1) := dk_0 (dk_k7 562) (dk_by (j := 2) rfl ck_L_law_35_31law0 rfl rfl rfl)
theorem dL_law_563 : decode cL_law 563 = .ok (.iadd, 1) := dk_0 (dk_k96 563) (dk_by (j := 3) rfl ck_L_law_35_31law0 rfl rfl rfl)
theorem dL_law_564 : decode cL_law 564 = .ok (.iaload, 1) := dk_0 (dk_k46 564) (dk_by (j := 4) rfl ck_L_law_35_31law0 rfl rfl rfl)
theorem gL_law_X11_wave : GoodIn lw_tbl (wsV RL 53 RX11 yX11_wave wsX11_wave) := ru_gL (ru_gV tw_3_87 tw_3_88 tw_3_89 tw_1_1 mT_X11_wave)
theorem dL_law_565 : decode cL_law 565 = .ok (.invokevirtual 53, 3) := dk_2 (dk_k182 565) (dk_by (j := 5) rfl ck_L_law_35_31law0 rfl rfl rfl) (dk_by (j := 6) rfl ck_L_law_35_31law0 rfl rfl rfl) (dk_by (j := 7) rfl ck_L_law_35_31law0 rfl rfl rfl) (by decide)
theorem dL_law_568 : decode cL_law 568 = .ok (.pop, 1) := dk_0 (dk_k87 568) (dk_by (j := 8) rfl ck_L_law_35_31law0 rfl rfl rfl)
theorem dL_law_569 : decode cL_law 569 = .ok (.aload_n 2, 1) := dk_0 (dk_k44 569) (dk_by (j := 9) rfl ck_L_law_35_31law0 rfl rfl rfl)
theorem dL_law_570 : decode cL_law 570 = .ok (.aload_n 0, 1) := dk_0 (dk_k42 570) (dk_by (j := 10) rfl ck_L_law_35_31law0 rfl rfl rfl)
theorem dL_law_571 : decode cL_law 571 = .ok (.iload_n 3, 1) := dk_0 (dk_k29 571) (dk_by (j := 11) rfl ck_L_law_35_31law0 rfl rfl rfl)
theorem dL_law_572 : decode cL_law 572 = .ok (.iconst 1, 1) := dk_0 (dk_k4 572) (dk_by (j := 12) rfl ck_L_law_35_31law0 rfl rfl rfl)
theorem dL_law_573 : decode cL_law 573 = .ok (.iadd, 1) := dk_0 (dk_k96 573) (dk_by (j := 13) rfl ck_L_law_35_31law0 rfl rfl rfl)
theorem dL_law_574 : decode cL_law 574 = .ok (.iaload, 1) := dk_0 (dk_k46 574) (dk_by (j := 14) rfl ck_L_law_35_31law0 rfl rfl rfl)
theorem dL_law_575 : decode cL_law 575 = .ok (.aload_n 0, 1) := dk_0 (dk_k42 575) (dk_by (j := 15) rfl ck_L_law_35_31law0 rfl rfl rfl)
theorem dL_law_576 : decode cL_law 576 = .ok (.iload_n 3, 1) := dk_0 (dk_k29 576) (dk_by (j := 0) rfl ck_L_law_36_31law0 rfl rfl rfl)
theorem dL_law_577 : decode cL_law 577 = .ok (.iconst 2, 1) := dk_0 (dk_k5 577) (dk_by (j := 1) rfl ck_L_law_36_31law0 rfl rfl rfl)
theorem dL_law_578 : decode cL_law 578 = .ok (.iadd, 1) := dk_0 (dk_k96 578) (dk_by (j := 2) rfl ck_L_law_36_31law0 rfl rfl rfl)
theorem dL_law_579 : decode cL_law 579 = .ok (.iaload, 1) := dk_0 (dk_k46 579) (dk_by (j := 3) rfl ck_L_law_36_31law0 rfl rfl rfl)
theorem dL_law_580 : decode cL_law 580 = .ok (.aload_n 0, 1) := dk_0 (dk_k42 580) (dk_by (j := 4) rfl ck_L_law_36_31law0 rfl rfl rfl)
theorem dL_law_581 : decode cL_law 581 = .ok (.iload_n 3, 1) := dk_0 (dk_k29 581) (dk_by (j := 5) rfl ck_L_law_36_31law0 rfl rfl rfl)
theorem dL_law_582 : decode cL_law 582 = .ok (.iconst 3, 1) := dk_0 (dk_k6 582) (dk_by (j := 6) rfl ck_L_law_36_31law0 rfl rfl rfl)
theorem dL_law_583 : decode cL_law 583 = .ok (.iadd, 1) := dk_0 (dk_k96 583) (dk_by (j := 7) rfl ck_L_law_36_31law0 rfl rfl rfl)
theorem dL_law_584 : decode cL_law 584 = .ok (.iaload, 1) := dk_0 (dk_k46 584) (dk_by (j := 8) rfl ck_L_law_36_31law0 rfl rfl rfl)
theorem dL_law_585 : decode cL_law 585 = .ok (.aload_n 0, 1) := dk_0 (dk_k42 585) (dk_by (j := 9) rfl ck_L_law_36_31law0 rfl rfl rfl)
theorem dL_law_586 : decode cL_law 586 = .ok (.iload_n 3, 1) := dk_0 (dk_k29 586) (dk_by (j := 10) rfl ck_L_law_36_31law0 rfl rfl rfl)
theorem dL_law_587 : decode cL_law 587 = .ok (.iconst 4, 1) := dk_0 (dk_k7 587) (dk_by (j := 11) rfl ck_L_law_36_31law0 rfl rfl rfl)
theorem dL_law_588 : decode cL_law 588 = .ok (.iadd, 1) := dk_0 (dk_k96 588) (dk_by (j := 12) rfl ck_L_law_36_31law0 rfl rfl rfl)
theorem dL_law_589 : decode cL_law 589 = .ok (.iaload, 1) := dk_0 (dk_k46 589) (dk_by (j := 13) rfl ck_L_law_36_31law0 rfl rfl rfl)
theorem gL_law_X12_wave : GoodIn lw_tbl (wsV RL 57 RX12 yX12_wave wsX12_wave) := ru_gL (ru_gV tw_6_189 tw_6_190 tw_6_191 tw_1_12 mT_X12_wave)
theorem dL_law_590 : decode cL_law 590 = .ok (.invokevirtual 57, 3) := dk_2 (dk_k182 590) (dk_by (j := 14) rfl ck_L_law_36_31law0 rfl rfl rfl) (dk_by (j := 15) rfl ck_L_law_36_31law0 rfl rfl rfl) (dk_by (j := 0) rfl ck_L_law_37_31law0 rfl rfl rfl) (by decide)
theorem dL_law_593 : decode cL_law 593 = .ok (.pop, 1) := dk_0 (dk_k87 593) (dk_by (j := 1) rfl ck_L_law_37_31law0 rfl rfl rfl)
theorem dL_law_594 : decode cL_law 594 = .ok (.goto 1240, 3) := dk_s (dk_k167 594) (dk_by (j := 2) rfl ck_L_law_37_31law0 rfl rfl rfl) (dk_by (j := 3) rfl ck_L_law_37_31law0 rfl rfl rfl) (dk_by (j := 4) rfl ck_L_law_37_31law0 rfl rfl rfl) (by decide)
theorem dL_law_597 : decode cL_law 597 = .ok (.aload_n 1, 1) := dk_0 (dk_k43 597) (dk_by (j := 5) rfl ck_L_law_37_31law0 rfl rfl rfl)
theorem dL_law_598 : decode cL_law 598 = .ok (.aload_n 0, 1) := dk_0 (dk_k42 598) (dk_by (j := 6) rfl ck_L_law_37_31law0 rfl rfl rfl)
theorem dL_law_599 : decode cL_law 599 = .ok (.iload_n 3, 1) := dk_0 (dk_k29 599) (dk_by (j := 7) rfl ck_L_law_37_31law0 rfl rfl rfl)
theorem dL_law_600 : decode cL_law 600 = .ok (.iconst 1, 1) := dk_0 (dk_k4 600) (dk_by (j := 8) rfl ck_L_law_37_31law0 rfl rfl rfl)
theorem dL_law_601 : decode cL_law 601 = .ok (.iadd, 1) := dk_0 (dk_k96 601) (dk_by (j := 9) rfl ck_L_law_37_31law0 rfl rfl rfl)
theorem dL_law_602 : decode cL_law 602 = .ok (.iaload, 1) := dk_0 (dk_k46 602) (dk_by (j := 10) rfl ck_L_law_37_31law0 rfl rfl rfl)
theorem dL_law_603 : decode cL_law 603 = .ok (.aload_n 0, 1) := dk_0 (dk_k42 603) (dk_by (j := 11) rfl ck_L_law_37_31law0 rfl rfl rfl)
theorem dL_law_604 : decode cL_law 604 = .ok (.iload_n 3, 1) := dk_0 (dk_k29 604) (dk_by (j := 12) rfl ck_L_law_37_31law0 rfl rfl rfl)
theorem dL_law_605 : decode cL_law 605 = .ok (.iconst 2, 1) := dk_0 (dk_k5 605) (dk_by (j := 13) rfl ck_L_law_37_31law0 rfl rfl rfl)
theorem dL_law_606 : decode cL_law 606 = .ok (.iadd, 1) := dk_0 (dk_k96 606) (dk_by (j := 14) rfl ck_L_law_37_31law0 rfl rfl rfl)
theorem dL_law_607 : decode cL_law 607 = .ok (.iaload, 1) := dk_0 (dk_k46 607) (dk_by (j := 15) rfl ck_L_law_37_31law0 rfl rfl rfl)
theorem dL_law_608 : decode cL_law 608 = .ok (.aload_n 0, 1) := dk_0 (dk_k42 608) (dk_by (j := 0) rfl ck_L_law_38_31law0 rfl rfl rfl)
theorem dL_law_609 : decode cL_law 609 = .ok (.iload_n 3, 1) := dk_0 (dk_k29 609) (dk_by (j := 1) rfl ck_L_law_38_31law0 rfl rfl rfl)
theorem dL_law_610 : decode cL_law 610 = .ok (.iconst 3, 1) := dk_0 (dk_k6 610) (dk_by (j := 2) rfl ck_L_law_38_31law0 rfl rfl rfl)
theorem dL_law_611 : decode cL_law 611 = .ok (.iadd, 1) := dk_0 (dk_k96 611) (dk_by (j := 3) rfl ck_L_law_38_31law0 rfl rfl rfl)
theorem dL_law_612 : decode cL_law 612 = .ok (.iaload, 1) := dk_0 (dk_k46 612) (dk_by (j := 4) rfl ck_L_law_38_31law0 rfl rfl rfl)
theorem dL_law_613 : decode cL_law 613 = .ok (.i2l, 1) := dk_0 (dk_k133 613) (dk_by (j := 5) rfl ck_L_law_38_31law0 rfl rfl rfl)
theorem dL_law_614 : decode cL_law 614 = .ok (.bipush 32, 2) := dk_1 (dk_k16 614) (dk_by (j := 6) rfl ck_L_law_38_31law0 rfl rfl rfl) (dk_by (j := 7) rfl ck_L_law_38_31law0 rfl rfl rfl) (by decide)
theorem dL_law_616 : decode cL_law 616 = .ok (.lshl, 1) := dk_0 (dk_k121 616) (dk_by (j := 8) rfl ck_L_law_38_31law0 rfl rfl rfl)
theorem dL_law_617 : decode cL_law 617 = .ok (.aload_n 0, 1) := dk_0 (dk_k42 617) (dk_by (j := 9) rfl ck_L_law_38_31law0 rfl rfl rfl)
theorem dL_law_618 : decode cL_law 618 = .ok (.iload_n 3, 1) := dk_0 (dk_k29 618) (dk_by (j := 10) rfl ck_L_law_38_31law0 rfl rfl rfl)
theorem dL_law_619 : decode cL_law 619 = .ok (.iconst 4, 1) := dk_0 (dk_k7 619) (dk_by (j := 11) rfl ck_L_law_38_31law0 rfl rfl rfl)
theorem dL_law_620 : decode cL_law 620 = .ok (.iadd, 1) := dk_0 (dk_k96 620) (dk_by (j := 12) rfl ck_L_law_38_31law0 rfl rfl rfl)
theorem dL_law_621 : decode cL_law 621 = .ok (.iaload, 1) := dk_0 (dk_k46 621) (dk_by (j := 13) rfl ck_L_law_38_31law0 rfl rfl rfl)
theorem dL_law_622 : decode cL_law 622 = .ok (.i2l, 1) := dk_0 (dk_k133 622) (dk_by (j := 14) rfl ck_L_law_38_31law0 rfl rfl rfl)
theorem dL_law_623 : decode cL_law 623 = .ok (.ldc2_w 42, 3) := dk_2 (dk_k20 623) (dk_by (j := 15) rfl ck_L_law_38_31law0 rfl rfl rfl) (dk_by (j := 0) rfl ck_L_law_39_31law0 rfl rfl rfl) (dk_by (j := 1) rfl ck_L_law_39_31law0 rfl rfl rfl) (by decide)
theorem dL_law_626 : decode cL_law 626 = .ok (.land, 1) := dk_0 (dk_k127 626) (dk_by (j := 2) rfl ck_L_law_39_31law0 rfl rfl rfl)
theorem dL_law_627 : decode cL_law 627 = .ok (.lor, 1) := dk_0 (dk_k129 627) (dk_by (j := 3) rfl ck_L_law_39_31law0 rfl rfl rfl)
theorem gL_law_X11_call : GoodIn lw_tbl (wsV RL 58 RX11 yX11_call wsX11_call) := ru_gL (ru_gV tw_3_95 tw_3_96 tw_3_97 tw_1_1 mT_X11_call)
theorem dL_law_628 : decode cL_law 628 = .ok (.invokevirtual 58, 3) := dk_2 (dk_k182 628) (dk_by (j := 4) rfl ck_L_law_39_31law0 rfl rfl rfl) (dk_by (j := 5) rfl ck_L_law_39_31law0 rfl rfl rfl) (dk_by (j := 6) rfl ck_L_law_39_31law0 rfl rfl rfl) (by decide)
theorem dL_law_631 : decode cL_law 631 = .ok (.pop, 1) := dk_0 (dk_k87 631) (dk_by (j := 7) rfl ck_L_law_39_31law0 rfl rfl rfl)
theorem dL_law_632 : decode cL_law 632 = .ok (.aload_n 2, 1) := dk_0 (dk_k44 632) (dk_by (j := 8) rfl ck_L_law_39_31law0 rfl rfl rfl)
theorem dL_law_633 : decode cL_law 633 = .ok (.aload_n 0, 1) := dk_0 (dk_k42 633) (dk_by (j := 9) rfl ck_L_law_39_31law0 rfl rfl rfl)
theorem dL_law_634 : decode cL_law 634 = .ok (.iload_n 3, 1) := dk_0 (dk_k29 634) (dk_by (j := 10) rfl ck_L_law_39_31law0 rfl rfl rfl)
theorem dL_law_635 : decode cL_law 635 = .ok (.iconst 1, 1) := dk_0 (dk_k4 635) (dk_by (j := 11) rfl ck_L_law_39_31law0 rfl rfl rfl)
theorem dL_law_636 : decode cL_law 636 = .ok (.iadd, 1) := dk_0 (dk_k96 636) (dk_by (j := 12) rfl ck_L_law_39_31law0 rfl rfl rfl)
theorem dL_law_637 : decode cL_law 637 = .ok (.iaload, 1) := dk_0 (dk_k46 637) (dk_by (j := 13) rfl ck_L_law_39_31law0 rfl rfl rfl)
theorem dL_law_638 : decode cL_law 638 = .ok (.aload_n 0, 1) := dk_0 (dk_k42 638) (dk_by (j := 14) rfl ck_L_law_39_31law0 rfl rfl rfl)
theorem dL_law_639 : decode cL_law 639 = .ok (.iload_n 3, 1) := dk_0 (dk_k29 639) (dk_by (j := 15) rfl ck_L_law_39_31law0 rfl rfl rfl)
theorem dL_law_640 : decode cL_law 640 = .ok (.iconst 2, 1) := dk_0 (dk_k5 640) (dk_by (j := 0) rfl ck_L_law_40_31law0 rfl rfl rfl)
theorem dL_law_641 : decode cL_law 641 = .ok (.iadd, 1) := dk_0 (dk_k96 641) (dk_by (j := 1) rfl ck_L_law_40_31law0 rfl rfl rfl)
theorem dL_law_642 : decode cL_law 642 = .ok (.iaload, 1) := dk_0 (dk_k46 642) (dk_by (j := 2) rfl ck_L_law_40_31law0 rfl rfl rfl)
theorem dL_law_643 : decode cL_law 643 = .ok (.aload_n 0, 1) := dk_0 (dk_k42 643) (dk_by (j := 3) rfl ck_L_law_40_31law0 rfl rfl rfl)
theorem dL_law_644 : decode cL_law 644 = .ok (.iload_n 3, 1) := dk_0 (dk_k29 644) (dk_by (j := 4) rfl ck_L_law_40_31law0 rfl rfl rfl)
theorem dL_law_645 : decode cL_law 645 = .ok (.iconst 3, 1) := dk_0 (dk_k6 645) (dk_by (j := 5) rfl ck_L_law_40_31law0 rfl rfl rfl)
theorem dL_law_646 : decode cL_law 646 = .ok (.iadd, 1) := dk_0 (dk_k96 646) (dk_by (j := 6) rfl ck_L_law_40_31law0 rfl rfl rfl)
theorem dL_law_647 : decode cL_law 647 = .ok (.iaload, 1) := dk_0 (dk_k46 647) (dk_by (j := 7) rfl ck_L_law_40_31law0 rfl rfl rfl)
theorem dL_law_648 : decode cL_law 648 = .ok (.i2l, 1) := dk_0 (dk_k133 648) (dk_by (j := 8) rfl ck_L_law_40_31law0 rfl rfl rfl)
theorem dL_law_649 : decode cL_law 649 = .ok (.bipush 32, 2) := dk_1 (dk_k16 649) (dk_by (j := 9) rfl ck_L_law_40_31law0 rfl rfl rfl) (dk_by (j := 10) rfl ck_L_law_40_31law0 rfl rfl rfl) (by decide)
theorem dL_law_651 : decode cL_law 651 = .ok (.lshl, 1) := dk_0 (dk_k121 651) (dk_by (j := 11) rfl ck_L_law_40_31law0 rfl rfl rfl)
theorem dL_law_652 : decode cL_law 652 = .ok (.aload_n 0, 1) := dk_0 (dk_k42 652) (dk_by (j := 12) rfl ck_L_law_40_31law0 rfl rfl rfl)
theorem dL_law_653 : decode cL_law 653 = .ok (.iload_n 3, 1) := dk_0 (dk_k29 653) (dk_by (j := 13) rfl ck_L_law_40_31law0 rfl rfl rfl)
theorem dL_law_654 : decode cL_law 654 = .ok (.iconst 4, 1) := dk_0 (dk_k7 654) (dk_by (j := 14) rfl ck_L_law_40_31law0 rfl rfl rfl)
theorem dL_law_655 : decode cL_law 655 = .ok (.iadd, 1) := dk_0 (dk_k96 655) (dk_by (j := 15) rfl ck_L_law_40_31law0 rfl rfl rfl)
theorem dL_law_656 : decode cL_law 656 = .ok (.iaload, 1) := dk_0 (dk_k46 656) (dk_by (j := 0) rfl ck_L_law_41_31law0 rfl rfl rfl)
theorem dL_law_657 : decode cL_law 657 = .ok (.i2l, 1) := dk_0 (dk_k133 657) (dk_by (j := 1) rfl ck_L_law_41_31law0 rfl rfl rfl)
theorem dL_law_658 : decode cL_law 658 = .ok (.ldc2_w 42, 3) := dk_2 (dk_k20 658) (dk_by (j := 2) rfl ck_L_law_41_31law0 rfl rfl rfl) (dk_by (j := 3) rfl ck_L_law_41_31law0 rfl rfl rfl) (dk_by (j := 4) rfl ck_L_law_41_31law0 rfl rfl rfl) (by decide)
theorem dL_law_661 : decode cL_law 661 = .ok (.land, 1) := dk_0 (dk_k127 661) (dk_by (j := 5) rfl ck_L_law_41_31law0 rfl rfl rfl)
theorem dL_law_662 : decode cL_law 662 = .ok (.lor, 1) := dk_0 (dk_k129 662) (dk_by (j := 6) rfl ck_L_law_41_31law0 rfl rfl rfl)
theorem gL_law_X12_call : GoodIn lw_tbl (wsV RL 61 RX12 yX12_call wsX12_call) := ru_gL (ru_gV tw_6_196 tw_6_197 tw_6_198 tw_1_12 mT_X12_call)
theorem dL_law_663 : decode cL_law 663 = .ok (.invokevirtual 61, 3) := dk_2 (dk_k182 663) (dk_by (j := 7) rfl ck_L_law_41_31law0 rfl rfl rfl) (dk_by (j := 8) rfl ck_L_law_41_31law0 rfl rfl rfl) (dk_by (j := 9) rfl ck_L_law_41_31law0 rfl rfl rfl) (by decide)
theorem dL_law_666 : decode cL_law 666 = .ok (.pop, 1) := dk_0 (dk_k87 666) (dk_by (j := 10) rfl ck_L_law_41_31law0 rfl rfl rfl)
theorem dL_law_667 : decode cL_law 667 = .ok (.goto 1167, 3) := dk_s (dk_k167 667) (dk_by (j := 11) rfl ck_L_law_41_31law0 rfl rfl rfl) (dk_by (j := 12) rfl ck_L_law_41_31law0 rfl rfl rfl) (dk_by (j := 13) rfl ck_L_law_41_31law0 rfl rfl rfl) (by decide)
set_option maxHeartbeats 1000000 in
set_option maxRecDepth 20000 in
theorem lb_0 {p : Program} {l : Launch} {e : Env} {s : State} {m : MethodId} {below : List Frame} {meth : Method} {c : Code} {D : va_G} {ad : Nat → Nat → Nat} {C : Nat → Nat → ClassId} {nb : Nat} {M : fm_M} {b L : Nat} {xs : Nat → Int32} {H : Heap} {locs : List Loc} {kc sl : Nat} {i : Int32} (C0 : lw_At p s m meth c b L xs) (hkc : kc ≤ 10000) (hsl : sl ≤ 300000) (hc : fm_Cx D ad C nb (fun q : Nat => s.heap.size ≤ q) s) (hw : fm_at D ad C nb M H) (hI : fm_I nb ad M) (hS : va_S (fun q : Nat => s.heap.size ≤ q) s.heap H locs) (hi : 0 ≤ i.toInt ∧ i.toInt + 6 ≤ L) (hL : L ≤ 3072) (hrel : M.1 0 0 10 = M.1 60 0 16 ∧ (∀ j : Nat, j < nb → M.1 50 j 0 = M.1 110 0 j) ∧ (∀ j : Nat, j < nb → M.1 50 j 3 = M.1 113 0 j)) (kk : ∀ (M1 : fm_M) (H1 : Heap) (locs1 : List Loc), fm_at D ad C nb M1 H1 → fm_I nb ad M1 → va_S (fun q : Nat => s.heap.size ≤ q) s.heap H1 locs1 → M1.1 0 0 10 = M1.1 60 0 16 ∧ (∀ j : Nat, j < nb → M1.1 50 j 0 = M1.1 110 0 j) ∧ (∀ j : Nat, j < nb → M1.1 50 j 3 = M1.1 113 0 j) → ∀ ls : Array Slot, lv_has ls 4 [(3, .int i), (2, .ref (ad 60 0)), (1, .ref (ad 0 0)), (0, .ref b)] → W p l e room_1 s m #[Value.ref b] below meth c H1 locs1 kc sl (lw_Z below #[Value.ref b] s) (F0 m 1834 ls [])) (ls : Array Slot) (hl : lv_has ls 4 [(3, .int i), (2, .ref (ad 60 0)), (1, .ref (ad 0 0)), (0, .ref b)]) : W p l e room_1 s m #[Value.ref b] below meth c H locs kc sl (lw_Z below #[Value.ref b] s) (F0 m 200 ls []) := by
  obtain ⟨hx, hb, hr, hml, hown, hts, hX, hbl, hlocks, hgv⟩ := id C0
  have hown : s.vm.findClass RL = some m.cls := hown
  have hb : c.code = cL_law := hb
  have hbA : ¬ (fun q : Nat => s.heap.size ≤ q) b := Nat.not_le.mpr hbl
  have hk1 : kc + 0 ≤ room_1.cells := by show kc + 0 ≤ 600000; omega
  have hs1 : sl + 0 ≤ room_1.slots := by show sl + 0 ≤ 7302250; omega
  have hI0 := hI
  refine lv_aload_n hx hb dL_law_200 rfl (lv_at hl 2 rfl) ?_
  refine lv_aload_n hx hb dL_law_201 rfl (lv_at hl 3 rfl) ?_
  refine lv_iload_n hx hb dL_law_202 rfl (lv_at hl 0 rfl) ?_
  refine lv_iconst (v := 1) hx hb dL_law_203 (by decide) ?_
  refine fx_iadd hx hb dL_law_204 rfl zk_1 (by omega) (fun y1 ey1 ty1 => ?_)
  refine va_sld hx hb hX hbl hbA hS (fm_in (by omega)) dL_law_205 ?_
  refine lv_topi (fun x2 ex2 => ?_)
  refine fm_ci (va_runV (As := [.int x2]) (rest := []) ⟨hx, hb, hml, hown, hts⟩ (fc_X11_pass l D ad C nb M hI x2) (cwV 1 hts gL_law_X11_pass rfl rfl rfl (by decide +kernel) ⟨Nat.le_of_ble_eq_true rfl, Nat.le_of_ble_eq_true rfl⟩) (fm_preV hc hw hS kl_0 sh_0 rfl) rfl rfl hl.1 rfl (lv_room (Nat.le_of_ble_eq_true rfl)) dL_law_206 ⟨hk1, hs1⟩) hS hc (fun r3 M4 H locs hr3 hw hS => ?_)
  obtain ⟨hI, hEM4, hr3⟩ := hr3
  refine lv_pop hx hb dL_law_209 rfl ?_
  refine lv_aload_n hx hb dL_law_210 rfl (lv_at hl 1 rfl) ?_
  refine lv_aload_n hx hb dL_law_211 rfl (lv_at hl 3 rfl) ?_
  refine lv_iload_n hx hb dL_law_212 rfl (lv_at hl 0 rfl) ?_
  refine lv_iconst (v := 1) hx hb dL_law_213 (by decide) ?_
  refine fx_iadd hx hb dL_law_214 rfl zk_1 (by omega) (fun y5 ey5 ty5 => ?_)
  refine va_sld hx hb hX hbl hbA hS (fm_in (by omega)) dL_law_215 ?_
  refine lv_topi (fun x6 ex6 => ?_)
  have qx6 : x2 = x6 := by rw [ex6, ex2, ey5, ey1]
  clear ex6
  subst qx6
  refine fm_ci (va_runV (As := [.int x2]) (rest := []) ⟨hx, hb, hml, hown, hts⟩ (fc_X12_pass l D ad C nb M4 hI x2) (cwV 1 hts gL_law_X12_pass rfl rfl rfl (by decide +kernel) ⟨Nat.le_of_ble_eq_true rfl, Nat.le_of_ble_eq_true rfl⟩) (fm_preV hc hw hS kl_60 sh_60 rfl) rfl rfl hl.1 rfl (lv_room (Nat.le_of_ble_eq_true rfl)) dL_law_216 ⟨hk1, hs1⟩) hS hc (fun r7 M8 H locs hr7 hw hS => ?_)
  obtain ⟨hI, hEM8, hr7⟩ := hr7
  refine lv_pop hx hb dL_law_219 rfl ?_
  refine lv_goto (tgt := 1834) hx hb dL_law_220 (by decide) ?_
  have hr90 : M8.1 0 0 10 = M8.1 60 0 16 := by rw [(hEM8 0 0 10 (by decide)).1, (hEM4 0 0 10 (by decide)).1, (hEM8 60 0 16 (by decide)).1, (hEM4 60 0 16 (by decide)).1]; exact hrel.1
  have hr91 : (∀ j : Nat, j < nb → M8.1 50 j 0 = M8.1 110 0 j) := fun j hj => by rw [(hEM8 50 j 0 (by decide)).1, (hEM4 50 j 0 (by decide)).1, (hEM8 110 0 j (by rw [cd_110]; decide)).1, (hEM4 110 0 j (by rw [cd_110]; decide)).1]; exact hrel.2.1 j hj
  have hr92 : (∀ j : Nat, j < nb → M8.1 50 j 3 = M8.1 113 0 j) := fun j hj => by rw [(hEM8 50 j 3 (by decide)).1, (hEM4 50 j 3 (by decide)).1, (hEM8 113 0 j (by rw [cd_113]; decide)).1, (hEM4 113 0 j (by rw [cd_113]; decide)).1]; exact hrel.2.2 j hj
  have hrel9 : M8.1 0 0 10 = M8.1 60 0 16 ∧ (∀ j : Nat, j < nb → M8.1 50 j 0 = M8.1 110 0 j) ∧ (∀ j : Nat, j < nb → M8.1 50 j 3 = M8.1 113 0 j) := ⟨hr90, hr91, hr92⟩
  exact kk M8 _ _ hw hI hS hrel9 ls (lv_sub hl [0, 1, 2, 3] rfl)
set_option maxHeartbeats 1000000 in
set_option maxRecDepth 20000 in
theorem lb_1 {p : Program} {l : Launch} {e : Env} {s : State} {m : MethodId} {below : List Frame} {meth : Method} {c : Code} {D : va_G} {ad : Nat → Nat → Nat} {C : Nat → Nat → ClassId} {nb : Nat} {M : fm_M} {b L : Nat} {xs : Nat → Int32} {H : Heap} {locs : List Loc} {kc sl : Nat} {i : Int32} (C0 : lw_At p s m meth c b L xs) (hkc : kc ≤ 10000) (hsl : sl ≤ 300000) (hc : fm_Cx D ad C nb (fun q : Nat => s.heap.size ≤ q) s) (hw : fm_at D ad C nb M H) (hI : fm_I nb ad M) (hS : va_S (fun q : Nat => s.heap.size ≤ q) s.heap H locs) (hi : 0 ≤ i.toInt ∧ i.toInt + 6 ≤ L) (hL : L ≤ 3072) (hrel : M.1 0 0 10 = M.1 60 0 16 ∧ (∀ j : Nat, j < nb → M.1 50 j 0 = M.1 110 0 j) ∧ (∀ j : Nat, j < nb → M.1 50 j 3 = M.1 113 0 j)) (kk : ∀ (M1 : fm_M) (H1 : Heap) (locs1 : List Loc), fm_at D ad C nb M1 H1 → fm_I nb ad M1 → va_S (fun q : Nat => s.heap.size ≤ q) s.heap H1 locs1 → M1.1 0 0 10 = M1.1 60 0 16 ∧ (∀ j : Nat, j < nb → M1.1 50 j 0 = M1.1 110 0 j) ∧ (∀ j : Nat, j < nb → M1.1 50 j 3 = M1.1 113 0 j) → ∀ ls : Array Slot, lv_has ls 4 [(3, .int i), (2, .ref (ad 60 0)), (1, .ref (ad 0 0)), (0, .ref b)] → W p l e room_1 s m #[Value.ref b] below meth c H1 locs1 kc sl (lw_Z below #[Value.ref b] s) (F0 m 1834 ls [])) (ls : Array Slot) (hl : lv_has ls 4 [(3, .int i), (2, .ref (ad 60 0)), (1, .ref (ad 0 0)), (0, .ref b)]) : W p l e room_1 s m #[Value.ref b] below meth c H locs kc sl (lw_Z below #[Value.ref b] s) (F0 m 223 ls []) := by
  obtain ⟨hx, hb, hr, hml, hown, hts, hX, hbl, hlocks, hgv⟩ := id C0
  have hown : s.vm.findClass RL = some m.cls := hown
  have hb : c.code = cL_law := hb
  have hbA : ¬ (fun q : Nat => s.heap.size ≤ q) b := Nat.not_le.mpr hbl
  have hk1 : kc + 0 ≤ room_1.cells := by show kc + 0 ≤ 600000; omega
  have hs1 : sl + 0 ≤ room_1.slots := by show sl + 0 ≤ 7302250; omega
  have hI0 := hI
  refine lv_aload_n hx hb dL_law_223 rfl (lv_at hl 2 rfl) ?_
  refine lv_aload_n hx hb dL_law_224 rfl (lv_at hl 3 rfl) ?_
  refine lv_iload_n hx hb dL_law_225 rfl (lv_at hl 0 rfl) ?_
  refine lv_iconst (v := 1) hx hb dL_law_226 (by decide) ?_
  refine fx_iadd hx hb dL_law_227 rfl zk_1 (by omega) (fun y1 ey1 ty1 => ?_)
  refine va_sld hx hb hX hbl hbA hS (fm_in (by omega)) dL_law_228 ?_
  refine lv_topi (fun x2 ex2 => ?_)
  refine lv_aload_n hx hb dL_law_229 rfl (lv_at hl 3 rfl) ?_
  refine lv_iload_n hx hb dL_law_230 rfl (lv_at hl 0 rfl) ?_
  refine lv_iconst (v := 2) hx hb dL_law_231 (by decide) ?_
  refine fx_iadd hx hb dL_law_232 rfl zk_2 (by omega) (fun y3 ey3 ty3 => ?_)
  refine va_sld hx hb hX hbl hbA hS (fm_in (by omega)) dL_law_233 ?_
  refine lv_topi (fun x4 ex4 => ?_)
  refine lv_aload_n hx hb dL_law_234 rfl (lv_at hl 3 rfl) ?_
  refine lv_iload_n hx hb dL_law_235 rfl (lv_at hl 0 rfl) ?_
  refine lv_iconst (v := 3) hx hb dL_law_236 (by decide) ?_
  refine fx_iadd hx hb dL_law_237 rfl zk_3 (by omega) (fun y5 ey5 ty5 => ?_)
  refine va_sld hx hb hX hbl hbA hS (fm_in (by omega)) dL_law_238 ?_
  refine lv_topi (fun x6 ex6 => ?_)
  refine fm_ci (va_runV (As := [.int x2, .int x4, .int x6]) (rest := []) ⟨hx, hb, hml, hown, hts⟩ (fc_X11_wind l D ad C nb M hI x2 x4 x6) (cwV 3 hts gL_law_X11_wind rfl rfl rfl (by decide +kernel) ⟨Nat.le_of_ble_eq_true rfl, Nat.le_of_ble_eq_true rfl⟩) (fm_preV hc hw hS kl_0 sh_0 rfl) rfl rfl hl.1 rfl (lv_room (Nat.le_of_ble_eq_true rfl)) dL_law_239 ⟨hk1, hs1⟩) hS hc (fun r7 M8 H locs hr7 hw hS => ?_)
  obtain ⟨hI, hEM8, hr7⟩ := hr7
  refine lv_pop hx hb dL_law_242 rfl ?_
  refine lv_aload_n hx hb dL_law_243 rfl (lv_at hl 1 rfl) ?_
  refine lv_aload_n hx hb dL_law_244 rfl (lv_at hl 3 rfl) ?_
  refine lv_iload_n hx hb dL_law_245 rfl (lv_at hl 0 rfl) ?_
  refine lv_iconst (v := 1) hx hb dL_law_246 (by decide) ?_
  refine fx_iadd hx hb dL_law_247 rfl zk_1 (by omega) (fun y9 ey9 ty9 => ?_)
  refine va_sld hx hb hX hbl hbA hS (fm_in (by omega)) dL_law_248 ?_
  refine lv_topi (fun x10 ex10 => ?_)
  have qx10 : x2 = x10 := by rw [ex10, ex2, ey9, ey1]
  clear ex10
  subst qx10
  refine lv_aload_n hx hb dL_law_249 rfl (lv_at hl 3 rfl) ?_
  refine lv_iload_n hx hb dL_law_250 rfl (lv_at hl 0 rfl) ?_
  refine lv_iconst (v := 2) hx hb dL_law_251 (by decide) ?_
  refine fx_iadd hx hb dL_law_252 rfl zk_2 (by omega) (fun y11 ey11 ty11 => ?_)
  refine va_sld hx hb hX hbl hbA hS (fm_in (by omega)) dL_law_253 ?_
  refine lv_topi (fun x12 ex12 => ?_)
  have qx12 : x4 = x12 := by rw [ex12, ex4, ey11, ey3]
  clear ex12
  subst qx12
  refine lv_aload_n hx hb dL_law_254 rfl (lv_at hl 3 rfl) ?_
  refine lv_iload_n hx hb dL_law_255 rfl (lv_at hl 0 rfl) ?_
  refine lv_iconst (v := 3) hx hb dL_law_256 (by decide) ?_
  refine fx_iadd hx hb dL_law_257 rfl zk_3 (by omega) (fun y13 ey13 ty13 => ?_)
  refine va_sld hx hb hX hbl hbA hS (fm_in (by omega)) dL_law_258 ?_
  refine lv_topi (fun x14 ex14 => ?_)
  have qx14 : x6 = x14 := by rw [ex14, ex6, ey13, ey5]
  clear ex14
  subst qx14
  refine fm_ci (va_runV (As := [.int x2, .int x4, .int x6]) (rest := []) ⟨hx, hb, hml, hown, hts⟩ (fc_X12_wind l D ad C nb M8 hI x2 x4 x6) (cwV 3 hts gL_law_X12_wind rfl rfl rfl (by decide +kernel) ⟨Nat.le_of_ble_eq_true rfl, Nat.le_of_ble_eq_true rfl⟩) (fm_preV hc hw hS kl_60 sh_60 rfl) rfl rfl hl.1 rfl (lv_room (Nat.le_of_ble_eq_true rfl)) dL_law_259 ⟨hk1, hs1⟩) hS hc (fun r15 M16 H locs hr15 hw hS => ?_)
  obtain ⟨hI, hEM16, hr15⟩ := hr15
  refine lv_pop hx hb dL_law_262 rfl ?_
  refine lv_goto (tgt := 1834) hx hb dL_law_263 (by decide) ?_
  have hr90 : M16.1 0 0 10 = M16.1 60 0 16 := by rw [(hEM16 0 0 10 (by decide)).1, (hEM8 0 0 10 (by decide)).1, (hEM16 60 0 16 (by decide)).1, (hEM8 60 0 16 (by decide)).1]; exact hrel.1
  have hr91 : (∀ j : Nat, j < nb → M16.1 50 j 0 = M16.1 110 0 j) := fun j hj => by rw [(hEM16 50 j 0 (by decide)).1, (hEM8 50 j 0 (by decide)).1, (hEM16 110 0 j (by rw [cd_110]; decide)).1, (hEM8 110 0 j (by rw [cd_110]; decide)).1]; exact hrel.2.1 j hj
  have hr92 : (∀ j : Nat, j < nb → M16.1 50 j 3 = M16.1 113 0 j) := fun j hj => by rw [(hEM16 50 j 3 (by decide)).1, (hEM8 50 j 3 (by decide)).1, (hEM16 113 0 j (by rw [cd_113]; decide)).1, (hEM8 113 0 j (by rw [cd_113]; decide)).1]; exact hrel.2.2 j hj
  have hrel9 : M16.1 0 0 10 = M16.1 60 0 16 ∧ (∀ j : Nat, j < nb → M16.1 50 j 0 = M16.1 110 0 j) ∧ (∀ j : Nat, j < nb → M16.1 50 j 3 = M16.1 113 0 j) := ⟨hr90, hr91, hr92⟩
  exact kk M16 _ _ hw hI hS hrel9 ls (lv_sub hl [0, 1, 2, 3] rfl)
set_option maxHeartbeats 1000000 in
set_option maxRecDepth 20000 in
theorem lb_2 {p : Program} {l : Launch} {e : Env} {s : State} {m : MethodId} {below : List Frame} {meth : Method} {c : Code} {D : va_G} {ad : Nat → Nat → Nat} {C : Nat → Nat → ClassId} {nb : Nat} {M : fm_M} {b L : Nat} {xs : Nat → Int32} {H : Heap} {locs : List Loc} {kc sl : Nat} {i : Int32} (C0 : lw_At p s m meth c b L xs) (hkc : kc ≤ 10000) (hsl : sl ≤ 300000) (hc : fm_Cx D ad C nb (fun q : Nat => s.heap.size ≤ q) s) (hw : fm_at D ad C nb M H) (hI : fm_I nb ad M) (hS : va_S (fun q : Nat => s.heap.size ≤ q) s.heap H locs) (hi : 0 ≤ i.toInt ∧ i.toInt + 6 ≤ L) (hL : L ≤ 3072) (hrel : M.1 0 0 10 = M.1 60 0 16 ∧ (∀ j : Nat, j < nb → M.1 50 j 0 = M.1 110 0 j) ∧ (∀ j : Nat, j < nb → M.1 50 j 3 = M.1 113 0 j)) (kk : ∀ (M1 : fm_M) (H1 : Heap) (locs1 : List Loc), fm_at D ad C nb M1 H1 → fm_I nb ad M1 → va_S (fun q : Nat => s.heap.size ≤ q) s.heap H1 locs1 → M1.1 0 0 10 = M1.1 60 0 16 ∧ (∀ j : Nat, j < nb → M1.1 50 j 0 = M1.1 110 0 j) ∧ (∀ j : Nat, j < nb → M1.1 50 j 3 = M1.1 113 0 j) → ∀ ls : Array Slot, lv_has ls 4 [(3, .int i), (2, .ref (ad 60 0)), (1, .ref (ad 0 0)), (0, .ref b)] → W p l e room_1 s m #[Value.ref b] below meth c H1 locs1 kc sl (lw_Z below #[Value.ref b] s) (F0 m 1834 ls [])) (ls : Array Slot) (hl : lv_has ls 4 [(3, .int i), (2, .ref (ad 60 0)), (1, .ref (ad 0 0)), (0, .ref b)]) : W p l e room_1 s m #[Value.ref b] below meth c H locs kc sl (lw_Z below #[Value.ref b] s) (F0 m 266 ls []) := by
  obtain ⟨hx, hb, hr, hml, hown, hts, hX, hbl, hlocks, hgv⟩ := id C0
  have hown : s.vm.findClass RL = some m.cls := hown
  have hb : c.code = cL_law := hb
  have hbA : ¬ (fun q : Nat => s.heap.size ≤ q) b := Nat.not_le.mpr hbl
  have hk1 : kc + 0 ≤ room_1.cells := by show kc + 0 ≤ 600000; omega
  have hs1 : sl + 0 ≤ room_1.slots := by show sl + 0 ≤ 7302250; omega
  have hI0 := hI
  refine lv_aload_n hx hb dL_law_266 rfl (lv_at hl 2 rfl) ?_
  refine lv_aload_n hx hb dL_law_267 rfl (lv_at hl 3 rfl) ?_
  refine lv_iload_n hx hb dL_law_268 rfl (lv_at hl 0 rfl) ?_
  refine lv_iconst (v := 1) hx hb dL_law_269 (by decide) ?_
  refine fx_iadd hx hb dL_law_270 rfl zk_1 (by omega) (fun y1 ey1 ty1 => ?_)
  refine va_sld hx hb hX hbl hbA hS (fm_in (by omega)) dL_law_271 ?_
  refine lv_topi (fun x2 ex2 => ?_)
  refine lv_aload_n hx hb dL_law_272 rfl (lv_at hl 3 rfl) ?_
  refine lv_iload_n hx hb dL_law_273 rfl (lv_at hl 0 rfl) ?_
  refine lv_iconst (v := 2) hx hb dL_law_274 (by decide) ?_
  refine fx_iadd hx hb dL_law_275 rfl zk_2 (by omega) (fun y3 ey3 ty3 => ?_)
  refine va_sld hx hb hX hbl hbA hS (fm_in (by omega)) dL_law_276 ?_
  refine lv_topi (fun x4 ex4 => ?_)
  refine lv_aload_n hx hb dL_law_277 rfl (lv_at hl 3 rfl) ?_
  refine lv_iload_n hx hb dL_law_278 rfl (lv_at hl 0 rfl) ?_
  refine lv_iconst (v := 3) hx hb dL_law_279 (by decide) ?_
  refine fx_iadd hx hb dL_law_280 rfl zk_3 (by omega) (fun y5 ey5 ty5 => ?_)
  refine va_sld hx hb hX hbl hbA hS (fm_in (by omega)) dL_law_281 ?_
  refine lv_topi (fun x6 ex6 => ?_)
  refine fm_ci (va_runV (As := [.int x2, .int x4, .int x6]) (rest := []) ⟨hx, hb, hml, hown, hts⟩ (fc_X11_fog l D ad C nb M hI x2 x4 x6) (cwV 3 hts gL_law_X11_fog rfl rfl rfl (by decide +kernel) ⟨Nat.le_of_ble_eq_true rfl, Nat.le_of_ble_eq_true rfl⟩) (fm_preV hc hw hS kl_0 sh_0 rfl) rfl rfl hl.1 rfl (lv_room (Nat.le_of_ble_eq_true rfl)) dL_law_282 ⟨hk1, hs1⟩) hS hc (fun r7 M8 H locs hr7 hw hS => ?_)
  obtain ⟨hI, hEM8, hr7⟩ := hr7
  refine lv_pop hx hb dL_law_285 rfl ?_
  refine lv_aload_n hx hb dL_law_286 rfl (lv_at hl 1 rfl) ?_
  refine lv_aload_n hx hb dL_law_287 rfl (lv_at hl 3 rfl) ?_
  refine lv_iload_n hx hb dL_law_288 rfl (lv_at hl 0 rfl) ?_
  refine lv_iconst (v := 1) hx hb dL_law_289 (by decide) ?_
  refine fx_iadd hx hb dL_law_290 rfl zk_1 (by omega) (fun y9 ey9 ty9 => ?_)
  refine va_sld hx hb hX hbl hbA hS (fm_in (by omega)) dL_law_291 ?_
  refine lv_topi (fun x10 ex10 => ?_)
  have qx10 : x2 = x10 := by rw [ex10, ex2, ey9, ey1]
  clear ex10
  subst qx10
  refine lv_aload_n hx hb dL_law_292 rfl (lv_at hl 3 rfl) ?_
  refine lv_iload_n hx hb dL_law_293 rfl (lv_at hl 0 rfl) ?_
  refine lv_iconst (v := 2) hx hb dL_law_294 (by decide) ?_
  refine fx_iadd hx hb dL_law_295 rfl zk_2 (by omega) (fun y11 ey11 ty11 => ?_)
  refine va_sld hx hb hX hbl hbA hS (fm_in (by omega)) dL_law_296 ?_
  refine lv_topi (fun x12 ex12 => ?_)
  have qx12 : x4 = x12 := by rw [ex12, ex4, ey11, ey3]
  clear ex12
  subst qx12
  refine lv_aload_n hx hb dL_law_297 rfl (lv_at hl 3 rfl) ?_
  refine lv_iload_n hx hb dL_law_298 rfl (lv_at hl 0 rfl) ?_
  refine lv_iconst (v := 3) hx hb dL_law_299 (by decide) ?_
  refine fx_iadd hx hb dL_law_300 rfl zk_3 (by omega) (fun y13 ey13 ty13 => ?_)
  refine va_sld hx hb hX hbl hbA hS (fm_in (by omega)) dL_law_301 ?_
  refine lv_topi (fun x14 ex14 => ?_)
  have qx14 : x6 = x14 := by rw [ex14, ex6, ey13, ey5]
  clear ex14
  subst qx14
  refine fm_ci (va_runV (As := [.int x2, .int x4, .int x6]) (rest := []) ⟨hx, hb, hml, hown, hts⟩ (fc_X12_fog l D ad C nb M8 hI x2 x4 x6) (cwV 3 hts gL_law_X12_fog rfl rfl rfl (by decide +kernel) ⟨Nat.le_of_ble_eq_true rfl, Nat.le_of_ble_eq_true rfl⟩) (fm_preV hc hw hS kl_60 sh_60 rfl) rfl rfl hl.1 rfl (lv_room (Nat.le_of_ble_eq_true rfl)) dL_law_302 ⟨hk1, hs1⟩) hS hc (fun r15 M16 H locs hr15 hw hS => ?_)
  obtain ⟨hI, hEM16, hr15⟩ := hr15
  refine lv_pop hx hb dL_law_305 rfl ?_
  refine lv_goto (tgt := 1834) hx hb dL_law_306 (by decide) ?_
  have hr90 : M16.1 0 0 10 = M16.1 60 0 16 := by rw [(hEM16 0 0 10 (by decide)).1, (hEM8 0 0 10 (by decide)).1, (hEM16 60 0 16 (by decide)).1, (hEM8 60 0 16 (by decide)).1]; exact hrel.1
  have hr91 : (∀ j : Nat, j < nb → M16.1 50 j 0 = M16.1 110 0 j) := fun j hj => by rw [(hEM16 50 j 0 (by decide)).1, (hEM8 50 j 0 (by decide)).1, (hEM16 110 0 j (by rw [cd_110]; decide)).1, (hEM8 110 0 j (by rw [cd_110]; decide)).1]; exact hrel.2.1 j hj
  have hr92 : (∀ j : Nat, j < nb → M16.1 50 j 3 = M16.1 113 0 j) := fun j hj => by rw [(hEM16 50 j 3 (by decide)).1, (hEM8 50 j 3 (by decide)).1, (hEM16 113 0 j (by rw [cd_113]; decide)).1, (hEM8 113 0 j (by rw [cd_113]; decide)).1]; exact hrel.2.2 j hj
  have hrel9 : M16.1 0 0 10 = M16.1 60 0 16 ∧ (∀ j : Nat, j < nb → M16.1 50 j 0 = M16.1 110 0 j) ∧ (∀ j : Nat, j < nb → M16.1 50 j 3 = M16.1 113 0 j) := ⟨hr90, hr91, hr92⟩
  exact kk M16 _ _ hw hI hS hrel9 ls (lv_sub hl [0, 1, 2, 3] rfl)
set_option maxHeartbeats 1000000 in
set_option maxRecDepth 20000 in
theorem lb_3m {p : Program} {l : Launch} {e : Env} {s : State} {m : MethodId} {below : List Frame} {meth : Method} {c : Code} {D : va_G} {ad : Nat → Nat → Nat} {C : Nat → Nat → ClassId} {nb : Nat} {M : fm_M} {b L : Nat} {xs : Nat → Int32} {H : Heap} {locs : List Loc} {kc sl : Nat} {i : Int32} {nb0 : Nat} {M0 : fm_M} {rb : Int32} (C0 : lw_At p s m meth c b L xs) (hkc : kc ≤ 10000) (hsl : sl ≤ 300000) (hc : fm_Cx D ad C nb (fun q : Nat => s.heap.size ≤ q) s) (hw : fm_at D ad C nb M H) (hI : fm_I nb ad M) (hS : va_S (fun q : Nat => s.heap.size ≤ q) s.heap H locs) (hi : 0 ≤ i.toInt ∧ i.toInt + 6 ≤ L) (hL : L ≤ 3072) (p0 v0 : Int32) (ep0 : p0 = xs v0.toNatClampNeg) (ev0 : v0 = i + 1) (p1 v1 : Int32) (ep1 : p1 = xs v1.toNatClampNeg) (ev1 : v1 = i + 2) (p2 v2 : Int32) (ep2 : p2 = xs v2.toNatClampNeg) (ev2 : v2 = i + 3) (p3 v3 : Int32) (ep3 : p3 = xs v3.toNatClampNeg) (ev3 : v3 = i + 4) (p4 v4 : Int32) (ep4 : p4 = xs v4.toNatClampNeg) (ev4 : v4 = i + 5) (hN0 : (M0.1 0 0 10).toInt = nb0) (hP : (¬ (0 ≤ p0.toInt ∧ p0.toInt ≤ 5 ∧ 0 ≤ p1.toInt ∧ p1.toInt ≤ 63 ∧ 0 ≤ p2.toInt ∧ p2.toInt ≤ 20 ∧ 0 ≤ p3.toInt ∧ p3.toInt ≤ 9999 ∧ 0 ≤ p4.toInt ∧ p4.toInt ≤ 999) ∧ rb.toInt = -2 ∧ nb = nb0 ∧ M = M0) ∨ ((0 ≤ p0.toInt ∧ p0.toInt ≤ 5 ∧ 0 ≤ p1.toInt ∧ p1.toInt ≤ 63 ∧ 0 ≤ p2.toInt ∧ p2.toInt ≤ 20 ∧ 0 ≤ p3.toInt ∧ p3.toInt ≤ 9999 ∧ 0 ≤ p4.toInt ∧ p4.toInt ≤ 999) ∧ 12 ≤ nb0 ∧ rb.toInt = -4 ∧ nb = nb0 ∧ M = M0) ∨ ((0 ≤ p0.toInt ∧ p0.toInt ≤ 5 ∧ 0 ≤ p1.toInt ∧ p1.toInt ≤ 63 ∧ 0 ≤ p2.toInt ∧ p2.toInt ≤ 20 ∧ 0 ≤ p3.toInt ∧ p3.toInt ≤ 9999 ∧ 0 ≤ p4.toInt ∧ p4.toInt ≤ 999) ∧ nb0 < 12 ∧ rb.toInt = nb0 ∧ nb = nb0 + 1 ∧ (M.1 0 0 10).toInt = nb0 + 1 ∧ M.1 50 nb0 0 = p0 ∧ M.1 50 nb0 1 = p1 ∧ M.1 50 nb0 2 = M0.1 0 0 9 ∧ M.1 50 nb0 3 = p2 ∧ M.1 50 nb0 4 = p4 ∧ M.1 50 nb0 5 = p3 ∧ M.1 50 nb0 12 = 0)) (hle0 : nb0 ≤ nb) (hsm : ∀ a k j, ¬ (k = nb0 ∧ 50 ≤ a ∧ a ≤ 56) → fm_cd a j ∉ [10, 4000] → M.1 a k j = M0.1 a k j ∧ M.2.1 a k j = M0.2.1 a k j ∧ M.2.2 a k j = M0.2.2 a k j) (hrel0 : M0.1 0 0 10 = M0.1 60 0 16 ∧ (∀ j : Nat, j < nb0 → M0.1 50 j 0 = M0.1 110 0 j) ∧ (∀ j : Nat, j < nb0 → M0.1 50 j 3 = M0.1 113 0 j)) (kk : ∀ (M1 : fm_M) (H1 : Heap) (locs1 : List Loc), fm_at D ad C nb M1 H1 → fm_I nb ad M1 → va_S (fun q : Nat => s.heap.size ≤ q) s.heap H1 locs1 → M1.1 0 0 10 = M1.1 60 0 16 ∧ (∀ j : Nat, j < nb → M1.1 50 j 0 = M1.1 110 0 j) ∧ (∀ j : Nat, j < nb → M1.1 50 j 3 = M1.1 113 0 j) → ∀ ls : Array Slot, lv_has ls 4 [(3, .int i), (2, .ref (ad 60 0)), (1, .ref (ad 0 0)), (0, .ref b)] → W p l e room_1 s m #[Value.ref b] below meth c H1 locs1 kc sl (lw_Z below #[Value.ref b] s) (F0 m 1834 ls [])) (ls : Array Slot) (hl : lv_has ls 4 [(3, .int i), (2, .ref (ad 60 0)), (1, .ref (ad 0 0)), (0, .ref b)]) : W p l e room_1 s m #[Value.ref b] below meth c H locs kc sl (lw_Z below #[Value.ref b] s) (F0 m 338 ls [.int rb]) := by
  obtain ⟨hx, hb, hr, hml, hown, hts, hX, hbl, hlocks, hgv⟩ := id C0
  have hown : s.vm.findClass RL = some m.cls := hown
  have hb : c.code = cL_law := hb
  have hbA : ¬ (fun q : Nat => s.heap.size ≤ q) b := Nat.not_le.mpr hbl
  have hk1 : kc + 0 ≤ room_1.cells := by show kc + 0 ≤ 600000; omega
  have hs1 : sl + 0 ≤ room_1.slots := by show sl + 0 ≤ 7302250; omega
  have hI0 := hI
  refine lv_pop hx hb dL_law_338 rfl ?_
  refine lv_aload_n hx hb dL_law_339 rfl (lv_at hl 1 rfl) ?_
  refine lv_aload_n hx hb dL_law_340 rfl (lv_at hl 3 rfl) ?_
  refine lv_iload_n hx hb dL_law_341 rfl (lv_at hl 0 rfl) ?_
  refine lv_iconst (v := 1) hx hb dL_law_342 (by decide) ?_
  refine fx_iadd hx hb dL_law_343 rfl zk_1 (by omega) (fun y1 ey1 ty1 => ?_)
  refine va_sld hx hb hX hbl hbA hS (fm_in (by omega)) dL_law_344 ?_
  refine lv_topi (fun x2 ex2 => ?_)
  have qx2 : p0 = x2 := by rw [ex2, ep0, ey1, ev0]
  clear ex2
  subst qx2
  refine lv_aload_n hx hb dL_law_345 rfl (lv_at hl 3 rfl) ?_
  refine lv_iload_n hx hb dL_law_346 rfl (lv_at hl 0 rfl) ?_
  refine lv_iconst (v := 2) hx hb dL_law_347 (by decide) ?_
  refine fx_iadd hx hb dL_law_348 rfl zk_2 (by omega) (fun y3 ey3 ty3 => ?_)
  refine va_sld hx hb hX hbl hbA hS (fm_in (by omega)) dL_law_349 ?_
  refine lv_topi (fun x4 ex4 => ?_)
  have qx4 : p1 = x4 := by rw [ex4, ep1, ey3, ev1]
  clear ex4
  subst qx4
  refine lv_aload_n hx hb dL_law_350 rfl (lv_at hl 3 rfl) ?_
  refine lv_iload_n hx hb dL_law_351 rfl (lv_at hl 0 rfl) ?_
  refine lv_iconst (v := 3) hx hb dL_law_352 (by decide) ?_
  refine fx_iadd hx hb dL_law_353 rfl zk_3 (by omega) (fun y5 ey5 ty5 => ?_)
  refine va_sld hx hb hX hbl hbA hS (fm_in (by omega)) dL_law_354 ?_
  refine lv_topi (fun x6 ex6 => ?_)
  have qx6 : p2 = x6 := by rw [ex6, ep2, ey5, ev2]
  clear ex6
  subst qx6
  refine lv_aload_n hx hb dL_law_355 rfl (lv_at hl 3 rfl) ?_
  refine lv_iload_n hx hb dL_law_356 rfl (lv_at hl 0 rfl) ?_
  refine lv_iconst (v := 4) hx hb dL_law_357 (by decide) ?_
  refine fx_iadd hx hb dL_law_358 rfl zk_4 (by omega) (fun y7 ey7 ty7 => ?_)
  refine va_sld hx hb hX hbl hbA hS (fm_in (by omega)) dL_law_359 ?_
  refine lv_topi (fun x8 ex8 => ?_)
  have qx8 : p3 = x8 := by rw [ex8, ep3, ey7, ev3]
  clear ex8
  subst qx8
  refine lv_aload_n hx hb dL_law_360 rfl (lv_at hl 3 rfl) ?_
  refine lv_iload_n hx hb dL_law_361 rfl (lv_at hl 0 rfl) ?_
  refine lv_iconst (v := 5) hx hb dL_law_362 (by decide) ?_
  refine fx_iadd hx hb dL_law_363 rfl zk_5 (by omega) (fun y9 ey9 ty9 => ?_)
  refine va_sld hx hb hX hbl hbA hS (fm_in (by omega)) dL_law_364 ?_
  refine lv_topi (fun x10 ex10 => ?_)
  have qx10 : p4 = x10 := by rw [ex10, ep4, ey9, ev4]
  clear ex10
  subst qx10
  refine fm_ci (va_runV (As := [.int p0, .int p1, .int p2, .int p3, .int p4]) (rest := []) ⟨hx, hb, hml, hown, hts⟩ (fc_X12_body l D ad C nb M hI p0 p1 p2 p3 p4) (cwV 5 hts gL_law_X12_body rfl rfl rfl (by decide +kernel) ⟨Nat.le_of_ble_eq_true rfl, Nat.le_of_ble_eq_true rfl⟩) (fm_preV hc hw hS kl_60 sh_60 rfl) rfl rfl hl.1 rfl (lv_room (Nat.le_of_ble_eq_true rfl)) dL_law_365 ⟨hk1, hs1⟩) hS hc (fun r11 M12 H locs hr11 hw hS => ?_)
  obtain ⟨hI, hEM12, hr11⟩ := hr11
  refine lv_pop hx hb dL_law_368 rfl ?_
  refine lv_goto (tgt := 1834) hx hb dL_law_369 (by decide) ?_
  have f10 : (M.1 60 0 16).toInt = (M0.1 0 0 10).toInt := by rw [(hsm 60 0 16 (by omega) (by decide)).1, hrel0.1]
  have f20 : (M12.1 0 0 10).toInt = (M.1 0 0 10).toInt := by rw [(hEM12 0 0 10 (by decide)).1]
  have hn9 := hN0
  have hn8 : (M.1 0 0 10).toInt = nb := hI0.2.2.2.2.2.2.1
  have e3 : (0 : Int) = 0 ∧ (M12.1 0 0 10).toInt = (M12.1 60 0 16).toInt := by
    rcases hP with ⟨a0, a1, a2, a3⟩ | ⟨a0, a1, a2, a3, a4⟩ | ⟨a0, a1, a2, a3, a4, a5, a6, a7, a8, a9, a10, a11⟩ <;> rcases hr11 with ⟨g0, g1, g2, g3⟩ | ⟨g0, g1, g2, g3, g4⟩ | ⟨g0, g1, g2, g3, g4, g5, g6, g7, g8, g9⟩ <;> (first | contradiction | omega)
  have hr90 : M12.1 0 0 10 = M12.1 60 0 16 := (fa_eq _ _).mpr e3.2
  have hr91 : (∀ j : Nat, j < nb → M12.1 50 j 0 = M12.1 110 0 j) := by
    intro j hj
    rcases hP with ⟨a0, a1, a2, a3⟩ | ⟨a0, a1, a2, a3, a4⟩ | ⟨a0, a1, a2, a3, a4, a5, a6, a7, a8, a9, a10, a11⟩
    · rcases hr11 with ⟨g0, g1, g2, g3⟩ | ⟨g0, g1, g2, g3, g4⟩ | ⟨g0, g1, g2, g3, g4, g5, g6, g7, g8, g9⟩
      · rw [g3, a3]
        exact hrel0.2.1 j (by omega)
      · rw [g4, a3]
        exact hrel0.2.1 j (by omega)
      · exfalso; omega
    · rcases hr11 with ⟨g0, g1, g2, g3⟩ | ⟨g0, g1, g2, g3, g4⟩ | ⟨g0, g1, g2, g3, g4, g5, g6, g7, g8, g9⟩
      · rw [g3, a4]
        exact hrel0.2.1 j (by omega)
      · rw [g4, a4]
        exact hrel0.2.1 j (by omega)
      · exfalso; omega
    · rcases hr11 with ⟨g0, g1, g2, g3⟩ | ⟨g0, g1, g2, g3, g4⟩ | ⟨g0, g1, g2, g3, g4, g5, g6, g7, g8, g9⟩
      · exfalso; omega
      · exfalso; omega
      · rw [(hEM12 50 j 0 (by decide)).1, g4 j]
        have k8 : (M.1 60 0 16).toNatClampNeg = nb0 := by rw [Int32.toNatClampNeg]; omega
        rw [k8]
        by_cases h9 : j = nb0
        · rw [h9, if_pos rfl, a5]
        · rw [if_neg h9, (hsm 50 j 0 (by omega) (by decide)).1, (hsm 110 0 j (by omega) (by rw [cd_110]; decide)).1]; exact hrel0.2.1 j (by omega)
  have hr92 : (∀ j : Nat, j < nb → M12.1 50 j 3 = M12.1 113 0 j) := by
    intro j hj
    rcases hP with ⟨a0, a1, a2, a3⟩ | ⟨a0, a1, a2, a3, a4⟩ | ⟨a0, a1, a2, a3, a4, a5, a6, a7, a8, a9, a10, a11⟩
    · rcases hr11 with ⟨g0, g1, g2, g3⟩ | ⟨g0, g1, g2, g3, g4⟩ | ⟨g0, g1, g2, g3, g4, g5, g6, g7, g8, g9⟩
      · rw [g3, a3]
        exact hrel0.2.2 j (by omega)
      · rw [g4, a3]
        exact hrel0.2.2 j (by omega)
      · exfalso; omega
    · rcases hr11 with ⟨g0, g1, g2, g3⟩ | ⟨g0, g1, g2, g3, g4⟩ | ⟨g0, g1, g2, g3, g4, g5, g6, g7, g8, g9⟩
      · rw [g3, a4]
        exact hrel0.2.2 j (by omega)
      · rw [g4, a4]
        exact hrel0.2.2 j (by omega)
      · exfalso; omega
    · rcases hr11 with ⟨g0, g1, g2, g3⟩ | ⟨g0, g1, g2, g3, g4⟩ | ⟨g0, g1, g2, g3, g4, g5, g6, g7, g8, g9⟩
      · exfalso; omega
      · exfalso; omega
      · rw [(hEM12 50 j 3 (by decide)).1, g7 j]
        have k8 : (M.1 60 0 16).toNatClampNeg = nb0 := by rw [Int32.toNatClampNeg]; omega
        rw [k8]
        by_cases h9 : j = nb0
        · rw [h9, if_pos rfl, a8]
        · rw [if_neg h9, (hsm 50 j 3 (by omega) (by decide)).1, (hsm 113 0 j (by omega) (by rw [cd_113]; decide)).1]; exact hrel0.2.2 j (by omega)
  have hrel9 : M12.1 0 0 10 = M12.1 60 0 16 ∧ (∀ j : Nat, j < nb → M12.1 50 j 0 = M12.1 110 0 j) ∧ (∀ j : Nat, j < nb → M12.1 50 j 3 = M12.1 113 0 j) := ⟨hr90, hr91, hr92⟩
  exact kk M12 _ _ hw hI hS hrel9 ls (lv_sub hl [0, 1, 2, 3] rfl)
set_option maxHeartbeats 1000000 in
set_option maxRecDepth 20000 in
theorem lb_3 {p : Program} {l : Launch} {e : Env} {s : State} {m : MethodId} {below : List Frame} {meth : Method} {c : Code} {D : va_G} {ad : Nat → Nat → Nat} {C : Nat → Nat → ClassId} {nb : Nat} {M : fm_M} {b L : Nat} {xs : Nat → Int32} {H : Heap} {locs : List Loc} {kc sl : Nat} {i : Int32} (C0 : lw_At p s m meth c b L xs) (hkc : kc + 7 ≤ 10000) (hsl : sl + 387 ≤ 300000) (hc : fm_Cx D ad C nb (fun q : Nat => s.heap.size ≤ q) s) (hw : fm_at D ad C nb M H) (hI : fm_I nb ad M) (hS : va_S (fun q : Nat => s.heap.size ≤ q) s.heap H locs) (hi : 0 ≤ i.toInt ∧ i.toInt + 6 ≤ L) (hL : L ≤ 3072) (hrel : M.1 0 0 10 = M.1 60 0 16 ∧ (∀ j : Nat, j < nb → M.1 50 j 0 = M.1 110 0 j) ∧ (∀ j : Nat, j < nb → M.1 50 j 3 = M.1 113 0 j)) (kk : ∀ (nb : Nat) (ad : Nat → Nat → Nat) (C : Nat → Nat → ClassId) (M1 : fm_M) (H1 : Heap) (locs1 : List Loc), fm_Cx D ad C nb (fun q : Nat => s.heap.size ≤ q) s → fm_at D ad C nb M1 H1 → fm_I nb ad M1 → va_S (fun q : Nat => s.heap.size ≤ q) s.heap H1 locs1 → M1.1 0 0 10 = M1.1 60 0 16 ∧ (∀ j : Nat, j < nb → M1.1 50 j 0 = M1.1 110 0 j) ∧ (∀ j : Nat, j < nb → M1.1 50 j 3 = M1.1 113 0 j) → ∀ ls : Array Slot, lv_has ls 4 [(3, .int i), (2, .ref (ad 60 0)), (1, .ref (ad 0 0)), (0, .ref b)] → W p l e room_1 s m #[Value.ref b] below meth c H1 locs1 (kc + 7) (sl + 387) (lw_Z below #[Value.ref b] s) (F0 m 1834 ls [])) (ls : Array Slot) (hl : lv_has ls 4 [(3, .int i), (2, .ref (ad 60 0)), (1, .ref (ad 0 0)), (0, .ref b)]) : W p l e room_1 s m #[Value.ref b] below meth c H locs kc sl (lw_Z below #[Value.ref b] s) (F0 m 309 ls []) := by
  obtain ⟨hx, hb, hr, hml, hown, hts, hX, hbl, hlocks, hgv⟩ := id C0
  have hown : s.vm.findClass RL = some m.cls := hown
  have hb : c.code = cL_law := hb
  have hbA : ¬ (fun q : Nat => s.heap.size ≤ q) b := Nat.not_le.mpr hbl
  have hk1 : kc + 0 ≤ room_1.cells := by show kc + 0 ≤ 600000; omega
  have hs1 : sl + 0 ≤ room_1.slots := by show sl + 0 ≤ 7302250; omega
  have hI0 := hI
  have hk7 : kc + 7 ≤ room_1.cells := by show kc + 7 ≤ 600000; omega
  have hs7 : sl + 387 ≤ room_1.slots := by show sl + 387 ≤ 7302250; omega
  refine lv_aload_n hx hb dL_law_309 rfl (lv_at hl 2 rfl) ?_
  refine lv_aload_n hx hb dL_law_310 rfl (lv_at hl 3 rfl) ?_
  refine lv_iload_n hx hb dL_law_311 rfl (lv_at hl 0 rfl) ?_
  refine lv_iconst (v := 1) hx hb dL_law_312 (by decide) ?_
  refine fx_iadd hx hb dL_law_313 rfl zk_1 (by omega) (fun y1 ey1 ty1 => ?_)
  refine va_sld hx hb hX hbl hbA hS (fm_in (by omega)) dL_law_314 ?_
  refine lv_topi (fun x2 ex2 => ?_)
  refine lv_aload_n hx hb dL_law_315 rfl (lv_at hl 3 rfl) ?_
  refine lv_iload_n hx hb dL_law_316 rfl (lv_at hl 0 rfl) ?_
  refine lv_iconst (v := 2) hx hb dL_law_317 (by decide) ?_
  refine fx_iadd hx hb dL_law_318 rfl zk_2 (by omega) (fun y3 ey3 ty3 => ?_)
  refine va_sld hx hb hX hbl hbA hS (fm_in (by omega)) dL_law_319 ?_
  refine lv_topi (fun x4 ex4 => ?_)
  refine lv_aload_n hx hb dL_law_320 rfl (lv_at hl 3 rfl) ?_
  refine lv_iload_n hx hb dL_law_321 rfl (lv_at hl 0 rfl) ?_
  refine lv_iconst (v := 3) hx hb dL_law_322 (by decide) ?_
  refine fx_iadd hx hb dL_law_323 rfl zk_3 (by omega) (fun y5 ey5 ty5 => ?_)
  refine va_sld hx hb hX hbl hbA hS (fm_in (by omega)) dL_law_324 ?_
  refine lv_topi (fun x6 ex6 => ?_)
  refine lv_aload_n hx hb dL_law_325 rfl (lv_at hl 3 rfl) ?_
  refine lv_iload_n hx hb dL_law_326 rfl (lv_at hl 0 rfl) ?_
  refine lv_iconst (v := 4) hx hb dL_law_327 (by decide) ?_
  refine fx_iadd hx hb dL_law_328 rfl zk_4 (by omega) (fun y7 ey7 ty7 => ?_)
  refine va_sld hx hb hX hbl hbA hS (fm_in (by omega)) dL_law_329 ?_
  refine lv_topi (fun x8 ex8 => ?_)
  refine lv_aload_n hx hb dL_law_330 rfl (lv_at hl 3 rfl) ?_
  refine lv_iload_n hx hb dL_law_331 rfl (lv_at hl 0 rfl) ?_
  refine lv_iconst (v := 5) hx hb dL_law_332 (by decide) ?_
  refine fx_iadd hx hb dL_law_333 rfl zk_5 (by omega) (fun y9 ey9 ty9 => ?_)
  refine va_sld hx hb hX hbl hbA hS (fm_in (by omega)) dL_law_334 ?_
  refine lv_topi (fun x10 ex10 => ?_)
  have hFc : ∀ q, fm_AA nb ad H.size q → (fun q : Nat => s.heap.size ≤ q) q := fun q h => h.elim (fun h => hc.2.2.2.2.2 q h) (fun h => Nat.le_trans hS.1 h)
  refine va_calli (va_runV (As := [.int x2, .int x4, .int x6, .int x8, .int x10]) (rest := []) ⟨hx, hb, hml, hown, hts⟩ (fc_X11_body l D ad C nb M hI H.size x2 x4 x6 x8 x10) (cwV 5 hts gL_law_X11_body rfl rfl rfl (by decide +kernel) ⟨Nat.le_of_ble_eq_true rfl, Nat.le_of_ble_eq_true rfl⟩) ⟨fun a U g mk z => ⟨z.1, z.2.1, (fm_blind (av := a.toList) a U g mk ⟨by simp, z.2.2⟩).2⟩, va_recv (q := (RX11, TX11, 13)) hc.2.1.1 (hw.one kl_0 (x := .inr (11, ([(0, 2), (1, 2), (2, 2), (3, 2), (4, 2), (5, 2), (6, 2), (7, 2), (8, 2), (9, 0), (10, 0), (11, 0), (12, 0)] : List (Nat × Nat)).map (fm_fv (M.1 0 0) (M.2.1 0 0) (M.2.2 0 0)))) (by rw [sh_0]; rfl)) rfl (q0 := 0) rfl, fun U hU hW => ⟨rfl, by rw [hU], (fm_pre (av := []) hc hw hS U hU hW).2⟩⟩ rfl rfl hl.1 rfl (lv_room (Nat.le_of_ble_eq_true rfl)) dL_law_335 ⟨hk7, hs7⟩) hS (fun q _ h => hFc q h) hFc (fun rb ub t H1 locs ht hvm hgr hB hz1 hk9 hS => ?_)
  obtain ⟨nb1, ad1, C1, M1⟩ := ub
  obtain ⟨hw1, hK1⟩ := hB
  rw [ht] at hw1
  obtain ⟨⟨hI1, hj1, hag, hA1, hsm, hle⟩, hP⟩ := hgr
  dsimp only at hw1 hK1 hI1 hj1 hag hA1 hsm hle hP
  have hc1 : fm_Cx D ad1 C1 nb1 (fun q : Nat => s.heap.size ≤ q) s := ⟨hj1, hK1.moved hvm.symm, hc.2.2.1, hc.2.2.2.1, hc.2.2.2.2.1, fun q h => hFc q (hA1 q h)⟩
  have e0 : ad 0 0 = ad1 0 0 := (hag 0 0 kl_0).symm
  have e60 : ad 60 0 = ad1 60 0 := (hag 60 0 kl_60).symm
  rw [e0, e60] at hl
  refine lb_3m C0 (kc := kc + 7) (sl := sl + 387) (by omega) (by omega) hc1 hw1 hI1 hS hi hL x2 y1 ex2 ey1 x4 y3 ex4 ey3 x6 y5 ex6 ey5 x8 y7 ex8 ey7 x10 y9 ex10 ey9 hI.2.2.2.2.2.2.1 hP hle hsm hrel (fun M2 H2 locs2 hw2 hI2 hS2 hrel2 ls hl => kk nb1 ad1 C1 M2 H2 locs2 hc1 hw2 hI2 hS2 hrel2 ls hl) ls ?_
  exact lv_sub hl [0, 1, 2, 3] rfl
set_option maxHeartbeats 1000000 in
set_option maxRecDepth 20000 in
theorem lb_4 {p : Program} {l : Launch} {e : Env} {s : State} {m : MethodId} {below : List Frame} {meth : Method} {c : Code} {D : va_G} {ad : Nat → Nat → Nat} {C : Nat → Nat → ClassId} {nb : Nat} {M : fm_M} {b L : Nat} {xs : Nat → Int32} {H : Heap} {locs : List Loc} {kc sl : Nat} {i : Int32} (C0 : lw_At p s m meth c b L xs) (hkc : kc ≤ 10000) (hsl : sl ≤ 300000) (hc : fm_Cx D ad C nb (fun q : Nat => s.heap.size ≤ q) s) (hw : fm_at D ad C nb M H) (hI : fm_I nb ad M) (hS : va_S (fun q : Nat => s.heap.size ≤ q) s.heap H locs) (hi : 0 ≤ i.toInt ∧ i.toInt + 6 ≤ L) (hL : L ≤ 3072) (hrel : M.1 0 0 10 = M.1 60 0 16 ∧ (∀ j : Nat, j < nb → M.1 50 j 0 = M.1 110 0 j) ∧ (∀ j : Nat, j < nb → M.1 50 j 3 = M.1 113 0 j)) (kk : ∀ (M1 : fm_M) (H1 : Heap) (locs1 : List Loc), fm_at D ad C nb M1 H1 → fm_I nb ad M1 → va_S (fun q : Nat => s.heap.size ≤ q) s.heap H1 locs1 → M1.1 0 0 10 = M1.1 60 0 16 ∧ (∀ j : Nat, j < nb → M1.1 50 j 0 = M1.1 110 0 j) ∧ (∀ j : Nat, j < nb → M1.1 50 j 3 = M1.1 113 0 j) → ∀ ls : Array Slot, lv_has ls 4 [(3, .int i), (2, .ref (ad 60 0)), (1, .ref (ad 0 0)), (0, .ref b)] → W p l e room_1 s m #[Value.ref b] below meth c H1 locs1 kc sl (lw_Z below #[Value.ref b] s) (F0 m 1834 ls [])) (ls : Array Slot) (hl : lv_has ls 4 [(3, .int i), (2, .ref (ad 60 0)), (1, .ref (ad 0 0)), (0, .ref b)]) : W p l e room_1 s m #[Value.ref b] below meth c H locs kc sl (lw_Z below #[Value.ref b] s) (F0 m 372 ls []) := by
  obtain ⟨hx, hb, hr, hml, hown, hts, hX, hbl, hlocks, hgv⟩ := id C0
  have hown : s.vm.findClass RL = some m.cls := hown
  have hb : c.code = cL_law := hb
  have hbA : ¬ (fun q : Nat => s.heap.size ≤ q) b := Nat.not_le.mpr hbl
  have hk1 : kc + 0 ≤ room_1.cells := by show kc + 0 ≤ 600000; omega
  have hs1 : sl + 0 ≤ room_1.slots := by show sl + 0 ≤ 7302250; omega
  have hI0 := hI
  refine lv_aload_n hx hb dL_law_372 rfl (lv_at hl 2 rfl) ?_
  refine lv_aload_n hx hb dL_law_373 rfl (lv_at hl 3 rfl) ?_
  refine lv_iload_n hx hb dL_law_374 rfl (lv_at hl 0 rfl) ?_
  refine lv_iconst (v := 1) hx hb dL_law_375 (by decide) ?_
  refine fx_iadd hx hb dL_law_376 rfl zk_1 (by omega) (fun y1 ey1 ty1 => ?_)
  refine va_sld hx hb hX hbl hbA hS (fm_in (by omega)) dL_law_377 ?_
  refine lv_topi (fun x2 ex2 => ?_)
  refine lv_aload_n hx hb dL_law_378 rfl (lv_at hl 3 rfl) ?_
  refine lv_iload_n hx hb dL_law_379 rfl (lv_at hl 0 rfl) ?_
  refine lv_iconst (v := 2) hx hb dL_law_380 (by decide) ?_
  refine fx_iadd hx hb dL_law_381 rfl zk_2 (by omega) (fun y3 ey3 ty3 => ?_)
  refine va_sld hx hb hX hbl hbA hS (fm_in (by omega)) dL_law_382 ?_
  refine lv_topi (fun x4 ex4 => ?_)
  refine vp_callSi (va_Run.run (va_runV (As := [.int x2, .int x4]) (rest := []) ⟨hx, hb, hml, hown, hts⟩ (fc_X11_bodyTold l D ad C nb M hI x2 x4) (cwV 2 hts gL_law_X11_bodyTold rfl rfl rfl (by decide +kernel) ⟨Nat.le_of_ble_eq_true rfl, Nat.le_of_ble_eq_true rfl⟩) (fm_preV hc hw hS kl_0 sh_0 rfl) rfl rfl hl.1 rfl (lv_room (Nat.le_of_ble_eq_true rfl)) dL_law_383 ⟨hk1, hs1⟩)) (fun r5 hr5 => ?_)
  refine lv_pop hx hb dL_law_386 rfl ?_
  refine lv_aload_n hx hb dL_law_387 rfl (lv_at hl 1 rfl) ?_
  refine lv_aload_n hx hb dL_law_388 rfl (lv_at hl 3 rfl) ?_
  refine lv_iload_n hx hb dL_law_389 rfl (lv_at hl 0 rfl) ?_
  refine lv_iconst (v := 1) hx hb dL_law_390 (by decide) ?_
  refine fx_iadd hx hb dL_law_391 rfl zk_1 (by omega) (fun y6 ey6 ty6 => ?_)
  refine va_sld hx hb hX hbl hbA hS (fm_in (by omega)) dL_law_392 ?_
  refine lv_topi (fun x7 ex7 => ?_)
  have qx7 : x2 = x7 := by rw [ex7, ex2, ey6, ey1]
  clear ex7
  subst qx7
  refine lv_aload_n hx hb dL_law_393 rfl (lv_at hl 3 rfl) ?_
  refine lv_iload_n hx hb dL_law_394 rfl (lv_at hl 0 rfl) ?_
  refine lv_iconst (v := 2) hx hb dL_law_395 (by decide) ?_
  refine fx_iadd hx hb dL_law_396 rfl zk_2 (by omega) (fun y8 ey8 ty8 => ?_)
  refine va_sld hx hb hX hbl hbA hS (fm_in (by omega)) dL_law_397 ?_
  refine lv_topi (fun x9 ex9 => ?_)
  have qx9 : x4 = x9 := by rw [ex9, ex4, ey8, ey3]
  clear ex9
  subst qx9
  refine vp_callSi (va_Run.run (va_runV (As := [.int x2, .int x4]) (rest := []) ⟨hx, hb, hml, hown, hts⟩ (fc_X12_bodyTold l D ad C nb M hI x2 x4) (cwV 2 hts gL_law_X12_bodyTold rfl rfl rfl (by decide +kernel) ⟨Nat.le_of_ble_eq_true rfl, Nat.le_of_ble_eq_true rfl⟩) (fm_preV hc hw hS kl_60 sh_60 rfl) rfl rfl hl.1 rfl (lv_room (Nat.le_of_ble_eq_true rfl)) dL_law_398 ⟨hk1, hs1⟩)) (fun r10 hr10 => ?_)
  refine lv_pop hx hb dL_law_401 rfl ?_
  refine lv_goto (tgt := 1834) hx hb dL_law_402 (by decide) ?_
  have hr90 : M.1 0 0 10 = M.1 60 0 16 := hrel.1
  have hr91 : (∀ j : Nat, j < nb → M.1 50 j 0 = M.1 110 0 j) := fun j hj => by exact hrel.2.1 j hj
  have hr92 : (∀ j : Nat, j < nb → M.1 50 j 3 = M.1 113 0 j) := fun j hj => by exact hrel.2.2 j hj
  have hrel9 : M.1 0 0 10 = M.1 60 0 16 ∧ (∀ j : Nat, j < nb → M.1 50 j 0 = M.1 110 0 j) ∧ (∀ j : Nat, j < nb → M.1 50 j 3 = M.1 113 0 j) := ⟨hr90, hr91, hr92⟩
  exact kk M _ _ hw hI hS hrel9 ls (lv_sub hl [0, 1, 2, 3] rfl)
set_option maxHeartbeats 1000000 in
set_option maxRecDepth 20000 in
theorem lb_5 {p : Program} {l : Launch} {e : Env} {s : State} {m : MethodId} {below : List Frame} {meth : Method} {c : Code} {D : va_G} {ad : Nat → Nat → Nat} {C : Nat → Nat → ClassId} {nb : Nat} {M : fm_M} {b L : Nat} {xs : Nat → Int32} {H : Heap} {locs : List Loc} {kc sl : Nat} {i : Int32} (C0 : lw_At p s m meth c b L xs) (hkc : kc ≤ 10000) (hsl : sl ≤ 300000) (hc : fm_Cx D ad C nb (fun q : Nat => s.heap.size ≤ q) s) (hw : fm_at D ad C nb M H) (hI : fm_I nb ad M) (hS : va_S (fun q : Nat => s.heap.size ≤ q) s.heap H locs) (hi : 0 ≤ i.toInt ∧ i.toInt + 6 ≤ L) (hL : L ≤ 3072) (hrel : M.1 0 0 10 = M.1 60 0 16 ∧ (∀ j : Nat, j < nb → M.1 50 j 0 = M.1 110 0 j) ∧ (∀ j : Nat, j < nb → M.1 50 j 3 = M.1 113 0 j)) (kk : ∀ (M1 : fm_M) (H1 : Heap) (locs1 : List Loc), fm_at D ad C nb M1 H1 → fm_I nb ad M1 → va_S (fun q : Nat => s.heap.size ≤ q) s.heap H1 locs1 → M1.1 0 0 10 = M1.1 60 0 16 ∧ (∀ j : Nat, j < nb → M1.1 50 j 0 = M1.1 110 0 j) ∧ (∀ j : Nat, j < nb → M1.1 50 j 3 = M1.1 113 0 j) → ∀ ls : Array Slot, lv_has ls 4 [(3, .int i), (2, .ref (ad 60 0)), (1, .ref (ad 0 0)), (0, .ref b)] → W p l e room_1 s m #[Value.ref b] below meth c H1 locs1 kc sl (lw_Z below #[Value.ref b] s) (F0 m 1834 ls [])) (ls : Array Slot) (hl : lv_has ls 4 [(3, .int i), (2, .ref (ad 60 0)), (1, .ref (ad 0 0)), (0, .ref b)]) : W p l e room_1 s m #[Value.ref b] below meth c H locs kc sl (lw_Z below #[Value.ref b] s) (F0 m 405 ls []) := by
  obtain ⟨hx, hb, hr, hml, hown, hts, hX, hbl, hlocks, hgv⟩ := id C0
  have hown : s.vm.findClass RL = some m.cls := hown
  have hb : c.code = cL_law := hb
  have hbA : ¬ (fun q : Nat => s.heap.size ≤ q) b := Nat.not_le.mpr hbl
  have hk1 : kc + 0 ≤ room_1.cells := by show kc + 0 ≤ 600000; omega
  have hs1 : sl + 0 ≤ room_1.slots := by show sl + 0 ≤ 7302250; omega
  have hI0 := hI
  refine lv_aload_n hx hb dL_law_405 rfl (lv_at hl 2 rfl) ?_
  refine lv_aload_n hx hb dL_law_406 rfl (lv_at hl 3 rfl) ?_
  refine lv_iload_n hx hb dL_law_407 rfl (lv_at hl 0 rfl) ?_
  refine lv_iconst (v := 1) hx hb dL_law_408 (by decide) ?_
  refine fx_iadd hx hb dL_law_409 rfl zk_1 (by omega) (fun y1 ey1 ty1 => ?_)
  refine va_sld hx hb hX hbl hbA hS (fm_in (by omega)) dL_law_410 ?_
  refine lv_topi (fun x2 ex2 => ?_)
  refine lv_aload_n hx hb dL_law_411 rfl (lv_at hl 3 rfl) ?_
  refine lv_iload_n hx hb dL_law_412 rfl (lv_at hl 0 rfl) ?_
  refine lv_iconst (v := 2) hx hb dL_law_413 (by decide) ?_
  refine fx_iadd hx hb dL_law_414 rfl zk_2 (by omega) (fun y3 ey3 ty3 => ?_)
  refine va_sld hx hb hX hbl hbA hS (fm_in (by omega)) dL_law_415 ?_
  refine lv_topi (fun x4 ex4 => ?_)
  refine lv_aload_n hx hb dL_law_416 rfl (lv_at hl 3 rfl) ?_
  refine lv_iload_n hx hb dL_law_417 rfl (lv_at hl 0 rfl) ?_
  refine lv_iconst (v := 3) hx hb dL_law_418 (by decide) ?_
  refine fx_iadd hx hb dL_law_419 rfl zk_3 (by omega) (fun y5 ey5 ty5 => ?_)
  refine va_sld hx hb hX hbl hbA hS (fm_in (by omega)) dL_law_420 ?_
  refine lv_topi (fun x6 ex6 => ?_)
  refine fm_cl (va_runV (As := [.int x2, .int x4, .int x6]) (rest := []) ⟨hx, hb, hml, hown, hts⟩ (fc_X11_patch l D ad C nb M hI x2 x4 x6) (cwV 3 hts gL_law_X11_patch rfl rfl rfl (by decide +kernel) ⟨Nat.le_of_ble_eq_true rfl, Nat.le_of_ble_eq_true rfl⟩) (fm_preV hc hw hS kl_0 sh_0 rfl) rfl rfl hl.1 rfl (lv_room (Nat.le_of_ble_eq_true rfl)) dL_law_421 ⟨hk1, hs1⟩) hS hc (fun r7 M8 H locs hr7 hw hS => ?_)
  obtain ⟨hI, hEM8, hr7⟩ := hr7
  refine lv_pop2_2 hx hb dL_law_424 rfl ?_
  refine lv_aload_n hx hb dL_law_425 rfl (lv_at hl 1 rfl) ?_
  refine lv_aload_n hx hb dL_law_426 rfl (lv_at hl 3 rfl) ?_
  refine lv_iload_n hx hb dL_law_427 rfl (lv_at hl 0 rfl) ?_
  refine lv_iconst (v := 1) hx hb dL_law_428 (by decide) ?_
  refine fx_iadd hx hb dL_law_429 rfl zk_1 (by omega) (fun y9 ey9 ty9 => ?_)
  refine va_sld hx hb hX hbl hbA hS (fm_in (by omega)) dL_law_430 ?_
  refine lv_topi (fun x10 ex10 => ?_)
  have qx10 : x2 = x10 := by rw [ex10, ex2, ey9, ey1]
  clear ex10
  subst qx10
  refine lv_aload_n hx hb dL_law_431 rfl (lv_at hl 3 rfl) ?_
  refine lv_iload_n hx hb dL_law_432 rfl (lv_at hl 0 rfl) ?_
  refine lv_iconst (v := 2) hx hb dL_law_433 (by decide) ?_
  refine fx_iadd hx hb dL_law_434 rfl zk_2 (by omega) (fun y11 ey11 ty11 => ?_)
  refine va_sld hx hb hX hbl hbA hS (fm_in (by omega)) dL_law_435 ?_
  refine lv_topi (fun x12 ex12 => ?_)
  have qx12 : x4 = x12 := by rw [ex12, ex4, ey11, ey3]
  clear ex12
  subst qx12
  refine lv_aload_n hx hb dL_law_436 rfl (lv_at hl 3 rfl) ?_
  refine lv_iload_n hx hb dL_law_437 rfl (lv_at hl 0 rfl) ?_
  refine lv_iconst (v := 3) hx hb dL_law_438 (by decide) ?_
  refine fx_iadd hx hb dL_law_439 rfl zk_3 (by omega) (fun y13 ey13 ty13 => ?_)
  refine va_sld hx hb hX hbl hbA hS (fm_in (by omega)) dL_law_440 ?_
  refine lv_topi (fun x14 ex14 => ?_)
  have qx14 : x6 = x14 := by rw [ex14, ex6, ey13, ey5]
  clear ex14
  subst qx14
  refine vp_callSl (va_Run.run (va_runV (As := [.int x2, .int x4, .int x6]) (rest := []) ⟨hx, hb, hml, hown, hts⟩ (fc_X12_patch l D ad C nb M8 hI x2 x4 x6) (cwV 3 hts gL_law_X12_patch rfl rfl rfl (by decide +kernel) ⟨Nat.le_of_ble_eq_true rfl, Nat.le_of_ble_eq_true rfl⟩) (fm_preV hc hw hS kl_60 sh_60 rfl) rfl rfl hl.1 rfl (lv_room (Nat.le_of_ble_eq_true rfl)) dL_law_441 ⟨hk1, hs1⟩)) (fun r15 hr15 => ?_)
  refine lv_pop2_2 hx hb dL_law_444 rfl ?_
  refine lv_goto (tgt := 1834) hx hb dL_law_445 (by decide) ?_
  have hr90 : M8.1 0 0 10 = M8.1 60 0 16 := by rw [(hEM8 0 0 10 (by decide)).1, (hEM8 60 0 16 (by decide)).1]; exact hrel.1
  have hr91 : (∀ j : Nat, j < nb → M8.1 50 j 0 = M8.1 110 0 j) := fun j hj => by rw [(hEM8 50 j 0 (by decide)).1, (hEM8 110 0 j (by rw [cd_110]; decide)).1]; exact hrel.2.1 j hj
  have hr92 : (∀ j : Nat, j < nb → M8.1 50 j 3 = M8.1 113 0 j) := fun j hj => by rw [(hEM8 50 j 3 (by decide)).1, (hEM8 113 0 j (by rw [cd_113]; decide)).1]; exact hrel.2.2 j hj
  have hrel9 : M8.1 0 0 10 = M8.1 60 0 16 ∧ (∀ j : Nat, j < nb → M8.1 50 j 0 = M8.1 110 0 j) ∧ (∀ j : Nat, j < nb → M8.1 50 j 3 = M8.1 113 0 j) := ⟨hr90, hr91, hr92⟩
  exact kk M8 _ _ hw hI hS hrel9 ls (lv_sub hl [0, 1, 2, 3] rfl)
set_option maxHeartbeats 1000000 in
set_option maxRecDepth 20000 in
theorem lb_6 {p : Program} {l : Launch} {e : Env} {s : State} {m : MethodId} {below : List Frame} {meth : Method} {c : Code} {D : va_G} {ad : Nat → Nat → Nat} {C : Nat → Nat → ClassId} {nb : Nat} {M : fm_M} {b L : Nat} {xs : Nat → Int32} {H : Heap} {locs : List Loc} {kc sl : Nat} {i : Int32} (C0 : lw_At p s m meth c b L xs) (hkc : kc ≤ 10000) (hsl : sl ≤ 300000) (hc : fm_Cx D ad C nb (fun q : Nat => s.heap.size ≤ q) s) (hw : fm_at D ad C nb M H) (hI : fm_I nb ad M) (hS : va_S (fun q : Nat => s.heap.size ≤ q) s.heap H locs) (hi : 0 ≤ i.toInt ∧ i.toInt + 6 ≤ L) (hL : L ≤ 3072) (hrel : M.1 0 0 10 = M.1 60 0 16 ∧ (∀ j : Nat, j < nb → M.1 50 j 0 = M.1 110 0 j) ∧ (∀ j : Nat, j < nb → M.1 50 j 3 = M.1 113 0 j)) (kk : ∀ (M1 : fm_M) (H1 : Heap) (locs1 : List Loc), fm_at D ad C nb M1 H1 → fm_I nb ad M1 → va_S (fun q : Nat => s.heap.size ≤ q) s.heap H1 locs1 → M1.1 0 0 10 = M1.1 60 0 16 ∧ (∀ j : Nat, j < nb → M1.1 50 j 0 = M1.1 110 0 j) ∧ (∀ j : Nat, j < nb → M1.1 50 j 3 = M1.1 113 0 j) → ∀ ls : Array Slot, lv_has ls 4 [(3, .int i), (2, .ref (ad 60 0)), (1, .ref (ad 0 0)), (0, .ref b)] → W p l e room_1 s m #[Value.ref b] below meth c H1 locs1 kc sl (lw_Z below #[Value.ref b] s) (F0 m 1834 ls [])) (ls : Array Slot) (hl : lv_has ls 4 [(3, .int i), (2, .ref (ad 60 0)), (1, .ref (ad 0 0)), (0, .ref b)]) : W p l e room_1 s m #[Value.ref b] below meth c H locs kc sl (lw_Z below #[Value.ref b] s) (F0 m 448 ls []) := by
  obtain ⟨hx, hb, hr, hml, hown, hts, hX, hbl, hlocks, hgv⟩ := id C0
  have hown : s.vm.findClass RL = some m.cls := hown
  have hb : c.code = cL_law := hb
  have hbA : ¬ (fun q : Nat => s.heap.size ≤ q) b := Nat.not_le.mpr hbl
  have hk1 : kc + 0 ≤ room_1.cells := by show kc + 0 ≤ 600000; omega
  have hs1 : sl + 0 ≤ room_1.slots := by show sl + 0 ≤ 7302250; omega
  have hI0 := hI
  refine lv_aload_n hx hb dL_law_448 rfl (lv_at hl 2 rfl) ?_
  refine lv_aload_n hx hb dL_law_449 rfl (lv_at hl 3 rfl) ?_
  refine lv_iload_n hx hb dL_law_450 rfl (lv_at hl 0 rfl) ?_
  refine lv_iconst (v := 1) hx hb dL_law_451 (by decide) ?_
  refine fx_iadd hx hb dL_law_452 rfl zk_1 (by omega) (fun y1 ey1 ty1 => ?_)
  refine va_sld hx hb hX hbl hbA hS (fm_in (by omega)) dL_law_453 ?_
  refine lv_topi (fun x2 ex2 => ?_)
  refine lv_aload_n hx hb dL_law_454 rfl (lv_at hl 3 rfl) ?_
  refine lv_iload_n hx hb dL_law_455 rfl (lv_at hl 0 rfl) ?_
  refine lv_iconst (v := 2) hx hb dL_law_456 (by decide) ?_
  refine fx_iadd hx hb dL_law_457 rfl zk_2 (by omega) (fun y3 ey3 ty3 => ?_)
  refine va_sld hx hb hX hbl hbA hS (fm_in (by omega)) dL_law_458 ?_
  refine lv_topi (fun x4 ex4 => ?_)
  refine lv_aload_n hx hb dL_law_459 rfl (lv_at hl 3 rfl) ?_
  refine lv_iload_n hx hb dL_law_460 rfl (lv_at hl 0 rfl) ?_
  refine lv_iconst (v := 3) hx hb dL_law_461 (by decide) ?_
  refine fx_iadd hx hb dL_law_462 rfl zk_3 (by omega) (fun y5 ey5 ty5 => ?_)
  refine va_sld hx hb hX hbl hbA hS (fm_in (by omega)) dL_law_463 ?_
  refine lv_topi (fun x6 ex6 => ?_)
  refine fx_i2l hx hb dL_law_464 rfl (fun y7 ey7 ty7 => ?_)
  refine lv_bipush (v := 32) hx hb dL_law_465 (by decide) ?_
  refine lv_lshl (v := y7 <<< ((32 : Int32).toInt64 &&& 63)) hx hb dL_law_467 rfl ?_
  refine lv_topl (fun y8 ey8 => ?_)
  refine lv_aload_n hx hb dL_law_468 rfl (lv_at hl 3 rfl) ?_
  refine lv_iload_n hx hb dL_law_469 rfl (lv_at hl 0 rfl) ?_
  refine lv_iconst (v := 4) hx hb dL_law_470 (by decide) ?_
  refine fx_iadd hx hb dL_law_471 rfl zk_4 (by omega) (fun y9 ey9 ty9 => ?_)
  refine va_sld hx hb hX hbl hbA hS (fm_in (by omega)) dL_law_472 ?_
  refine lv_topi (fun x10 ex10 => ?_)
  refine fx_i2l hx hb dL_law_473 rfl (fun y11 ey11 ty11 => ?_)
  refine lv_ldc2 (v := 4294967295) hx hb hown (hts (.constantLong RL 42 (4294967295)) (rt_pc_in 7 _ (List.mem_of_getElem? (i := 231) (by decide +kernel)))) dL_law_474 ?_
  refine lv_land hx hb dL_law_477 ?_
  refine lv_topl (fun y12 ey12 => ?_)
  refine lv_lor hx hb dL_law_478 ?_
  refine lv_topl (fun y13 ey13 => ?_)
  refine fm_ci (va_runV (As := [.int x2, .int x4, .long y13]) (rest := []) ⟨hx, hb, hml, hown, hts⟩ (fc_X11_fix l D ad C nb M hI x2 x4 y13) (cwV 3 hts gL_law_X11_fix rfl rfl rfl (by decide +kernel) ⟨Nat.le_of_ble_eq_true rfl, Nat.le_of_ble_eq_true rfl⟩) (fm_preV hc hw hS kl_0 sh_0 rfl) rfl rfl hl.1 rfl (lv_room (Nat.le_of_ble_eq_true rfl)) dL_law_479 ⟨hk1, hs1⟩) hS hc (fun r14 M15 H locs hr14 hw hS => ?_)
  obtain ⟨hI, hEM15, hr14⟩ := hr14
  refine lv_pop hx hb dL_law_482 rfl ?_
  refine lv_aload_n hx hb dL_law_483 rfl (lv_at hl 1 rfl) ?_
  refine lv_aload_n hx hb dL_law_484 rfl (lv_at hl 3 rfl) ?_
  refine lv_iload_n hx hb dL_law_485 rfl (lv_at hl 0 rfl) ?_
  refine lv_iconst (v := 1) hx hb dL_law_486 (by decide) ?_
  refine fx_iadd hx hb dL_law_487 rfl zk_1 (by omega) (fun y16 ey16 ty16 => ?_)
  refine va_sld hx hb hX hbl hbA hS (fm_in (by omega)) dL_law_488 ?_
  refine lv_topi (fun x17 ex17 => ?_)
  have qx17 : x2 = x17 := by rw [ex17, ex2, ey16, ey1]
  clear ex17
  subst qx17
  refine lv_aload_n hx hb dL_law_489 rfl (lv_at hl 3 rfl) ?_
  refine lv_iload_n hx hb dL_law_490 rfl (lv_at hl 0 rfl) ?_
  refine lv_iconst (v := 2) hx hb dL_law_491 (by decide) ?_
  refine fx_iadd hx hb dL_law_492 rfl zk_2 (by omega) (fun y18 ey18 ty18 => ?_)
  refine va_sld hx hb hX hbl hbA hS (fm_in (by omega)) dL_law_493 ?_
  refine lv_topi (fun x19 ex19 => ?_)
  have qx19 : x4 = x19 := by rw [ex19, ex4, ey18, ey3]
  clear ex19
  subst qx19
  refine lv_aload_n hx hb dL_law_494 rfl (lv_at hl 3 rfl) ?_
  refine lv_iload_n hx hb dL_law_495 rfl (lv_at hl 0 rfl) ?_
  refine lv_iconst (v := 3) hx hb dL_law_496 (by decide) ?_
  refine fx_iadd hx hb dL_law_497 rfl zk_3 (by omega) (fun y20 ey20 ty20 => ?_)
  refine va_sld hx hb hX hbl hbA hS (fm_in (by omega)) dL_law_498 ?_
  refine lv_topi (fun x21 ex21 => ?_)
  have qx21 : x6 = x21 := by rw [ex21, ex6, ey20, ey5]
  clear ex21
  subst qx21
  refine fx_i2l hx hb dL_law_499 rfl (fun y22 ey22 ty22 => ?_)
  refine lv_bipush (v := 32) hx hb dL_law_500 (by decide) ?_
  refine lv_lshl (v := y22 <<< ((32 : Int32).toInt64 &&& 63)) hx hb dL_law_502 rfl ?_
  refine lv_topl (fun y23 ey23 => ?_)
  refine lv_aload_n hx hb dL_law_503 rfl (lv_at hl 3 rfl) ?_
  refine lv_iload_n hx hb dL_law_504 rfl (lv_at hl 0 rfl) ?_
  refine lv_iconst (v := 4) hx hb dL_law_505 (by decide) ?_
  refine fx_iadd hx hb dL_law_506 rfl zk_4 (by omega) (fun y24 ey24 ty24 => ?_)
  refine va_sld hx hb hX hbl hbA hS (fm_in (by omega)) dL_law_507 ?_
  refine lv_topi (fun x25 ex25 => ?_)
  have qx25 : x10 = x25 := by rw [ex25, ex10, ey24, ey9]
  clear ex25
  subst qx25
  refine fx_i2l hx hb dL_law_508 rfl (fun y26 ey26 ty26 => ?_)
  refine lv_ldc2 (v := 4294967295) hx hb hown (hts (.constantLong RL 42 (4294967295)) (rt_pc_in 7 _ (List.mem_of_getElem? (i := 231) (by decide +kernel)))) dL_law_509 ?_
  refine lv_land hx hb dL_law_512 ?_
  refine lv_topl (fun y27 ey27 => ?_)
  refine lv_lor hx hb dL_law_513 ?_
  refine lv_topl (fun y28 ey28 => ?_)
  have qy28 : y13 = y28 := by rw [ey13, ey8, ey7, ey12, ey11, ey28, ey23, ey22, ey27, ey26]
  clear ey28
  subst qy28
  refine fm_ci (va_runV (As := [.int x2, .int x4, .long y13]) (rest := []) ⟨hx, hb, hml, hown, hts⟩ (fc_X12_fix l D ad C nb M15 hI x2 x4 y13) (cwV 3 hts gL_law_X12_fix rfl rfl rfl (by decide +kernel) ⟨Nat.le_of_ble_eq_true rfl, Nat.le_of_ble_eq_true rfl⟩) (fm_preV hc hw hS kl_60 sh_60 rfl) rfl rfl hl.1 rfl (lv_room (Nat.le_of_ble_eq_true rfl)) dL_law_514 ⟨hk1, hs1⟩) hS hc (fun r29 M30 H locs hr29 hw hS => ?_)
  obtain ⟨hI, hEM30, hr29⟩ := hr29
  refine lv_pop hx hb dL_law_517 rfl ?_
  refine lv_goto (tgt := 1834) hx hb dL_law_518 (by decide) ?_
  have hr90 : M30.1 0 0 10 = M30.1 60 0 16 := by rw [(hEM30 0 0 10 (by decide)).1, (hEM15 0 0 10 (by decide)).1, (hEM30 60 0 16 (by decide)).1, (hEM15 60 0 16 (by decide)).1]; exact hrel.1
  have hr91 : (∀ j : Nat, j < nb → M30.1 50 j 0 = M30.1 110 0 j) := fun j hj => by rw [(hEM30 50 j 0 (by decide)).1, (hEM15 50 j 0 (by decide)).1, (hEM30 110 0 j (by rw [cd_110]; decide)).1, (hEM15 110 0 j (by rw [cd_110]; decide)).1]; exact hrel.2.1 j hj
  have hr92 : (∀ j : Nat, j < nb → M30.1 50 j 3 = M30.1 113 0 j) := fun j hj => by rw [(hEM30 50 j 3 (by decide)).1, (hEM15 50 j 3 (by decide)).1, (hEM30 113 0 j (by rw [cd_113]; decide)).1, (hEM15 113 0 j (by rw [cd_113]; decide)).1]; exact hrel.2.2 j hj
  have hrel9 : M30.1 0 0 10 = M30.1 60 0 16 ∧ (∀ j : Nat, j < nb → M30.1 50 j 0 = M30.1 110 0 j) ∧ (∀ j : Nat, j < nb → M30.1 50 j 3 = M30.1 113 0 j) := ⟨hr90, hr91, hr92⟩
  exact kk M30 _ _ hw hI hS hrel9 ls (lv_sub hl [0, 1, 2, 3] rfl)
set_option maxHeartbeats 1000000 in
set_option maxRecDepth 20000 in
theorem lb_7 {p : Program} {l : Launch} {e : Env} {s : State} {m : MethodId} {below : List Frame} {meth : Method} {c : Code} {D : va_G} {ad : Nat → Nat → Nat} {C : Nat → Nat → ClassId} {nb : Nat} {M : fm_M} {b L : Nat} {xs : Nat → Int32} {H : Heap} {locs : List Loc} {kc sl : Nat} {i : Int32} (C0 : lw_At p s m meth c b L xs) (hkc : kc ≤ 10000) (hsl : sl ≤ 300000) (hc : fm_Cx D ad C nb (fun q : Nat => s.heap.size ≤ q) s) (hw : fm_at D ad C nb M H) (hI : fm_I nb ad M) (hS : va_S (fun q : Nat => s.heap.size ≤ q) s.heap H locs) (hi : 0 ≤ i.toInt ∧ i.toInt + 6 ≤ L) (hL : L ≤ 3072) (hrel : M.1 0 0 10 = M.1 60 0 16 ∧ (∀ j : Nat, j < nb → M.1 50 j 0 = M.1 110 0 j) ∧ (∀ j : Nat, j < nb → M.1 50 j 3 = M.1 113 0 j)) (kk : ∀ (M1 : fm_M) (H1 : Heap) (locs1 : List Loc), fm_at D ad C nb M1 H1 → fm_I nb ad M1 → va_S (fun q : Nat => s.heap.size ≤ q) s.heap H1 locs1 → M1.1 0 0 10 = M1.1 60 0 16 ∧ (∀ j : Nat, j < nb → M1.1 50 j 0 = M1.1 110 0 j) ∧ (∀ j : Nat, j < nb → M1.1 50 j 3 = M1.1 113 0 j) → ∀ ls : Array Slot, lv_has ls 4 [(3, .int i), (2, .ref (ad 60 0)), (1, .ref (ad 0 0)), (0, .ref b)] → W p l e room_1 s m #[Value.ref b] below meth c H1 locs1 kc sl (lw_Z below #[Value.ref b] s) (F0 m 1834 ls [])) (ls : Array Slot) (hl : lv_has ls 4 [(3, .int i), (2, .ref (ad 60 0)), (1, .ref (ad 0 0)), (0, .ref b)]) : W p l e room_1 s m #[Value.ref b] below meth c H locs kc sl (lw_Z below #[Value.ref b] s) (F0 m 521 ls []) := by
  obtain ⟨hx, hb, hr, hml, hown, hts, hX, hbl, hlocks, hgv⟩ := id C0
  have hown : s.vm.findClass RL = some m.cls := hown
  have hb : c.code = cL_law := hb
  have hbA : ¬ (fun q : Nat => s.heap.size ≤ q) b := Nat.not_le.mpr hbl
  have hk1 : kc + 0 ≤ room_1.cells := by show kc + 0 ≤ 600000; omega
  have hs1 : sl + 0 ≤ room_1.slots := by show sl + 0 ≤ 7302250; omega
  have hI0 := hI
  refine lv_aload_n hx hb dL_law_521 rfl (lv_at hl 2 rfl) ?_
  refine lv_aload_n hx hb dL_law_522 rfl (lv_at hl 3 rfl) ?_
  refine lv_iload_n hx hb dL_law_523 rfl (lv_at hl 0 rfl) ?_
  refine lv_iconst (v := 1) hx hb dL_law_524 (by decide) ?_
  refine fx_iadd hx hb dL_law_525 rfl zk_1 (by omega) (fun y1 ey1 ty1 => ?_)
  refine va_sld hx hb hX hbl hbA hS (fm_in (by omega)) dL_law_526 ?_
  refine lv_topi (fun x2 ex2 => ?_)
  refine fm_ci (va_runV (As := [.int x2]) (rest := []) ⟨hx, hb, hml, hown, hts⟩ (fc_X11_hearer l D ad C nb M hI x2) (cwV 1 hts gL_law_X11_hearer rfl rfl rfl (by decide +kernel) ⟨Nat.le_of_ble_eq_true rfl, Nat.le_of_ble_eq_true rfl⟩) (fm_preV hc hw hS kl_0 sh_0 rfl) rfl rfl hl.1 rfl (lv_room (Nat.le_of_ble_eq_true rfl)) dL_law_527 ⟨hk1, hs1⟩) hS hc (fun r3 M4 H locs hr3 hw hS => ?_)
  obtain ⟨hI, hEM4, hr3⟩ := hr3
  refine lv_pop hx hb dL_law_530 rfl ?_
  refine lv_aload_n hx hb dL_law_531 rfl (lv_at hl 1 rfl) ?_
  refine lv_aload_n hx hb dL_law_532 rfl (lv_at hl 3 rfl) ?_
  refine lv_iload_n hx hb dL_law_533 rfl (lv_at hl 0 rfl) ?_
  refine lv_iconst (v := 1) hx hb dL_law_534 (by decide) ?_
  refine fx_iadd hx hb dL_law_535 rfl zk_1 (by omega) (fun y5 ey5 ty5 => ?_)
  refine va_sld hx hb hX hbl hbA hS (fm_in (by omega)) dL_law_536 ?_
  refine lv_topi (fun x6 ex6 => ?_)
  have qx6 : x2 = x6 := by rw [ex6, ex2, ey5, ey1]
  clear ex6
  subst qx6
  refine fm_ci (va_runV (As := [.int x2]) (rest := []) ⟨hx, hb, hml, hown, hts⟩ (fc_X12_hearer l D ad C nb M4 hI x2) (cwV 1 hts gL_law_X12_hearer rfl rfl rfl (by decide +kernel) ⟨Nat.le_of_ble_eq_true rfl, Nat.le_of_ble_eq_true rfl⟩) (fm_preV hc hw hS kl_60 sh_60 rfl) rfl rfl hl.1 rfl (lv_room (Nat.le_of_ble_eq_true rfl)) dL_law_537 ⟨hk1, hs1⟩) hS hc (fun r7 M8 H locs hr7 hw hS => ?_)
  obtain ⟨hI, hEM8, hr7⟩ := hr7
  refine lv_pop hx hb dL_law_540 rfl ?_
  refine lv_goto (tgt := 1834) hx hb dL_law_541 (by decide) ?_
  have hr90 : M8.1 0 0 10 = M8.1 60 0 16 := by rw [(hEM8 0 0 10 (by decide)).1, (hEM4 0 0 10 (by decide)).1, (hEM8 60 0 16 (by decide)).1, (hEM4 60 0 16 (by decide)).1]; exact hrel.1
  have hr91 : (∀ j : Nat, j < nb → M8.1 50 j 0 = M8.1 110 0 j) := fun j hj => by rw [(hEM8 50 j 0 (by decide)).1, (hEM4 50 j 0 (by decide)).1, (hEM8 110 0 j (by rw [cd_110]; decide)).1, (hEM4 110 0 j (by rw [cd_110]; decide)).1]; exact hrel.2.1 j hj
  have hr92 : (∀ j : Nat, j < nb → M8.1 50 j 3 = M8.1 113 0 j) := fun j hj => by rw [(hEM8 50 j 3 (by decide)).1, (hEM4 50 j 3 (by decide)).1, (hEM8 113 0 j (by rw [cd_113]; decide)).1, (hEM4 113 0 j (by rw [cd_113]; decide)).1]; exact hrel.2.2 j hj
  have hrel9 : M8.1 0 0 10 = M8.1 60 0 16 ∧ (∀ j : Nat, j < nb → M8.1 50 j 0 = M8.1 110 0 j) ∧ (∀ j : Nat, j < nb → M8.1 50 j 3 = M8.1 113 0 j) := ⟨hr90, hr91, hr92⟩
  exact kk M8 _ _ hw hI hS hrel9 ls (lv_sub hl [0, 1, 2, 3] rfl)
set_option maxHeartbeats 1000000 in
set_option maxRecDepth 20000 in
theorem lb_8 {p : Program} {l : Launch} {e : Env} {s : State} {m : MethodId} {below : List Frame} {meth : Method} {c : Code} {D : va_G} {ad : Nat → Nat → Nat} {C : Nat → Nat → ClassId} {nb : Nat} {M : fm_M} {b L : Nat} {xs : Nat → Int32} {H : Heap} {locs : List Loc} {kc sl : Nat} {i : Int32} (C0 : lw_At p s m meth c b L xs) (hkc : kc ≤ 10000) (hsl : sl ≤ 300000) (hc : fm_Cx D ad C nb (fun q : Nat => s.heap.size ≤ q) s) (hw : fm_at D ad C nb M H) (hI : fm_I nb ad M) (hS : va_S (fun q : Nat => s.heap.size ≤ q) s.heap H locs) (hi : 0 ≤ i.toInt ∧ i.toInt + 6 ≤ L) (hL : L ≤ 3072) (hrel : M.1 0 0 10 = M.1 60 0 16 ∧ (∀ j : Nat, j < nb → M.1 50 j 0 = M.1 110 0 j) ∧ (∀ j : Nat, j < nb → M.1 50 j 3 = M.1 113 0 j)) (kk : ∀ (M1 : fm_M) (H1 : Heap) (locs1 : List Loc), fm_at D ad C nb M1 H1 → fm_I nb ad M1 → va_S (fun q : Nat => s.heap.size ≤ q) s.heap H1 locs1 → M1.1 0 0 10 = M1.1 60 0 16 ∧ (∀ j : Nat, j < nb → M1.1 50 j 0 = M1.1 110 0 j) ∧ (∀ j : Nat, j < nb → M1.1 50 j 3 = M1.1 113 0 j) → ∀ ls : Array Slot, lv_has ls 4 [(3, .int i), (2, .ref (ad 60 0)), (1, .ref (ad 0 0)), (0, .ref b)] → W p l e room_1 s m #[Value.ref b] below meth c H1 locs1 kc sl (lw_Z below #[Value.ref b] s) (F0 m 1834 ls [])) (ls : Array Slot) (hl : lv_has ls 4 [(3, .int i), (2, .ref (ad 60 0)), (1, .ref (ad 0 0)), (0, .ref b)]) : W p l e room_1 s m #[Value.ref b] below meth c H locs kc sl (lw_Z below #[Value.ref b] s) (F0 m 544 ls []) := by
  obtain ⟨hx, hb, hr, hml, hown, hts, hX, hbl, hlocks, hgv⟩ := id C0
  have hown : s.vm.findClass RL = some m.cls := hown
  have hb : c.code = cL_law := hb
  have hbA : ¬ (fun q : Nat => s.heap.size ≤ q) b := Nat.not_le.mpr hbl
  have hk1 : kc + 0 ≤ room_1.cells := by show kc + 0 ≤ 600000; omega
  have hs1 : sl + 0 ≤ room_1.slots := by show sl + 0 ≤ 7302250; omega
  have hI0 := hI
  refine lv_aload_n hx hb dL_law_544 rfl (lv_at hl 2 rfl) ?_
  refine lv_aload_n hx hb dL_law_545 rfl (lv_at hl 3 rfl) ?_
  refine lv_iload_n hx hb dL_law_546 rfl (lv_at hl 0 rfl) ?_
  refine lv_iconst (v := 1) hx hb dL_law_547 (by decide) ?_
  refine fx_iadd hx hb dL_law_548 rfl zk_1 (by omega) (fun y1 ey1 ty1 => ?_)
  refine va_sld hx hb hX hbl hbA hS (fm_in (by omega)) dL_law_549 ?_
  refine lv_topi (fun x2 ex2 => ?_)
  refine lv_aload_n hx hb dL_law_550 rfl (lv_at hl 3 rfl) ?_
  refine lv_iload_n hx hb dL_law_551 rfl (lv_at hl 0 rfl) ?_
  refine lv_iconst (v := 2) hx hb dL_law_552 (by decide) ?_
  refine fx_iadd hx hb dL_law_553 rfl zk_2 (by omega) (fun y3 ey3 ty3 => ?_)
  refine va_sld hx hb hX hbl hbA hS (fm_in (by omega)) dL_law_554 ?_
  refine lv_topi (fun x4 ex4 => ?_)
  refine lv_aload_n hx hb dL_law_555 rfl (lv_at hl 3 rfl) ?_
  refine lv_iload_n hx hb dL_law_556 rfl (lv_at hl 0 rfl) ?_
  refine lv_iconst (v := 3) hx hb dL_law_557 (by decide) ?_
  refine fx_iadd hx hb dL_law_558 rfl zk_3 (by omega) (fun y5 ey5 ty5 => ?_)
  refine va_sld hx hb hX hbl hbA hS (fm_in (by omega)) dL_law_559 ?_
  refine lv_topi (fun x6 ex6 => ?_)
  refine lv_aload_n hx hb dL_law_560 rfl (lv_at hl 3 rfl) ?_
  refine lv_iload_n hx hb dL_law_561 rfl (lv_at hl 0 rfl) ?_
  refine lv_iconst (v := 4) hx hb dL_law_562 (by decide) ?_
  refine fx_iadd hx hb dL_law_563 rfl zk_4 (by omega) (fun y7 ey7 ty7 => ?_)
  refine va_sld hx hb hX hbl hbA hS (fm_in (by omega)) dL_law_564 ?_
  refine lv_topi (fun x8 ex8 => ?_)
  refine fm_ci (va_runV (As := [.int x2, .int x4, .int x6, .int x8]) (rest := []) ⟨hx, hb, hml, hown, hts⟩ (fc_X11_wave l D ad C nb M hI x2 x4 x6 x8) (cwV 4 hts gL_law_X11_wave rfl rfl rfl (by decide +kernel) ⟨Nat.le_of_ble_eq_true rfl, Nat.le_of_ble_eq_true rfl⟩) (fm_preV hc hw hS kl_0 sh_0 rfl) rfl rfl hl.1 rfl (lv_room (Nat.le_of_ble_eq_true rfl)) dL_law_565 ⟨hk1, hs1⟩) hS hc (fun r9 M10 H locs hr9 hw hS => ?_)
  obtain ⟨hI, hEM10, hr9⟩ := hr9
  refine lv_pop hx hb dL_law_568 rfl ?_
  refine lv_aload_n hx hb dL_law_569 rfl (lv_at hl 1 rfl) ?_
  refine lv_aload_n hx hb dL_law_570 rfl (lv_at hl 3 rfl) ?_
  refine lv_iload_n hx hb dL_law_571 rfl (lv_at hl 0 rfl) ?_
  refine lv_iconst (v := 1) hx hb dL_law_572 (by decide) ?_
  refine fx_iadd hx hb dL_law_573 rfl zk_1 (by omega) (fun y11 ey11 ty11 => ?_)
  refine va_sld hx hb hX hbl hbA hS (fm_in (by omega)) dL_law_574 ?_
  refine lv_topi (fun x12 ex12 => ?_)
  have qx12 : x2 = x12 := by rw [ex12, ex2, ey11, ey1]
  clear ex12
  subst qx12
  refine lv_aload_n hx hb dL_law_575 rfl (lv_at hl 3 rfl) ?_
  refine lv_iload_n hx hb dL_law_576 rfl (lv_at hl 0 rfl) ?_
  refine lv_iconst (v := 2) hx hb dL_law_577 (by decide) ?_
  refine fx_iadd hx hb dL_law_578 rfl zk_2 (by omega) (fun y13 ey13 ty13 => ?_)
  refine va_sld hx hb hX hbl hbA hS (fm_in (by omega)) dL_law_579 ?_
  refine lv_topi (fun x14 ex14 => ?_)
  have qx14 : x4 = x14 := by rw [ex14, ex4, ey13, ey3]
  clear ex14
  subst qx14
  refine lv_aload_n hx hb dL_law_580 rfl (lv_at hl 3 rfl) ?_
  refine lv_iload_n hx hb dL_law_581 rfl (lv_at hl 0 rfl) ?_
  refine lv_iconst (v := 3) hx hb dL_law_582 (by decide) ?_
  refine fx_iadd hx hb dL_law_583 rfl zk_3 (by omega) (fun y15 ey15 ty15 => ?_)
  refine va_sld hx hb hX hbl hbA hS (fm_in (by omega)) dL_law_584 ?_
  refine lv_topi (fun x16 ex16 => ?_)
  have qx16 : x6 = x16 := by rw [ex16, ex6, ey15, ey5]
  clear ex16
  subst qx16
  refine lv_aload_n hx hb dL_law_585 rfl (lv_at hl 3 rfl) ?_
  refine lv_iload_n hx hb dL_law_586 rfl (lv_at hl 0 rfl) ?_
  refine lv_iconst (v := 4) hx hb dL_law_587 (by decide) ?_
  refine fx_iadd hx hb dL_law_588 rfl zk_4 (by omega) (fun y17 ey17 ty17 => ?_)
  refine va_sld hx hb hX hbl hbA hS (fm_in (by omega)) dL_law_589 ?_
  refine lv_topi (fun x18 ex18 => ?_)
  have qx18 : x8 = x18 := by rw [ex18, ex8, ey17, ey7]
  clear ex18
  subst qx18
  refine fm_ci (va_runV (As := [.int x2, .int x4, .int x6, .int x8]) (rest := []) ⟨hx, hb, hml, hown, hts⟩ (fc_X12_wave l D ad C nb M10 hI x2 x4 x6 x8) (cwV 4 hts gL_law_X12_wave rfl rfl rfl (by decide +kernel) ⟨Nat.le_of_ble_eq_true rfl, Nat.le_of_ble_eq_true rfl⟩) (fm_preV hc hw hS kl_60 sh_60 rfl) rfl rfl hl.1 rfl (lv_room (Nat.le_of_ble_eq_true rfl)) dL_law_590 ⟨hk1, hs1⟩) hS hc (fun r19 M20 H locs hr19 hw hS => ?_)
  obtain ⟨hI, hEM20, hr19⟩ := hr19
  refine lv_pop hx hb dL_law_593 rfl ?_
  refine lv_goto (tgt := 1834) hx hb dL_law_594 (by decide) ?_
  have hr90 : M20.1 0 0 10 = M20.1 60 0 16 := by rw [(hEM20 0 0 10 (by decide)).1, (hEM10 0 0 10 (by decide)).1, (hEM20 60 0 16 (by decide)).1, (hEM10 60 0 16 (by decide)).1]; exact hrel.1
  have hr91 : (∀ j : Nat, j < nb → M20.1 50 j 0 = M20.1 110 0 j) := fun j hj => by rw [(hEM20 50 j 0 (by decide)).1, (hEM10 50 j 0 (by decide)).1, (hEM20 110 0 j (by rw [cd_110]; decide)).1, (hEM10 110 0 j (by rw [cd_110]; decide)).1]; exact hrel.2.1 j hj
  have hr92 : (∀ j : Nat, j < nb → M20.1 50 j 3 = M20.1 113 0 j) := fun j hj => by rw [(hEM20 50 j 3 (by decide)).1, (hEM10 50 j 3 (by decide)).1, (hEM20 113 0 j (by rw [cd_113]; decide)).1, (hEM10 113 0 j (by rw [cd_113]; decide)).1]; exact hrel.2.2 j hj
  have hrel9 : M20.1 0 0 10 = M20.1 60 0 16 ∧ (∀ j : Nat, j < nb → M20.1 50 j 0 = M20.1 110 0 j) ∧ (∀ j : Nat, j < nb → M20.1 50 j 3 = M20.1 113 0 j) := ⟨hr90, hr91, hr92⟩
  exact kk M20 _ _ hw hI hS hrel9 ls (lv_sub hl [0, 1, 2, 3] rfl)
set_option maxHeartbeats 1000000 in
set_option maxRecDepth 20000 in
theorem lb_9 {p : Program} {l : Launch} {e : Env} {s : State} {m : MethodId} {below : List Frame} {meth : Method} {c : Code} {D : va_G} {ad : Nat → Nat → Nat} {C : Nat → Nat → ClassId} {nb : Nat} {M : fm_M} {b L : Nat} {xs : Nat → Int32} {H : Heap} {locs : List Loc} {kc sl : Nat} {i : Int32} (C0 : lw_At p s m meth c b L xs) (hkc : kc ≤ 10000) (hsl : sl ≤ 300000) (hc : fm_Cx D ad C nb (fun q : Nat => s.heap.size ≤ q) s) (hw : fm_at D ad C nb M H) (hI : fm_I nb ad M) (hS : va_S (fun q : Nat => s.heap.size ≤ q) s.heap H locs) (hi : 0 ≤ i.toInt ∧ i.toInt + 6 ≤ L) (hL : L ≤ 3072) (hrel : M.1 0 0 10 = M.1 60 0 16 ∧ (∀ j : Nat, j < nb → M.1 50 j 0 = M.1 110 0 j) ∧ (∀ j : Nat, j < nb → M.1 50 j 3 = M.1 113 0 j)) (kk : ∀ (M1 : fm_M) (H1 : Heap) (locs1 : List Loc), fm_at D ad C nb M1 H1 → fm_I nb ad M1 → va_S (fun q : Nat => s.heap.size ≤ q) s.heap H1 locs1 → M1.1 0 0 10 = M1.1 60 0 16 ∧ (∀ j : Nat, j < nb → M1.1 50 j 0 = M1.1 110 0 j) ∧ (∀ j : Nat, j < nb → M1.1 50 j 3 = M1.1 113 0 j) → ∀ ls : Array Slot, lv_has ls 4 [(3, .int i), (2, .ref (ad 60 0)), (1, .ref (ad 0 0)), (0, .ref b)] → W p l e room_1 s m #[Value.ref b] below meth c H1 locs1 kc sl (lw_Z below #[Value.ref b] s) (F0 m 1834 ls [])) (ls : Array Slot) (hl : lv_has ls 4 [(3, .int i), (2, .ref (ad 60 0)), (1, .ref (ad 0 0)), (0, .ref b)]) : W p l e room_1 s m #[Value.ref b] below meth c H locs kc sl (lw_Z below #[Value.ref b] s) (F0 m 597 ls []) := by
  obtain ⟨hx, hb, hr, hml, hown, hts, hX, hbl, hlocks, hgv⟩ := id C0
  have hown : s.vm.findClass RL = some m.cls := hown
  have hb : c.code = cL_law := hb
  have hbA : ¬ (fun q : Nat => s.heap.size ≤ q) b := Nat.not_le.mpr hbl
  have hk1 : kc + 0 ≤ room_1.cells := by show kc + 0 ≤ 600000; omega
  have hs1 : sl + 0 ≤ room_1.slots := by show sl + 0 ≤ 7302250; omega
  have hI0 := hI
  refine lv_aload_n hx hb dL_law_597 rfl (lv_at hl 2 rfl) ?_
  refine lv_aload_n hx hb dL_law_598 rfl (lv_at hl 3 rfl) ?_
  refine lv_iload_n hx hb dL_law_599 rfl (lv_at hl 0 rfl) ?_
  refine lv_iconst (v := 1) hx hb dL_law_600 (by decide) ?_
  refine fx_iadd hx hb dL_law_601 rfl zk_1 (by omega) (fun y1 ey1 ty1 => ?_)
  refine va_sld hx hb hX hbl hbA hS (fm_in (by omega)) dL_law_602 ?_
  refine lv_topi (fun x2 ex2 => ?_)
  refine lv_aload_n hx hb dL_law_603 rfl (lv_at hl 3 rfl) ?_
  refine lv_iload_n hx hb dL_law_604 rfl (lv_at hl 0 rfl) ?_
  refine lv_iconst (v := 2) hx hb dL_law_605 (by decide) ?_
  refine fx_iadd hx hb dL_law_606 rfl zk_2 (by omega) (fun y3 ey3 ty3 => ?_)
  refine va_sld hx hb hX hbl hbA hS (fm_in (by omega)) dL_law_607 ?_
  refine lv_topi (fun x4 ex4 => ?_)
  refine lv_aload_n hx hb dL_law_608 rfl (lv_at hl 3 rfl) ?_
  refine lv_iload_n hx hb dL_law_609 rfl (lv_at hl 0 rfl) ?_
  refine lv_iconst (v := 3) hx hb dL_law_610 (by decide) ?_
  refine fx_iadd hx hb dL_law_611 rfl zk_3 (by omega) (fun y5 ey5 ty5 => ?_)
  refine va_sld hx hb hX hbl hbA hS (fm_in (by omega)) dL_law_612 ?_
  refine lv_topi (fun x6 ex6 => ?_)
  refine fx_i2l hx hb dL_law_613 rfl (fun y7 ey7 ty7 => ?_)
  refine lv_bipush (v := 32) hx hb dL_law_614 (by decide) ?_
  refine lv_lshl (v := y7 <<< ((32 : Int32).toInt64 &&& 63)) hx hb dL_law_616 rfl ?_
  refine lv_topl (fun y8 ey8 => ?_)
  refine lv_aload_n hx hb dL_law_617 rfl (lv_at hl 3 rfl) ?_
  refine lv_iload_n hx hb dL_law_618 rfl (lv_at hl 0 rfl) ?_
  refine lv_iconst (v := 4) hx hb dL_law_619 (by decide) ?_
  refine fx_iadd hx hb dL_law_620 rfl zk_4 (by omega) (fun y9 ey9 ty9 => ?_)
  refine va_sld hx hb hX hbl hbA hS (fm_in (by omega)) dL_law_621 ?_
  refine lv_topi (fun x10 ex10 => ?_)
  refine fx_i2l hx hb dL_law_622 rfl (fun y11 ey11 ty11 => ?_)
  refine lv_ldc2 (v := 4294967295) hx hb hown (hts (.constantLong RL 42 (4294967295)) (rt_pc_in 7 _ (List.mem_of_getElem? (i := 231) (by decide +kernel)))) dL_law_623 ?_
  refine lv_land hx hb dL_law_626 ?_
  refine lv_topl (fun y12 ey12 => ?_)
  refine lv_lor hx hb dL_law_627 ?_
  refine lv_topl (fun y13 ey13 => ?_)
  refine fm_ci (va_runV (As := [.int x2, .int x4, .long y13]) (rest := []) ⟨hx, hb, hml, hown, hts⟩ (fc_X11_call l D ad C nb M hI x2 x4 y13) (cwV 3 hts gL_law_X11_call rfl rfl rfl (by decide +kernel) ⟨Nat.le_of_ble_eq_true rfl, Nat.le_of_ble_eq_true rfl⟩) (fm_preV hc hw hS kl_0 sh_0 rfl) rfl rfl hl.1 rfl (lv_room (Nat.le_of_ble_eq_true rfl)) dL_law_628 ⟨hk1, hs1⟩) hS hc (fun r14 M15 H locs hr14 hw hS => ?_)
  obtain ⟨hI, hEM15, hr14⟩ := hr14
  refine lv_pop hx hb dL_law_631 rfl ?_
  refine lv_aload_n hx hb dL_law_632 rfl (lv_at hl 1 rfl) ?_
  refine lv_aload_n hx hb dL_law_633 rfl (lv_at hl 3 rfl) ?_
  refine lv_iload_n hx hb dL_law_634 rfl (lv_at hl 0 rfl) ?_
  refine lv_iconst (v := 1) hx hb dL_law_635 (by decide) ?_
  refine fx_iadd hx hb dL_law_636 rfl zk_1 (by omega) (fun y16 ey16 ty16 => ?_)
  refine va_sld hx hb hX hbl hbA hS (fm_in (by omega)) dL_law_637 ?_
  refine lv_topi (fun x17 ex17 => ?_)
  have qx17 : x2 = x17 := by rw [ex17, ex2, ey16, ey1]
  clear ex17
  subst qx17
  refine lv_aload_n hx hb dL_law_638 rfl (lv_at hl 3 rfl) ?_
  refine lv_iload_n hx hb dL_law_639 rfl (lv_at hl 0 rfl) ?_
  refine lv_iconst (v := 2) hx hb dL_law_640 (by decide) ?_
  refine fx_iadd hx hb dL_law_641 rfl zk_2 (by omega) (fun y18 ey18 ty18 => ?_)
  refine va_sld hx hb hX hbl hbA hS (fm_in (by omega)) dL_law_642 ?_
  refine lv_topi (fun x19 ex19 => ?_)
  have qx19 : x4 = x19 := by rw [ex19, ex4, ey18, ey3]
  clear ex19
  subst qx19
  refine lv_aload_n hx hb dL_law_643 rfl (lv_at hl 3 rfl) ?_
  refine lv_iload_n hx hb dL_law_644 rfl (lv_at hl 0 rfl) ?_
  refine lv_iconst (v := 3) hx hb dL_law_645 (by decide) ?_
  refine fx_iadd hx hb dL_law_646 rfl zk_3 (by omega) (fun y20 ey20 ty20 => ?_)
  refine va_sld hx hb hX hbl hbA hS (fm_in (by omega)) dL_law_647 ?_
  refine lv_topi (fun x21 ex21 => ?_)
  have qx21 : x6 = x21 := by rw [ex21, ex6, ey20, ey5]
  clear ex21
  subst qx21
  refine fx_i2l hx hb dL_law_648 rfl (fun y22 ey22 ty22 => ?_)
  refine lv_bipush (v := 32) hx hb dL_law_649 (by decide) ?_
  refine lv_lshl (v := y22 <<< ((32 : Int32).toInt64 &&& 63)) hx hb dL_law_651 rfl ?_
  refine lv_topl (fun y23 ey23 => ?_)
  refine lv_aload_n hx hb dL_law_652 rfl (lv_at hl 3 rfl) ?_
  refine lv_iload_n hx hb dL_law_653 rfl (lv_at hl 0 rfl) ?_
  refine lv_iconst (v := 4) hx hb dL_law_654 (by decide) ?_
  refine fx_iadd hx hb dL_law_655 rfl zk_4 (by omega) (fun y24 ey24 ty24 => ?_)
  refine va_sld hx hb hX hbl hbA hS (fm_in (by omega)) dL_law_656 ?_
  refine lv_topi (fun x25 ex25 => ?_)
  have qx25 : x10 = x25 := by rw [ex25, ex10, ey24, ey9]
  clear ex25
  subst qx25
  refine fx_i2l hx hb dL_law_657 rfl (fun y26 ey26 ty26 => ?_)
  refine lv_ldc2 (v := 4294967295) hx hb hown (hts (.constantLong RL 42 (4294967295)) (rt_pc_in 7 _ (List.mem_of_getElem? (i := 231) (by decide +kernel)))) dL_law_658 ?_
  refine lv_land hx hb dL_law_661 ?_
  refine lv_topl (fun y27 ey27 => ?_)
  refine lv_lor hx hb dL_law_662 ?_
  refine lv_topl (fun y28 ey28 => ?_)
  have qy28 : y13 = y28 := by rw [ey13, ey8, ey7, ey12, ey11, ey28, ey23, ey22, ey27, ey26]
  clear ey28
  subst qy28
  refine fm_ci (va_runV (As := [.int x2, .int x4, .long y13]) (rest := []) ⟨hx, hb, hml, hown, hts⟩ (fc_X12_call l D ad C nb M15 hI x2 x4 y13) (cwV 3 hts gL_law_X12_call rfl rfl rfl (by decide +kernel) ⟨Nat.le_of_ble_eq_true rfl, Nat.le_of_ble_eq_true rfl⟩) (fm_preV hc hw hS kl_60 sh_60 rfl) rfl rfl hl.1 rfl (lv_room (Nat.le_of_ble_eq_true rfl)) dL_law_663 ⟨hk1, hs1⟩) hS hc (fun r29 M30 H locs hr29 hw hS => ?_)
  obtain ⟨hI, hEM30, hr29⟩ := hr29
  refine lv_pop hx hb dL_law_666 rfl ?_
  refine lv_goto (tgt := 1834) hx hb dL_law_667 (by decide) ?_
  have hr90 : M30.1 0 0 10 = M30.1 60 0 16 := by rw [(hEM30 0 0 10 (by decide)).1, (hEM15 0 0 10 (by decide)).1, (hEM30 60 0 16 (by decide)).1, (hEM15 60 0 16 (by decide)).1]; exact hrel.1
  have hr91 : (∀ j : Nat, j < nb → M30.1 50 j 0 = M30.1 110 0 j) := fun j hj => by rw [(hEM30 50 j 0 (by decide)).1, (hEM15 50 j 0 (by decide)).1, (hEM30 110 0 j (by rw [cd_110]; decide)).1, (hEM15 110 0 j (by rw [cd_110]; decide)).1]; exact hrel.2.1 j hj
  have hr92 : (∀ j : Nat, j < nb → M30.1 50 j 3 = M30.1 113 0 j) := fun j hj => by rw [(hEM30 50 j 3 (by decide)).1, (hEM15 50 j 3 (by decide)).1, (hEM30 113 0 j (by rw [cd_113]; decide)).1, (hEM15 113 0 j (by rw [cd_113]; decide)).1]; exact hrel.2.2 j hj
  have hrel9 : M30.1 0 0 10 = M30.1 60 0 16 ∧ (∀ j : Nat, j < nb → M30.1 50 j 0 = M30.1 110 0 j) ∧ (∀ j : Nat, j < nb → M30.1 50 j 3 = M30.1 113 0 j) := ⟨hr90, hr91, hr92⟩
  exact kk M30 _ _ hw hI hS hrel9 ls (lv_sub hl [0, 1, 2, 3] rfl)
