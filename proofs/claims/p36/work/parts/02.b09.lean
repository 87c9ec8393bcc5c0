theorem dL_build_14 : decode cL_build 14 = .ok (.bipush 14, 2) := by decide +kernel
theorem dL_build_16 : decode cL_build 16 = .ok (.invokestatic 15, 3) := by decide +kernel
theorem dL_build_19 : decode cL_build 19 = .ok (.iadd, 1) := by decide +kernel
theorem dL_build_20 : decode cL_build 20 = .ok (.istore_n 3, 1) := by decide +kernel
theorem dL_build_21 : decode cL_build 21 = .ok (.iconst 0, 1) := by decide +kernel
theorem dL_build_22 : decode cL_build 22 = .ok (.istore 4, 2) := by decide +kernel
theorem dL_build_24 : decode cL_build 24 = .ok (.iload 4, 2) := by decide +kernel
theorem dL_build_26 : decode cL_build 26 = .ok (.iload_n 3, 1) := by decide +kernel
theorem dL_build_27 : decode cL_build 27 = .ok (.if_icmp .ge 186, 3) := by decide +kernel
theorem dL_build_30 : decode cL_build 30 = .ok (.aload_n 1, 1) := by decide +kernel
theorem dL_build_31 : decode cL_build 31 = .ok (.iconst 1, 1) := by decide +kernel
theorem dL_build_32 : decode cL_build 32 = .ok (.iload 4, 2) := by decide +kernel
theorem dL_build_34 : decode cL_build 34 = .ok (.iadd, 1) := by decide +kernel
theorem dL_build_35 : decode cL_build 35 = .ok (.invokestatic 80, 3) := by decide +kernel
theorem dL_build_38 : decode cL_build 38 = .ok (.istore 5, 2) := by decide +kernel
theorem dL_build_40 : decode cL_build 40 = .ok (.iload 4, 2) := by decide +kernel
theorem dL_build_42 : decode cL_build 42 = .ok (.ifCond .eq 12, 3) := by decide +kernel
theorem dL_build_45 : decode cL_build 45 = .ok (.iload 5, 2) := by decide +kernel
theorem dL_build_47 : decode cL_build 47 = .ok (.iconst 3, 1) := by decide +kernel
theorem dL_build_48 : decode cL_build 48 = .ok (.invokestatic 15, 3) := by decide +kernel
theorem dL_build_51 : decode cL_build 51 = .ok (.ifCond .ne 7, 3) := by decide +kernel
theorem dL_build_54 : decode cL_build 54 = .ok (.iconst (-1), 1) := by decide +kernel
theorem dL_build_55 : decode cL_build 55 = .ok (.goto 12, 3) := by decide +kernel
theorem dL_build_58 : decode cL_build 58 = .ok (.iload 5, 2) := by decide +kernel
theorem dL_build_60 : decode cL_build 60 = .ok (.iconst 3, 1) := by decide +kernel
theorem dL_build_61 : decode cL_build 61 = .ok (.ishr, 1) := by decide +kernel
theorem dL_build_62 : decode cL_build 62 = .ok (.iload 4, 2) := by decide +kernel
theorem dL_build_64 : decode cL_build 64 = .ok (.invokestatic 15, 3) := by decide +kernel
theorem dL_build_67 : decode cL_build 67 = .ok (.istore 6, 2) := by decide +kernel
theorem dL_build_69 : decode cL_build 69 = .ok (.aload_n 2, 1) := by decide +kernel
theorem dL_build_70 : decode cL_build 70 = .ok (.aload_n 2, 1) := by decide +kernel
theorem dL_build_71 : decode cL_build 71 = .ok (.getfield 9, 3) := by decide +kernel
theorem dL_build_74 : decode cL_build 74 = .ok (.iconst 3, 1) := by decide +kernel
theorem dL_build_75 : decode cL_build 75 = .ok (.newarray .int, 2) := by decide +kernel
theorem dL_build_77 : decode cL_build 77 = .ok (.dup, 1) := by decide +kernel
theorem dL_build_78 : decode cL_build 78 = .ok (.iconst 0, 1) := by decide +kernel
theorem dL_build_79 : decode cL_build 79 = .ok (.iload 6, 2) := by decide +kernel
theorem dL_build_81 : decode cL_build 81 = .ok (.iastore, 1) := by decide +kernel
theorem dL_build_82 : decode cL_build 82 = .ok (.dup, 1) := by decide +kernel
theorem dL_build_83 : decode cL_build 83 = .ok (.iconst 1, 1) := by decide +kernel
theorem dL_build_84 : decode cL_build 84 = .ok (.iconst (-1), 1) := by decide +kernel
theorem dL_build_85 : decode cL_build 85 = .ok (.iastore, 1) := by decide +kernel
theorem dL_build_86 : decode cL_build 86 = .ok (.dup, 1) := by decide +kernel
theorem dL_build_87 : decode cL_build 87 = .ok (.iconst 2, 1) := by decide +kernel
theorem dL_build_88 : decode cL_build 88 = .ok (.iconst 1, 1) := by decide +kernel
theorem dL_build_89 : decode cL_build 89 = .ok (.iastore, 1) := by decide +kernel
theorem dL_build_90 : decode cL_build 90 = .ok (.invokestatic 21, 3) := by decide +kernel
theorem dL_build_93 : decode cL_build 93 = .ok (.putfield 9, 3) := by decide +kernel
theorem dL_build_96 : decode cL_build 96 = .ok (.iload 6, 2) := by decide +kernel
theorem dL_build_98 : decode cL_build 98 = .ok (.ifCond .ge 10, 3) := by decide +kernel
theorem dL_build_101 : decode cL_build 101 = .ok (.aload_n 0, 1) := by decide +kernel
theorem dL_build_102 : decode cL_build 102 = .ok (.invokevirtual 25, 3) := by decide +kernel
theorem dL_build_105 : decode cL_build 105 = .ok (.goto 9, 3) := by decide +kernel
theorem dL_build_108 : decode cL_build 108 = .ok (.aload_n 0, 1) := by decide +kernel
theorem dL_build_109 : decode cL_build 109 = .ok (.iload 6, 2) := by decide +kernel
theorem dL_build_111 : decode cL_build 111 = .ok (.invokevirtual 33, 3) := by decide +kernel
theorem dL_build_114 : decode cL_build 114 = .ok (.iload 4, 2) := by decide +kernel
theorem dL_build_116 : decode cL_build 116 = .ok (.if_icmp .eq 5, 3) := by decide +kernel
theorem dL_build_119 : decode cL_build 119 = .ok (.aconst_null, 1) := by decide +kernel
theorem dL_build_120 : decode cL_build 120 = .ok (.areturn, 1) := by decide +kernel
theorem dL_build_121 : decode cL_build 121 = .ok (.iload 4, 2) := by decide +kernel
theorem dL_build_123 : decode cL_build 123 = .ok (.ifCond .ne 7, 3) := by decide +kernel
theorem dL_build_126 : decode cL_build 126 = .ok (.iconst 0, 1) := by decide +kernel
theorem dL_build_127 : decode cL_build 127 = .ok (.goto 12, 3) := by decide +kernel
theorem dL_build_130 : decode cL_build 130 = .ok (.iload 5, 2) := by decide +kernel
theorem dL_build_132 : decode cL_build 132 = .ok (.iconst 5, 1) := by decide +kernel
theorem dL_build_133 : decode cL_build 133 = .ok (.ishr, 1) := by decide +kernel
theorem dL_build_134 : decode cL_build 134 = .ok (.iload 4, 2) := by decide +kernel
theorem dL_build_136 : decode cL_build 136 = .ok (.invokestatic 15, 3) := by decide +kernel
theorem dL_build_139 : decode cL_build 139 = .ok (.istore 7, 2) := by decide +kernel
theorem dL_build_141 : decode cL_build 141 = .ok (.iload 5, 2) := by decide +kernel
theorem dL_build_143 : decode cL_build 143 = .ok (.iconst 2, 1) := by decide +kernel
theorem dL_build_144 : decode cL_build 144 = .ok (.ishr, 1) := by decide +kernel
theorem dL_build_145 : decode cL_build 145 = .ok (.iconst 3, 1) := by decide +kernel
theorem dL_build_146 : decode cL_build 146 = .ok (.invokestatic 15, 3) := by decide +kernel
theorem dL_build_149 : decode cL_build 149 = .ok (.ifCond .gt 58, 3) := by decide +kernel
theorem dL_build_152 : decode cL_build 152 = .ok (.iload 4, 2) := by decide +kernel
theorem dL_build_154 : decode cL_build 154 = .ok (.ifCond .eq 53, 3) := by decide +kernel
theorem dL_build_157 : decode cL_build 157 = .ok (.aload_n 2, 1) := by decide +kernel
theorem dL_build_158 : decode cL_build 158 = .ok (.getfield 9, 3) := by decide +kernel
theorem dL_build_161 : decode cL_build 161 = .ok (.iload 7, 2) := by decide +kernel
theorem dL_build_163 : decode cL_build 163 = .ok (.aaload, 1) := by decide +kernel
theorem dL_build_164 : decode cL_build 164 = .ok (.iconst 1, 1) := by decide +kernel
theorem dL_build_165 : decode cL_build 165 = .ok (.iaload, 1) := by decide +kernel
theorem dL_build_166 : decode cL_build 166 = .ok (.ifCond .lt 6, 3) := by decide +kernel
theorem dL_build_169 : decode cL_build 169 = .ok (.goto 38, 3) := by decide +kernel
theorem dL_build_172 : decode cL_build 172 = .ok (.aload_n 2, 1) := by decide +kernel
theorem dL_build_173 : decode cL_build 173 = .ok (.invokevirtual 41, 3) := by decide +kernel
theorem dL_build_176 : decode cL_build 176 = .ok (.iload 4, 2) := by decide +kernel
theorem dL_build_178 : decode cL_build 178 = .ok (.aaload, 1) := by decide +kernel
theorem dL_build_179 : decode cL_build 179 = .ok (.iload 7, 2) := by decide +kernel
theorem dL_build_181 : decode cL_build 181 = .ok (.iaload, 1) := by decide +kernel
theorem dL_build_182 : decode cL_build 182 = .ok (.istore 8, 2) := by decide +kernel
theorem dL_build_184 : decode cL_build 184 = .ok (.aload_n 2, 1) := by decide +kernel
theorem dL_build_185 : decode cL_build 185 = .ok (.iload 4, 2) := by decide +kernel
theorem dL_build_187 : decode cL_build 187 = .ok (.iload 7, 2) := by decide +kernel
theorem dL_build_189 : decode cL_build 189 = .ok (.invokevirtual 45, 3) := by decide +kernel
theorem dL_build_192 : decode cL_build 192 = .ok (.aload_n 0, 1) := by decide +kernel
theorem dL_build_193 : decode cL_build 193 = .ok (.iload 4, 2) := by decide +kernel
theorem dL_build_195 : decode cL_build 195 = .ok (.iload 7, 2) := by decide +kernel
theorem dL_build_197 : decode cL_build 197 = .ok (.invokevirtual 49, 3) := by decide +kernel
theorem dL_build_200 : decode cL_build 200 = .ok (.iload 8, 2) := by decide +kernel
theorem dL_build_202 : decode cL_build 202 = .ok (.if_icmp .eq 5, 3) := by decide +kernel
theorem dL_build_205 : decode cL_build 205 = .ok (.aconst_null, 1) := by decide +kernel
theorem dL_build_206 : decode cL_build 206 = .ok (.areturn, 1) := by decide +kernel
theorem dL_build_207 : decode cL_build 207 = .ok (.iinc 4 1, 3) := by decide +kernel
theorem dL_build_210 : decode cL_build 210 = .ok (.goto (-186), 3) := by decide +kernel
theorem dL_build_213 : decode cL_build 213 = .ok (.iconst 1, 1) := by decide +kernel
theorem dL_build_214 : decode cL_build 214 = .ok (.istore 4, 2) := by decide +kernel
theorem dL_build_216 : decode cL_build 216 = .ok (.iload 4, 2) := by decide +kernel
theorem dL_build_218 : decode cL_build 218 = .ok (.iconst 5, 1) := by decide +kernel
theorem dL_build_219 : decode cL_build 219 = .ok (.if_icmp .ge 132, 3) := by decide +kernel
theorem dL_build_222 : decode cL_build 222 = .ok (.iconst 0, 1) := by decide +kernel
theorem dL_build_223 : decode cL_build 223 = .ok (.istore 5, 2) := by decide +kernel
theorem dL_build_225 : decode cL_build 225 = .ok (.iload 5, 2) := by decide +kernel
theorem dL_build_227 : decode cL_build 227 = .ok (.iconst 3, 1) := by decide +kernel
theorem dL_build_228 : decode cL_build 228 = .ok (.if_icmp .ge 117, 3) := by decide +kernel
theorem dL_build_231 : decode cL_build 231 = .ok (.aload_n 1, 1) := by decide +kernel
theorem dL_build_232 : decode cL_build 232 = .ok (.iload 4, 2) := by decide +kernel
theorem dL_build_234 : decode cL_build 234 = .ok (.iconst 4, 1) := by decide +kernel
theorem dL_build_235 : decode cL_build 235 = .ok (.iload 5, 2) := by decide +kernel
theorem dL_build_237 : decode cL_build 237 = .ok (.imul, 1) := by decide +kernel
theorem dL_build_238 : decode cL_build 238 = .ok (.iadd, 1) := by decide +kernel
theorem dL_build_239 : decode cL_build 239 = .ok (.invokestatic 80, 3) := by decide +kernel
theorem dL_build_242 : decode cL_build 242 = .ok (.iconst 4, 1) := by decide +kernel
theorem dL_build_243 : decode cL_build 243 = .ok (.ishr, 1) := by decide +kernel
theorem dL_build_244 : decode cL_build 244 = .ok (.istore 6, 2) := by decide +kernel
theorem dL_build_246 : decode cL_build 246 = .ok (.aload_n 2, 1) := by decide +kernel
theorem dL_build_247 : decode cL_build 247 = .ok (.getfield 51, 3) := by decide +kernel
theorem dL_build_250 : decode cL_build 250 = .ok (.iload 4, 2) := by decide +kernel
theorem dL_build_252 : decode cL_build 252 = .ok (.aaload, 1) := by decide +kernel
theorem dL_build_253 : decode cL_build 253 = .ok (.iload 5, 2) := by decide +kernel
theorem dL_build_255 : decode cL_build 255 = .ok (.iconst 2, 1) := by decide +kernel
theorem dL_build_256 : decode cL_build 256 = .ok (.newarray .int, 2) := by decide +kernel
theorem dL_build_258 : decode cL_build 258 = .ok (.dup, 1) := by decide +kernel
theorem dL_build_259 : decode cL_build 259 = .ok (.iconst 0, 1) := by decide +kernel
theorem dL_build_260 : decode cL_build 260 = .ok (.iload 6, 2) := by decide +kernel
theorem dL_build_262 : decode cL_build 262 = .ok (.bipush 6, 2) := by decide +kernel
theorem dL_build_264 : decode cL_build 264 = .ok (.invokestatic 15, 3) := by decide +kernel
theorem dL_build_267 : decode cL_build 267 = .ok (.iastore, 1) := by decide +kernel
theorem dL_build_268 : decode cL_build 268 = .ok (.dup, 1) := by decide +kernel
theorem dL_build_269 : decode cL_build 269 = .ok (.iconst 1, 1) := by decide +kernel
theorem dL_build_270 : decode cL_build 270 = .ok (.iload 6, 2) := by decide +kernel
theorem dL_build_272 : decode cL_build 272 = .ok (.iconst 3, 1) := by decide +kernel
theorem dL_build_273 : decode cL_build 273 = .ok (.ishr, 1) := by decide +kernel
theorem dL_build_274 : decode cL_build 274 = .ok (.iconst 4, 1) := by decide +kernel
theorem dL_build_275 : decode cL_build 275 = .ok (.invokestatic 15, 3) := by decide +kernel
theorem dL_build_278 : decode cL_build 278 = .ok (.ifCond .ne 7, 3) := by decide +kernel
theorem dL_build_281 : decode cL_build 281 = .ok (.iconst 0, 1) := by decide +kernel
theorem dL_build_282 : decode cL_build 282 = .ok (.goto 12, 3) := by decide +kernel
theorem dL_build_285 : decode cL_build 285 = .ok (.iload 6, 2) := by decide +kernel
theorem dL_build_287 : decode cL_build 287 = .ok (.iconst 4, 1) := by decide +kernel
theorem dL_build_288 : decode cL_build 288 = .ok (.ishr, 1) := by decide +kernel
theorem dL_build_289 : decode cL_build 289 = .ok (.bipush 20, 2) := by decide +kernel
theorem dL_build_291 : decode cL_build 291 = .ok (.invokestatic 15, 3) := by decide +kernel
theorem dL_build_294 : decode cL_build 294 = .ok (.iastore, 1) := by decide +kernel
theorem dL_build_295 : decode cL_build 295 = .ok (.aastore, 1) := by decide +kernel
theorem dL_build_296 : decode cL_build 296 = .ok (.aload_n 0, 1) := by decide +kernel
theorem dL_build_297 : decode cL_build 297 = .ok (.iload 4, 2) := by decide +kernel
theorem dL_build_299 : decode cL_build 299 = .ok (.iload 5, 2) := by decide +kernel
theorem dL_build_301 : decode cL_build 301 = .ok (.aload_n 2, 1) := by decide +kernel
theorem dL_build_302 : decode cL_build 302 = .ok (.getfield 51, 3) := by decide +kernel
theorem dL_build_305 : decode cL_build 305 = .ok (.iload 4, 2) := by decide +kernel
theorem dL_build_307 : decode cL_build 307 = .ok (.aaload, 1) := by decide +kernel
theorem dL_build_308 : decode cL_build 308 = .ok (.iload 5, 2) := by decide +kernel
theorem dL_build_310 : decode cL_build 310 = .ok (.aaload, 1) := by decide +kernel
theorem dL_build_311 : decode cL_build 311 = .ok (.iconst 0, 1) := by decide +kernel
theorem dL_build_312 : decode cL_build 312 = .ok (.iaload, 1) := by decide +kernel
theorem dL_build_313 : decode cL_build 313 = .ok (.aload_n 2, 1) := by decide +kernel
theorem dL_build_314 : decode cL_build 314 = .ok (.getfield 51, 3) := by decide +kernel
theorem dL_build_317 : decode cL_build 317 = .ok (.iload 4, 2) := by decide +kernel
theorem dL_build_319 : decode cL_build 319 = .ok (.aaload, 1) := by decide +kernel
theorem dL_build_320 : decode cL_build 320 = .ok (.iload 5, 2) := by decide +kernel
theorem dL_build_322 : decode cL_build 322 = .ok (.aaload, 1) := by decide +kernel
theorem dL_build_323 : decode cL_build 323 = .ok (.iconst 1, 1) := by decide +kernel
theorem dL_build_324 : decode cL_build 324 = .ok (.iaload, 1) := by decide +kernel
theorem dL_build_325 : decode cL_build 325 = .ok (.invokevirtual 55, 3) := by decide +kernel
theorem dL_build_328 : decode cL_build 328 = .ok (.aload_n 2, 1) := by decide +kernel
theorem dL_build_329 : decode cL_build 329 = .ok (.iload 4, 2) := by decide +kernel
theorem dL_build_331 : decode cL_build 331 = .ok (.invokevirtual 59, 3) := by decide +kernel
theorem dL_build_334 : decode cL_build 334 = .ok (.if_icmp .eq 5, 3) := by decide +kernel
theorem dL_build_337 : decode cL_build 337 = .ok (.aconst_null, 1) := by decide +kernel
theorem dL_build_338 : decode cL_build 338 = .ok (.areturn, 1) := by decide +kernel
theorem dL_build_339 : decode cL_build 339 = .ok (.iinc 5 1, 3) := by decide +kernel
theorem dL_build_342 : decode cL_build 342 = .ok (.goto (-117), 3) := by decide +kernel
theorem dL_build_345 : decode cL_build 345 = .ok (.iinc 4 1, 3) := by decide +kernel
theorem dL_build_348 : decode cL_build 348 = .ok (.goto (-132), 3) := by decide +kernel
theorem dL_build_351 : decode cL_build 351 = .ok (.aload_n 2, 1) := by decide +kernel
theorem dL_build_352 : decode cL_build 352 = .ok (.areturn, 1) := by decide +kernel
set_option maxRecDepth 20000 in
theorem ggL_law_X2_init : GoodIn wsL_law wsX2_init := goodIn_r _ [10, 11, 12, 13, 14, 15, 16, 17, 18, 19, 20, 21, 7, 22, 23, 24, 25, 26, 27, 28, 29, 30, 31, 32, 33, 34, 35, 36, 37, 38, 39, 482, 483, 484, 485, 486, 473, 474, 475, 476, 477, 478, 479, 480, 481, 487, 488] (by decide +kernel) (by decide +kernel)
set_option maxRecDepth 20000 in
theorem gL_law_X2_init : GoodIn wsL_law (wsX2_init) := ggL_law_X2_init
set_option maxRecDepth 20000 in
theorem ggL_law_L_build : GoodIn wsL_law wsL_build := goodIn_ca (goodIn_ca (goodIn_ca (goodIn_r _ [43, 44, 45, 46, 47, 7, 48, 49, 50, 51, 12, 13, 52, 53, 54, 55, 56, 57, 42, 58, 59, 60, 61, 62, 63, 64, 65, 66, 67, 68, 69, 2, 70, 17, 71, 72, 73, 74, 75, 76, 77, 78, 79, 16, 80, 81, 82, 83, 84, 85, 30, 31, 33, 86, 87, 88, 89, 90, 91, 92, 93, 94, 95, 96, 97, 98, 99, 100, 101, 102, 103, 104, 105, 106, 107, 108, 109, 110, 111, 112, 113, 114, 115, 116, 117, 118, 119, 120, 121, 122, 123, 124, 125, 126, 127, 128, 129, 34, 130, 131, 132, 133, 134, 135, 136, 137, 138, 139, 140, 141, 142, 143, 144, 145, 146, 147, 148, 149, 150, 151, 152, 153, 21, 154, 155, 156, 157, 158, 159, 160, 161, 162, 163, 164, 165, 20, 166, 167, 168, 169, 170, 39, 171, 172, 173, 174, 175, 489, 490, 491, 492, 493, 473, 474, 475, 476, 477, 478, 479, 480, 481, 482, 483, 484, 485, 486, 487, 488] (by decide +kernel) (by decide +kernel)) (goodIn_sub (fun _ h => List.mem_append_left _ (List.mem_append_left _ (List.mem_append_right _ h))) (by decide +kernel))) (goodIn_sub (fun _ h => List.mem_append_left _ (List.mem_append_right _ h)) (by decide +kernel))) (goodIn_sub (fun _ h => List.mem_append_right _ h) (by decide +kernel))
set_option maxRecDepth 20000 in
theorem gL_law_L_build : GoodIn wsL_law (va_wsS RL 85 yL_build wsL_build) := goodIn_app (goodIn_of _ (by decide +kernel)) ggL_law_L_build
set_option maxRecDepth 20000 in
theorem ggL_law_L_cell : GoodIn wsL_law wsL_cell := goodIn_r _ [58, 59] (by decide +kernel) (by decide +kernel)
set_option maxRecDepth 20000 in
theorem gL_law_L_cell : GoodIn wsL_law (va_wsS RL 80 yL_cell wsL_cell) := goodIn_app (goodIn_of _ (by decide +kernel)) ggL_law_L_cell
theorem gpL_act_h : GoodIn wsL_law [.codeWith yL_act cL_act 10 (some .boolean) [(155, 161, 164, 31), (232, 240, 243, 31), (309, 319, 322, 31), (497, 505, 508, 31), (554, 564, 567, 31)]] := goodIn_r _ [178] (by decide +kernel) (by decide +kernel)
theorem gpL_act_1_0 : GoodIn wsL_law ((wsL_act_r1.drop 0).take 12) := goodIn_r _ [179, 47, 7, 48, 60, 61, 42, 62, 63, 64, 65, 46] (by decide +kernel) (by decide +kernel)
theorem gpL_act_1_12 : GoodIn wsL_law ((wsL_act_r1.drop 12).take 12) := goodIn_r _ [66, 52, 67, 68, 69, 2, 70, 17, 71, 72, 73, 74] (by decide +kernel) (by decide +kernel)
theorem gpL_act_1 : GoodIn wsL_law wsL_act_r1 := goodIn_app gpL_act_1_0 (gpL_act_1_12)
theorem gpL_act_2_0 : GoodIn wsL_law ((wsL_act_r2.drop 0).take 12) := goodIn_r _ [75, 76, 77, 78, 79, 16, 80, 81, 82, 83, 84, 85] (by decide +kernel) (by decide +kernel)
theorem gpL_act_2_12 : GoodIn wsL_law ((wsL_act_r2.drop 12).take 12) := goodIn_r _ [30, 31, 33, 86, 87, 88, 89, 90, 91, 92, 93, 94] (by decide +kernel) (by decide +kernel)
theorem gpL_act_2 : GoodIn wsL_law wsL_act_r2 := goodIn_app gpL_act_2_0 (gpL_act_2_12)
theorem gpL_act_3_0 : GoodIn wsL_law ((wsL_act_r3.drop 0).take 12) := goodIn_r _ [95, 96, 97, 98, 99, 100, 101, 180, 181, 182, 183, 53] (by decide +kernel) (by decide +kernel)
theorem gpL_act_3_12 : GoodIn wsL_law ((wsL_act_r3.drop 12).take 12) := goodIn_r _ [102, 103, 104, 105, 106, 107, 108, 109, 110, 111, 112, 113] (by decide +kernel) (by decide +kernel)
theorem gpL_act_3 : GoodIn wsL_law wsL_act_r3 := goodIn_app gpL_act_3_0 (gpL_act_3_12)
theorem gpL_act_4_0 : GoodIn wsL_law ((wsL_act_r4.drop 0).take 12) := goodIn_r _ [114, 115, 116, 117, 118, 119, 120, 121, 122, 123, 124, 125] (by decide +kernel) (by decide +kernel)
theorem gpL_act_4_12 : GoodIn wsL_law ((wsL_act_r4.drop 12).take 12) := goodIn_r _ [126, 127, 128, 129, 34, 130, 131, 132, 133, 134, 135, 136] (by decide +kernel) (by decide +kernel)
theorem gpL_act_4 : GoodIn wsL_law wsL_act_r4 := goodIn_app gpL_act_4_0 (gpL_act_4_12)
theorem gpL_act_5_0 : GoodIn wsL_law ((wsL_act_r5.drop 0).take 12) := goodIn_r _ [137, 138, 139, 140, 141, 142, 143, 144, 145, 146, 147, 148] (by decide +kernel) (by decide +kernel)
theorem gpL_act_5_12 : GoodIn wsL_law ((wsL_act_r5.drop 12).take 12) := goodIn_r _ [149, 150, 151, 152, 153, 21, 154, 155, 156, 157, 158, 159] (by decide +kernel) (by decide +kernel)
theorem gpL_act_5 : GoodIn wsL_law wsL_act_r5 := goodIn_app gpL_act_5_0 (gpL_act_5_12)
theorem gpL_act_6_0 : GoodIn wsL_law ((wsL_act_r6.drop 0).take 12) := goodIn_r _ [160, 161, 162, 163, 164, 165, 20, 166, 167, 168, 169, 170] (by decide +kernel) (by decide +kernel)
theorem gpL_act_6_12 : GoodIn wsL_law ((wsL_act_r6.drop 12).take 12) := goodIn_r _ [39, 171, 172, 173, 174, 175, 54, 184, 185, 186, 187, 55] (by decide +kernel) (by decide +kernel)
theorem gpL_act_6 : GoodIn wsL_law wsL_act_r6 := goodIn_app gpL_act_6_0 (gpL_act_6_12)
theorem gpL_act_7_0 : GoodIn wsL_law ((wsL_act_r7.drop 0).take 12) := goodIn_r _ [188, 189, 190, 191, 192, 193, 194, 195, 196, 197, 198, 199] (by decide +kernel) (by decide +kernel)
theorem gpL_act_7_12 : GoodIn wsL_law ((wsL_act_r7.drop 12).take 12) := goodIn_r _ [23, 200, 201, 202, 203, 204, 38, 205, 206, 207, 208, 209] (by decide +kernel) (by decide +kernel)
theorem gpL_act_7 : GoodIn wsL_law wsL_act_r7 := goodIn_app gpL_act_7_0 (gpL_act_7_12)
theorem gpL_act_8_0 : GoodIn wsL_law ((wsL_act_r8.drop 0).take 12) := goodIn_r _ [210, 211, 212, 22, 213, 214, 215, 216, 217, 218, 219, 220] (by decide +kernel) (by decide +kernel)
theorem gpL_act_8_12 : GoodIn wsL_law ((wsL_act_r8.drop 12).take 12) := goodIn_r _ [221, 222, 223, 224, 225, 226, 227, 228, 4, 5, 6, 229] (by decide +kernel) (by decide +kernel)
theorem gpL_act_8 : GoodIn wsL_law wsL_act_r8 := goodIn_app gpL_act_8_0 (gpL_act_8_12)
theorem gpL_act_9_0 : GoodIn wsL_law ((wsL_act_r9.drop 0).take 12) := goodIn_r _ [230, 231, 232, 233, 234, 235, 236, 237, 238, 239, 240, 241] (by decide +kernel) (by decide +kernel)
theorem gpL_act_9_12 : GoodIn wsL_law ((wsL_act_r9.drop 12).take 12) := goodIn_r _ [242, 243, 244, 245, 246, 247, 248, 249, 250, 251, 252, 253] (by decide +kernel) (by decide +kernel)
theorem gpL_act_9 : GoodIn wsL_law wsL_act_r9 := goodIn_app gpL_act_9_0 (gpL_act_9_12)
theorem gpL_act_10_0 : GoodIn wsL_law ((wsL_act_r10.drop 0).take 12) := goodIn_r _ [24, 254, 255, 256, 257, 258, 259, 260, 261, 262, 263, 264] (by decide +kernel) (by decide +kernel)
theorem gpL_act_10_12 : GoodIn wsL_law ((wsL_act_r10.drop 12).take 12) := goodIn_r _ [265, 266, 267, 268, 269, 270, 271, 272, 273, 274, 275, 276] (by decide +kernel) (by decide +kernel)
theorem gpL_act_10 : GoodIn wsL_law wsL_act_r10 := goodIn_app gpL_act_10_0 (gpL_act_10_12)
theorem gpL_act_11_0 : GoodIn wsL_law ((wsL_act_r11.drop 0).take 12) := goodIn_r _ [277, 278, 279, 280, 281, 282, 283, 284, 285, 286, 287, 288] (by decide +kernel) (by decide +kernel)
theorem gpL_act_11_12 : GoodIn wsL_law ((wsL_act_r11.drop 12).take 5) := goodIn_r _ [289, 290, 291, 292, 293] (by decide +kernel) (by decide +kernel)
theorem gpL_act_11 : GoodIn wsL_law wsL_act_r11 := goodIn_app gpL_act_11_0 (gpL_act_11_12)
theorem gpL_act_wsX30 : GoodIn wsL_law wsX30 := goodIn_r _ [489, 490, 491, 492, 493] (by decide +kernel) (by decide +kernel)
theorem gpL_act_wsX20 : GoodIn wsL_law wsX20 := goodIn_r _ [473, 474, 475, 476, 477, 478, 479, 480, 481] (by decide +kernel) (by decide +kernel)
theorem gpL_act_wsX10 : GoodIn wsL_law wsX10 := goodIn_r _ [482, 483, 484, 485, 486] (by decide +kernel) (by decide +kernel)
theorem gpL_act_wsX00 : GoodIn wsL_law wsX00 := goodIn_r _ [487, 488] (by decide +kernel) (by decide +kernel)
theorem ggL_law_L_act : GoodIn wsL_law wsL_act := goodIn_app gpL_act_h (goodIn_app (goodIn_app (goodIn_app (goodIn_app (goodIn_app (goodIn_app (goodIn_app (goodIn_app gpL_act_1 (goodIn_app gpL_act_2 (goodIn_app gpL_act_3 (goodIn_app gpL_act_4 (goodIn_app gpL_act_5 (goodIn_app gpL_act_6 (goodIn_app gpL_act_7 (goodIn_app gpL_act_8 (goodIn_app gpL_act_9 (goodIn_app gpL_act_10 (gpL_act_11))))))))))) gpL_act_wsX30) gpL_act_wsX20) gpL_act_wsX10) gpL_act_wsX00) (goodIn_sub (fun _ h => List.mem_append_left _ (List.mem_append_left _ (List.mem_append_right _ h))) (by decide +kernel))) (goodIn_sub (fun _ h => List.mem_append_left _ (List.mem_append_right _ h)) (by decide +kernel))) (goodIn_sub (fun _ h => List.mem_append_right _ h) (by decide +kernel)))
set_option maxRecDepth 20000 in
theorem gL_law_L_act : GoodIn wsL_law (va_wsS RL 89 yL_act wsL_act) := goodIn_app (goodIn_of _ (by decide +kernel)) ggL_law_L_act
set_option maxRecDepth 20000 in
theorem ggL_law_X2_digest : GoodIn wsL_law wsX2_digest := goodIn_ca (goodIn_r _ [297, 298, 299, 17, 96, 300, 301, 302, 2, 303, 304, 305, 306, 307, 266, 267, 268, 16, 269, 81, 33, 308, 309, 310, 311, 200, 312, 313, 314, 315, 244, 4, 5, 6, 274, 275, 276, 277, 23, 21, 22, 213, 214, 215, 258, 259, 260, 20, 261, 39, 38, 171, 165, 166, 316, 317, 318, 319, 320, 321, 322, 323, 240, 241, 242, 243, 167, 168, 169, 170, 324, 325, 326, 327, 249, 328, 329, 330, 331, 332, 333, 334, 335, 154, 156, 157, 158, 159, 94, 95, 160, 161, 162, 163, 164, 336, 337, 338, 339, 155, 340, 341, 342, 343, 344, 345, 346, 347, 101, 90, 91, 92, 93, 348, 349, 350, 351, 352, 353, 354, 355, 356, 357, 358, 359, 360, 361, 362, 363, 364, 365, 366, 367, 368, 369, 370, 371, 372, 373, 374, 375, 376, 377, 250, 251, 252, 253, 24, 254, 255, 256, 257, 131, 132, 133, 378, 379, 380, 381, 126, 127, 128, 129, 34, 130, 134, 135, 136, 137, 138, 139, 140, 141, 30, 31, 382, 383, 384, 385, 473, 474, 475, 476, 477, 478, 479, 480, 481, 482, 483, 484, 485, 486, 487, 488] (by decide +kernel) (by decide +kernel)) (goodIn_sub (fun _ h => List.mem_append_left _ (List.mem_append_right _ h)) (by decide +kernel))
set_option maxRecDepth 20000 in
theorem gL_law_X2_digest : GoodIn wsL_law (wsV RL 93 RX2 yX2_digest wsX2_digest) := goodIn_app (goodIn_of _ (by decide +kernel)) ggL_law_X2_digest
set_option maxRecDepth 20000 in
theorem ggL_law_X2_people : GoodIn wsL_law wsX2_people := goodIn_r _ [303, 17, 96, 473, 474, 475, 476, 477, 478, 479, 480, 481, 482, 483, 484, 485, 486] (by decide +kernel) (by decide +kernel)
set_option maxRecDepth 20000 in
theorem gL_law_X2_people : GoodIn wsL_law (wsV RL 97 RX2 yX2_people wsX2_people) := goodIn_app (goodIn_of _ (by decide +kernel)) ggL_law_X2_people
set_option maxRecDepth 20000 in
theorem ggL_law_X2_isAlive : GoodIn wsL_law wsX2_isAlive := goodIn_ca (goodIn_r _ [347, 17, 101, 90, 91, 92, 2, 93, 94, 95, 96, 473, 474, 475, 476, 477, 478, 479, 480, 481, 482, 483, 484, 485, 486] (by decide +kernel) (by decide +kernel)) (goodIn_sub (fun _ h => List.mem_append_left _ (List.mem_append_right _ h)) (by decide +kernel))
set_option maxRecDepth 20000 in
theorem gL_law_X2_isAlive : GoodIn wsL_law (wsV RL 99 RX2 yX2_isAlive wsX2_isAlive) := goodIn_app (goodIn_of _ (by decide +kernel)) ggL_law_X2_isAlive
set_option maxRecDepth 20000 in
theorem ggL_law_X2_degreeOf : GoodIn wsL_law wsX2_degreeOf := goodIn_ca (goodIn_r _ [391, 17, 115, 90, 91, 92, 2, 93, 94, 95, 96, 126, 127, 128, 16, 129, 34, 81, 130, 131, 132, 133, 134, 135, 136, 137, 138, 139, 140, 141, 30, 31, 473, 474, 475, 476, 477, 478, 479, 480, 481, 482, 483, 484, 485, 486] (by decide +kernel) (by decide +kernel)) (goodIn_sub (fun _ h => List.mem_append_left _ (List.mem_append_right _ h)) (by decide +kernel))
set_option maxRecDepth 20000 in
theorem gL_law_X2_degreeOf : GoodIn wsL_law (wsV RL 102 RX2 yX2_degreeOf wsX2_degreeOf) := goodIn_app (goodIn_of _ (by decide +kernel)) ggL_law_X2_degreeOf
set_option maxRecDepth 20000 in
theorem ggL_law_X2_parentOf : GoodIn wsL_law wsX2_parentOf := goodIn_ca (goodIn_r _ [351, 17, 352, 90, 91, 92, 2, 93, 94, 95, 96, 473, 474, 475, 476, 477, 478, 479, 480, 481, 482, 483, 484, 485, 486] (by decide +kernel) (by decide +kernel)) (goodIn_sub (fun _ h => List.mem_append_left _ (List.mem_append_right _ h)) (by decide +kernel))
set_option maxRecDepth 20000 in
theorem gL_law_X2_parentOf : GoodIn wsL_law (wsV RL 105 RX2 yX2_parentOf wsX2_parentOf) := goodIn_app (goodIn_of _ (by decide +kernel)) ggL_law_X2_parentOf
set_option maxRecDepth 20000 in
theorem ggL_law_X2_marriedTo : GoodIn wsL_law wsX2_marriedTo := goodIn_ca (goodIn_r _ [356, 17, 357, 90, 91, 92, 2, 93, 94, 95, 96, 473, 474, 475, 476, 477, 478, 479, 480, 481, 482, 483, 484, 485, 486] (by decide +kernel) (by decide +kernel)) (goodIn_sub (fun _ h => List.mem_append_left _ (List.mem_append_right _ h)) (by decide +kernel))
set_option maxRecDepth 20000 in
theorem gL_law_X2_marriedTo : GoodIn wsL_law (wsV RL 108 RX2 yX2_marriedTo wsX2_marriedTo) := goodIn_app (goodIn_of _ (by decide +kernel)) ggL_law_X2_marriedTo
set_option maxRecDepth 20000 in
theorem ggL_law_X2_daysLeftFor : GoodIn wsL_law wsX2_daysLeftFor := goodIn_ca (goodIn_r _ [397, 90, 91, 92, 2, 93, 94, 95, 17, 96, 240, 241, 242, 243, 21, 22, 200, 23, 244, 4, 5, 6, 213, 214, 215, 167, 168, 169, 20, 170, 39, 171, 165, 166, 473, 474, 475, 476, 477, 478, 479, 480, 481, 482, 483, 484, 485, 486, 487, 488] (by decide +kernel) (by decide +kernel)) (goodIn_sub (fun _ h => List.mem_append_left _ (List.mem_append_right _ h)) (by decide +kernel))
set_option maxRecDepth 20000 in
theorem gL_law_X2_daysLeftFor : GoodIn wsL_law (wsV RL 111 RX2 yX2_daysLeftFor wsX2_daysLeftFor) := goodIn_app (goodIn_of _ (by decide +kernel)) ggL_law_X2_daysLeftFor
set_option maxRecDepth 20000 in
theorem ggL_law_X2_kinOf : GoodIn wsL_law wsX2_kinOf := goodIn_ca (goodIn_r _ [401, 17, 90, 91, 92, 2, 93, 94, 95, 96, 160, 161, 162, 163, 126, 127, 128, 16, 129, 34, 81, 130, 131, 132, 133, 134, 135, 136, 137, 138, 139, 140, 141, 30, 31, 382, 383, 384, 385, 33, 473, 474, 475, 476, 477, 478, 479, 480, 481, 482, 483, 484, 485, 486] (by decide +kernel) (by decide +kernel)) (goodIn_sub (fun _ h => List.mem_append_left _ (List.mem_append_right _ h)) (by decide +kernel))
set_option maxRecDepth 20000 in
theorem gL_law_X2_kinOf : GoodIn wsL_law (wsV RL 119 RX2 yX2_kinOf wsX2_kinOf) := goodIn_app (goodIn_of _ (by decide +kernel)) ggL_law_X2_kinOf
set_option maxRecDepth 20000 in
theorem ggL_law_X2_daysIn : GoodIn wsL_law wsX2_daysIn := goodIn_ca (goodIn_r _ [405, 94, 95, 90, 91, 92, 2, 93, 17, 96, 250, 251, 252, 253, 24, 22, 200, 23, 254, 255, 5, 256, 21, 244, 4, 6, 257, 131, 132, 133, 213, 214, 215, 240, 241, 242, 243, 167, 168, 169, 20, 170, 39, 171, 165, 166, 258, 259, 260, 261, 38, 406, 407, 408, 409, 473, 474, 475, 476, 477, 478, 479, 480, 481, 482, 483, 484, 485, 486, 487, 488] (by decide +kernel) (by decide +kernel)) (goodIn_sub (fun _ h => List.mem_append_left _ (List.mem_append_right _ h)) (by decide +kernel))
set_option maxRecDepth 20000 in
theorem gL_law_X2_daysIn : GoodIn wsL_law (wsV RL 122 RX2 yX2_daysIn wsX2_daysIn) := goodIn_app (goodIn_of _ (by decide +kernel)) ggL_law_X2_daysIn
set_option maxRecDepth 20000 in
theorem ggL_law_X2_daysLeft : GoodIn wsL_law wsX2_daysLeft := goodIn_ca (goodIn_r _ [373, 90, 91, 92, 2, 93, 94, 95, 17, 96, 320, 321, 322, 323, 244, 4, 5, 6, 240, 241, 242, 243, 21, 22, 200, 23, 213, 214, 215, 167, 168, 169, 20, 170, 39, 171, 165, 166, 473, 474, 475, 476, 477, 478, 479, 480, 481, 482, 483, 484, 485, 486, 487, 488] (by decide +kernel) (by decide +kernel)) (goodIn_sub (fun _ h => List.mem_append_left _ (List.mem_append_right _ h)) (by decide +kernel))
set_option maxRecDepth 20000 in
theorem gL_law_X2_daysLeft : GoodIn wsL_law (wsV RL 125 RX2 yX2_daysLeft wsX2_daysLeft) := goodIn_app (goodIn_of _ (by decide +kernel)) ggL_law_X2_daysLeft
set_option maxRecDepth 20000 in
theorem ggL_law_X2_mourningsOf : GoodIn wsL_law wsX2_mourningsOf := goodIn_ca (goodIn_r _ [365, 90, 91, 92, 2, 93, 94, 95, 17, 96, 366, 367, 368, 369, 240, 241, 242, 243, 21, 22, 200, 23, 244, 4, 5, 6, 213, 214, 215, 167, 168, 169, 20, 170, 39, 171, 165, 166, 473, 474, 475, 476, 477, 478, 479, 480, 481, 482, 483, 484, 485, 486, 487, 488] (by decide +kernel) (by decide +kernel)) (goodIn_sub (fun _ h => List.mem_append_left _ (List.mem_append_right _ h)) (by decide +kernel))
set_option maxRecDepth 20000 in
theorem gL_law_X2_mourningsOf : GoodIn wsL_law (wsV RL 128 RX2 yX2_mourningsOf wsX2_mourningsOf) := goodIn_app (goodIn_of _ (by decide +kernel)) ggL_law_X2_mourningsOf
set_option maxRecDepth 20000 in
theorem ggL_law_X2_colourOf : GoodIn wsL_law wsX2_colourOf := goodIn_ca (goodIn_r _ [361, 90, 91, 92, 2, 93, 94, 95, 17, 96, 274, 275, 276, 277, 200, 23, 21, 22, 244, 4, 5, 6, 213, 214, 215, 258, 259, 260, 20, 261, 39, 38, 171, 165, 166, 473, 474, 475, 476, 477, 478, 479, 480, 481, 482, 483, 484, 485, 486, 487, 488] (by decide +kernel) (by decide +kernel)) (goodIn_sub (fun _ h => List.mem_append_left _ (List.mem_append_right _ h)) (by decide +kernel))
set_option maxRecDepth 20000 in
theorem gL_law_X2_colourOf : GoodIn wsL_law (wsV RL 131 RX2 yX2_colourOf wsX2_colourOf) := goodIn_app (goodIn_of _ (by decide +kernel)) ggL_law_X2_colourOf
set_option maxRecDepth 20000 in
theorem ggL_law_X2_colourIn : GoodIn wsL_law wsX2_colourIn := goodIn_ca (goodIn_ca (goodIn_r _ [416, 120, 121, 90, 91, 92, 2, 93, 94, 95, 17, 96, 274, 275, 276, 277, 200, 23, 21, 22, 244, 4, 5, 6, 213, 214, 215, 258, 259, 260, 20, 261, 39, 38, 171, 165, 166, 473, 474, 475, 476, 477, 478, 479, 480, 481, 482, 483, 484, 485, 486, 487, 488] (by decide +kernel) (by decide +kernel)) (goodIn_sub (fun _ h => List.mem_append_right _ h) (by decide +kernel))) (goodIn_sub (fun _ h => List.mem_append_left _ (List.mem_append_right _ h)) (by decide +kernel))
set_option maxRecDepth 20000 in
theorem gL_law_X2_colourIn : GoodIn wsL_law (wsV RL 134 RX2 yX2_colourIn wsX2_colourIn) := goodIn_app (goodIn_of _ (by decide +kernel)) ggL_law_X2_colourIn
set_option maxRecDepth 20000 in
theorem ggL_law_X2_daysUntilLighter : GoodIn wsL_law wsX2_daysUntilLighter := goodIn_ca (goodIn_r _ [377, 90, 91, 92, 2, 93, 94, 95, 17, 96, 250, 251, 252, 253, 24, 22, 200, 23, 254, 255, 5, 256, 21, 244, 4, 6, 257, 131, 132, 133, 213, 214, 215, 240, 241, 242, 243, 167, 168, 169, 20, 170, 39, 171, 165, 166, 258, 259, 260, 261, 38, 378, 379, 380, 381, 473, 474, 475, 476, 477, 478, 479, 480, 481, 482, 483, 484, 485, 486, 487, 488] (by decide +kernel) (by decide +kernel)) (goodIn_sub (fun _ h => List.mem_append_left _ (List.mem_append_right _ h)) (by decide +kernel))
set_option maxRecDepth 20000 in
theorem gL_law_X2_daysUntilLighter : GoodIn wsL_law (wsV RL 137 RX2 yX2_daysUntilLighter wsX2_daysUntilLighter) := goodIn_app (goodIn_of _ (by decide +kernel)) ggL_law_X2_daysUntilLighter
set_option maxRecDepth 20000 in
theorem ggL_law_X2_wearing : GoodIn wsL_law wsX2_wearing := goodIn_ca (goodIn_r _ [421, 94, 95, 270, 271, 272, 2, 273, 17, 96, 101, 274, 275, 276, 277, 200, 23, 21, 22, 244, 4, 5, 6, 213, 214, 215, 258, 259, 260, 20, 261, 39, 38, 171, 165, 166, 473, 474, 475, 476, 477, 478, 479, 480, 481, 482, 483, 484, 485, 486, 487, 488] (by decide +kernel) (by decide +kernel)) (goodIn_sub (fun _ h => List.mem_append_left _ (List.mem_append_right _ h)) (by decide +kernel))
set_option maxRecDepth 20000 in
theorem gL_law_X2_wearing : GoodIn wsL_law (wsV RL 140 RX2 yX2_wearing wsX2_wearing) := goodIn_app (goodIn_of _ (by decide +kernel)) ggL_law_X2_wearing
set_option maxRecDepth 20000 in
theorem ggL_law_X2_strictest : GoodIn wsL_law wsX2_strictest := goodIn_r _ [315, 17, 96, 244, 4, 5, 6, 274, 275, 276, 2, 277, 200, 23, 21, 22, 213, 214, 215, 258, 259, 260, 20, 261, 39, 38, 171, 165, 166, 473, 474, 475, 476, 477, 478, 479, 480, 481, 482, 483, 484, 485, 486, 487, 488] (by decide +kernel) (by decide +kernel)
set_option maxRecDepth 20000 in
theorem gL_law_X2_strictest : GoodIn wsL_law (wsV RL 143 RX2 yX2_strictest wsX2_strictest) := goodIn_app (goodIn_of _ (by decide +kernel)) ggL_law_X2_strictest
set_option maxRecDepth 20000 in
theorem ggL_law_X2_longestMourner : GoodIn wsL_law wsX2_longestMourner := goodIn_r _ [319, 17, 96, 320, 321, 322, 2, 323, 244, 4, 5, 6, 240, 241, 242, 243, 21, 22, 200, 23, 213, 214, 215, 167, 168, 169, 20, 170, 39, 171, 165, 166, 473, 474, 475, 476, 477, 478, 479, 480, 481, 482, 483, 484, 485, 486, 487, 488] (by decide +kernel) (by decide +kernel)
set_option maxRecDepth 20000 in
theorem gL_law_X2_longestMourner : GoodIn wsL_law (wsV RL 146 RX2 yX2_longestMourner wsX2_longestMourner) := goodIn_app (goodIn_of _ (by decide +kernel)) ggL_law_X2_longestMourner
set_option maxRecDepth 20000 in
theorem ggL_law_X2_living : GoodIn wsL_law wsX2_living := goodIn_r _ [307, 17, 266, 267, 268, 16, 269, 81, 33, 473, 474, 475, 476, 477, 478, 479, 480, 481, 482, 483, 484, 485, 486] (by decide +kernel) (by decide +kernel)
set_option maxRecDepth 20000 in
theorem gL_law_X2_living : GoodIn wsL_law (wsV RL 149 RX2 yX2_living wsX2_living) := goodIn_app (goodIn_of _ (by decide +kernel)) ggL_law_X2_living
set_option maxRecDepth 20000 in
theorem ggL_law_X2_heaviestLoss : GoodIn wsL_law wsX2_heaviestLoss := goodIn_r _ [428, 26, 17, 96, 101, 257, 131, 132, 133, 429, 430, 431, 2, 432, 25, 115, 250, 251, 252, 253, 24, 22, 200, 23, 254, 255, 5, 256, 21, 244, 4, 6, 213, 214, 215, 240, 241, 242, 243, 167, 168, 169, 20, 170, 39, 171, 165, 166, 258, 259, 260, 261, 38, 433, 434, 435, 436, 126, 127, 128, 16, 129, 34, 81, 130, 134, 135, 136, 137, 138, 139, 140, 141, 30, 31, 473, 474, 475, 476, 477, 478, 479, 480, 481, 482, 483, 484, 485, 486, 487, 488] (by decide +kernel) (by decide +kernel)
set_option maxRecDepth 20000 in
theorem gL_law_X2_heaviestLoss : GoodIn wsL_law (wsV RL 152 RX2 yX2_heaviestLoss wsX2_heaviestLoss) := goodIn_app (goodIn_of _ (by decide +kernel)) ggL_law_X2_heaviestLoss
set_option maxRecDepth 20000 in
theorem ggL_law_L_below : GoodIn wsL_law wsL_below := goodIn_r _ [62, 63] (by decide +kernel) (by decide +kernel)
set_option maxRecDepth 20000 in
theorem gL_law_L_below : GoodIn wsL_law (va_wsS RL 15 yL_below wsL_below) := goodIn_app (goodIn_of _ (by decide +kernel)) ggL_law_L_below
set_option maxRecDepth 20000 in
theorem ggL_law_X2_wouldMourn : GoodIn wsL_law wsX2_wouldMourn := goodIn_ca (goodIn_ca (goodIn_r _ [440, 17, 96, 90, 91, 92, 2, 93, 94, 95, 97, 98, 99, 100, 75, 76, 101, 126, 127, 128, 16, 129, 34, 81, 130, 131, 132, 133, 134, 135, 136, 137, 138, 139, 140, 141, 30, 31, 220, 221, 222, 223, 21, 115, 167, 168, 169, 20, 170, 39, 171, 165, 166, 473, 474, 475, 476, 477, 478, 479, 480, 481, 482, 483, 484, 485, 486, 487, 488] (by decide +kernel) (by decide +kernel)) (goodIn_sub (fun _ h => List.mem_append_left _ (List.mem_append_right _ h)) (by decide +kernel))) (goodIn_sub (fun _ h => List.mem_append_left _ (List.mem_append_left _ (List.mem_append_right _ h))) (by decide +kernel))
set_option maxRecDepth 20000 in
theorem gL_law_X2_wouldMourn : GoodIn wsL_law (wsV RL 155 RX2 yX2_wouldMourn wsX2_wouldMourn) := goodIn_app (goodIn_of _ (by decide +kernel)) ggL_law_X2_wouldMourn
set_option maxRecDepth 20000 in
theorem ggL_law_X2_wouldWear : GoodIn wsL_law wsX2_wouldWear := goodIn_ca (goodIn_ca (goodIn_ca (goodIn_r _ [444, 17, 21, 115, 244, 4, 5, 6, 90, 91, 92, 2, 93, 94, 95, 96, 116, 117, 118, 119, 120, 121, 97, 98, 99, 100, 75, 76, 101, 126, 127, 128, 16, 129, 34, 81, 130, 131, 132, 133, 134, 135, 136, 137, 138, 139, 140, 141, 30, 31, 258, 259, 260, 20, 261, 39, 38, 171, 165, 166, 274, 275, 276, 277, 200, 23, 22, 213, 214, 215, 473, 474, 475, 476, 477, 478, 479, 480, 481, 482, 483, 484, 485, 486, 487, 488] (by decide +kernel) (by decide +kernel)) (goodIn_sub (fun _ h => List.mem_append_left _ (List.mem_append_right _ h)) (by decide +kernel))) (goodIn_sub (fun _ h => List.mem_append_right _ h) (by decide +kernel))) (goodIn_sub (fun _ h => List.mem_append_left _ (List.mem_append_left _ (List.mem_append_right _ h))) (by decide +kernel))
set_option maxRecDepth 20000 in
theorem gL_law_X2_wouldWear : GoodIn wsL_law (wsV RL 158 RX2 yX2_wouldWear wsX2_wouldWear) := goodIn_app (goodIn_of _ (by decide +kernel)) ggL_law_X2_wouldWear
set_option maxRecDepth 20000 in
theorem ggL_law_X2_die : GoodIn wsL_law wsX2_die := goodIn_ca (goodIn_ca (goodIn_r _ [199, 17, 101, 23, 200, 21, 90, 91, 92, 2, 93, 94, 95, 96, 97, 98, 99, 100, 75, 76, 201, 202, 203, 20, 204, 38, 205, 206, 207, 208, 39, 171, 165, 166, 209, 210, 211, 212, 22, 213, 214, 215, 216, 217, 218, 219, 115, 126, 127, 128, 16, 129, 34, 81, 130, 131, 132, 133, 134, 135, 136, 137, 138, 139, 140, 141, 30, 31, 220, 221, 222, 223, 167, 168, 169, 170, 473, 474, 475, 476, 477, 478, 479, 480, 481, 482, 483, 484, 485, 486, 487, 488] (by decide +kernel) (by decide +kernel)) (goodIn_sub (fun _ h => List.mem_append_left _ (List.mem_append_right _ h)) (by decide +kernel))) (goodIn_sub (fun _ h => List.mem_append_left _ (List.mem_append_left _ (List.mem_append_right _ h))) (by decide +kernel))
set_option maxRecDepth 20000 in
theorem gL_law_X2_die : GoodIn wsL_law (wsV RL 65 RX2 yX2_die wsX2_die) := goodIn_app (goodIn_of _ (by decide +kernel)) ggL_law_X2_die
set_option maxRecDepth 20000 in
theorem ggL_law_X3_die : GoodIn wsL_law wsX3_die := goodIn_r _ [187, 52, 55, 53, 188, 189, 190, 46, 191, 54, 7, 192, 193, 103, 104, 105, 106, 194, 173, 174, 175, 195, 65, 66, 489, 490, 491, 492, 493] (by decide +kernel) (by decide +kernel)
set_option maxRecDepth 20000 in
theorem gL_law_X3_die : GoodIn wsL_law (wsV RL 62 RX3 yX3_die wsX3_die) := goodIn_app (goodIn_of _ (by decide +kernel)) ggL_law_X3_die
set_option maxRecDepth 20000 in
theorem ggL_law_X2_daysWorn : GoodIn wsL_law wsX2_daysWorn := goodIn_r _ [327, 249, 473, 474, 475, 476, 477, 478, 479, 480, 481] (by decide +kernel) (by decide +kernel)
set_option maxRecDepth 20000 in
theorem gL_law_X2_daysWorn : GoodIn wsL_law (wsV RL 161 RX2 yX2_daysWorn wsX2_daysWorn) := goodIn_app (goodIn_of _ (by decide +kernel)) ggL_law_X2_daysWorn
set_option maxRecDepth 20000 in
theorem ggL_law_X2_pass : GoodIn wsL_law wsX2_pass := goodIn_ca (goodIn_r _ [248, 120, 121, 17, 96, 249, 200, 250, 251, 252, 2, 253, 24, 22, 23, 254, 255, 5, 256, 21, 244, 4, 6, 257, 131, 132, 133, 213, 214, 215, 240, 241, 242, 243, 167, 168, 169, 20, 170, 39, 171, 165, 166, 258, 259, 260, 261, 38, 262, 263, 264, 265, 266, 267, 268, 16, 269, 81, 33, 270, 271, 272, 273, 101, 274, 275, 276, 277, 473, 474, 475, 476, 477, 478, 479, 480, 481, 482, 483, 484, 485, 486, 487, 488] (by decide +kernel) (by decide +kernel)) (goodIn_sub (fun _ h => List.mem_append_right _ h) (by decide +kernel))
set_option maxRecDepth 20000 in
theorem gL_law_X2_pass : GoodIn wsL_law (wsV RL 75 RX2 yX2_pass wsX2_pass) := goodIn_app (goodIn_of _ (by decide +kernel)) ggL_law_X2_pass
set_option maxRecDepth 20000 in
theorem ggL_law_X3_pass : GoodIn wsL_law wsX3_pass := goodIn_r _ [281, 282, 192, 52, 55, 283, 284, 285, 46, 286, 53, 287, 288, 289, 290, 228, 4, 5, 6, 291, 292, 293, 229, 230, 231, 195, 65, 66, 489, 490, 491, 492, 493] (by decide +kernel) (by decide +kernel)
set_option maxRecDepth 20000 in
theorem gL_law_X3_pass : GoodIn wsL_law (wsV RL 78 RX3 yX3_pass wsX3_pass) := goodIn_app (goodIn_of _ (by decide +kernel)) ggL_law_X3_pass
theorem gpX3_isSame_h : GoodIn wsL_law [.code yX3_isSame cX3_isSame 14 (some .boolean)] := goodIn_r _ [449] (by decide +kernel) (by decide +kernel)
theorem gpX3_isSame_1_0 : GoodIn wsL_law ((wsX3_isSame_r1.drop 0).take 12) := goodIn_r _ [53, 7, 192, 54, 282, 193, 103, 104, 46, 105, 106, 450] (by decide +kernel) (by decide +kernel)
theorem gpX3_isSame_1_12 : GoodIn wsL_law ((wsX3_isSame_r1.drop 12).take 12) := goodIn_r _ [225, 226, 227, 55, 228, 4, 5, 6, 229, 230, 231, 451] (by decide +kernel) (by decide +kernel)
theorem gpX3_isSame_1 : GoodIn wsL_law wsX3_isSame_r1 := goodIn_app gpX3_isSame_1_0 (gpX3_isSame_1_12)
theorem gpX3_isSame_2_0 : GoodIn wsL_law ((wsX3_isSame_r2.drop 0).take 12) := goodIn_r _ [395, 396, 2, 397, 90, 91, 92, 93, 94, 95, 17, 96] (by decide +kernel) (by decide +kernel)
theorem gpX3_isSame_2_12 : GoodIn wsL_law ((wsX3_isSame_r2.drop 12).take 12) := goodIn_r _ [240, 241, 242, 243, 21, 22, 200, 23, 244, 213, 214, 215] (by decide +kernel) (by decide +kernel)
theorem gpX3_isSame_2 : GoodIn wsL_law wsX3_isSame_r2 := goodIn_app gpX3_isSame_2_0 (gpX3_isSame_2_12)
theorem gpX3_isSame_3_0 : GoodIn wsL_law ((wsX3_isSame_r3.drop 0).take 12) := goodIn_r _ [167, 168, 169, 20, 170, 39, 171, 165, 166, 452, 389, 390] (by decide +kernel) (by decide +kernel)
theorem gpX3_isSame_3_12 : GoodIn wsL_law ((wsX3_isSame_r3.drop 12).take 12) := goodIn_r _ [391, 115, 126, 127, 128, 16, 129, 34, 81, 130, 131, 132] (by decide +kernel) (by decide +kernel)
theorem gpX3_isSame_3 : GoodIn wsL_law wsX3_isSame_r3 := goodIn_app gpX3_isSame_3_0 (gpX3_isSame_3_12)
theorem gpX3_isSame_4_0 : GoodIn wsL_law ((wsX3_isSame_r4.drop 0).take 12) := goodIn_r _ [133, 134, 135, 136, 137, 138, 139, 140, 141, 30, 31, 453] (by decide +kernel) (by decide +kernel)
theorem gpX3_isSame_4_12 : GoodIn wsL_law ((wsX3_isSame_r4.drop 12).take 12) := goodIn_r _ [399, 400, 401, 160, 161, 162, 163, 382, 383, 384, 385, 33] (by decide +kernel) (by decide +kernel)
theorem gpX3_isSame_4 : GoodIn wsL_law wsX3_isSame_r4 := goodIn_app gpX3_isSame_4_0 (gpX3_isSame_4_12)
theorem gpX3_isSame_5_0 : GoodIn wsL_law ((wsX3_isSame_r5.drop 0).take 12) := goodIn_r _ [287, 288, 289, 290, 291, 292, 293, 454, 345, 346, 347, 101] (by decide +kernel) (by decide +kernel)
theorem gpX3_isSame_5_12 : GoodIn wsL_law ((wsX3_isSame_r5.drop 12).take 12) := goodIn_r _ [455, 349, 350, 351, 352, 456, 354, 355, 356, 357, 457, 359] (by decide +kernel) (by decide +kernel)
theorem gpX3_isSame_5 : GoodIn wsL_law wsX3_isSame_r5 := goodIn_app gpX3_isSame_5_0 (gpX3_isSame_5_12)
theorem gpX3_isSame_6_0 : GoodIn wsL_law ((wsX3_isSame_r6.drop 0).take 12) := goodIn_r _ [360, 361, 274, 275, 276, 277, 258, 259, 260, 261, 38, 458] (by decide +kernel) (by decide +kernel)
theorem gpX3_isSame_6_12 : GoodIn wsL_law ((wsX3_isSame_r6.drop 12).take 12) := goodIn_r _ [363, 364, 365, 366, 367, 368, 369, 459, 371, 372, 373, 320] (by decide +kernel) (by decide +kernel)
theorem gpX3_isSame_6 : GoodIn wsL_law wsX3_isSame_r6 := goodIn_app gpX3_isSame_6_0 (gpX3_isSame_6_12)
theorem gpX3_isSame_7_0 : GoodIn wsL_law ((wsX3_isSame_r7.drop 0).take 12) := goodIn_r _ [321, 322, 323, 460, 419, 420, 421, 270, 271, 272, 273, 461] (by decide +kernel) (by decide +kernel)
theorem gpX3_isSame_7_12 : GoodIn wsL_law ((wsX3_isSame_r7.drop 12).take 12) := goodIn_r _ [333, 334, 335, 154, 156, 157, 158, 159, 164, 462, 337, 338] (by decide +kernel) (by decide +kernel)
theorem gpX3_isSame_7 : GoodIn wsL_law wsX3_isSame_r7 := goodIn_app gpX3_isSame_7_0 (gpX3_isSame_7_12)
theorem gpX3_isSame_8_0 : GoodIn wsL_law ((wsX3_isSame_r8.drop 0).take 12) := goodIn_r _ [339, 155, 463, 301, 302, 303, 464, 305, 306, 307, 266, 267] (by decide +kernel) (by decide +kernel)
theorem gpX3_isSame_8_12 : GoodIn wsL_law ((wsX3_isSame_r8.drop 12).take 12) := goodIn_r _ [268, 269, 465, 309, 310, 311, 466, 313, 314, 315, 467, 317] (by decide +kernel) (by decide +kernel)
theorem gpX3_isSame_8 : GoodIn wsL_law wsX3_isSame_r8 := goodIn_app gpX3_isSame_8_0 (gpX3_isSame_8_12)
theorem gpX3_isSame_9_0 : GoodIn wsL_law ((wsX3_isSame_r9.drop 0).take 11) := goodIn_r _ [318, 319, 468, 325, 326, 327, 249, 469, 470, 471, 472] (by decide +kernel) (by decide +kernel)
theorem gpX3_isSame_9 : GoodIn wsL_law wsX3_isSame_r9 := gpX3_isSame_9_0
theorem gpX3_isSame_wsX30 : GoodIn wsL_law wsX30 := goodIn_r _ [489, 490, 491, 492, 493] (by decide +kernel) (by decide +kernel)
theorem gpX3_isSame_wsX20 : GoodIn wsL_law wsX20 := goodIn_r _ [473, 474, 475, 476, 477, 478, 479, 480, 481] (by decide +kernel) (by decide +kernel)
theorem gpX3_isSame_wsX10 : GoodIn wsL_law wsX10 := goodIn_r _ [482, 483, 484, 485, 486] (by decide +kernel) (by decide +kernel)
theorem gpX3_isSame_wsX00 : GoodIn wsL_law wsX00 := goodIn_r _ [487, 488] (by decide +kernel) (by decide +kernel)
theorem ggL_law_X3_isSame : GoodIn wsL_law wsX3_isSame := goodIn_app gpX3_isSame_h (goodIn_app (goodIn_app (goodIn_app (goodIn_app (goodIn_app (goodIn_app gpX3_isSame_1 (goodIn_app gpX3_isSame_2 (goodIn_app gpX3_isSame_3 (goodIn_app gpX3_isSame_4 (goodIn_app gpX3_isSame_5 (goodIn_app gpX3_isSame_6 (goodIn_app gpX3_isSame_7 (goodIn_app gpX3_isSame_8 (gpX3_isSame_9))))))))) gpX3_isSame_wsX30) gpX3_isSame_wsX20) gpX3_isSame_wsX10) gpX3_isSame_wsX00) (goodIn_sub (fun _ h => List.mem_append_left _ (List.mem_append_right _ h)) (by decide +kernel)))
set_option maxRecDepth 20000 in
theorem gL_law_X3_isSame : GoodIn wsL_law (wsV RL 164 RX3 yX3_isSame wsX3_isSame) := goodIn_app (goodIn_of _ (by decide +kernel)) ggL_law_X3_isSame
theorem dL_law_0 : decode cL_law 0 = .ok (.new 26, 3) := by decide +kernel
theorem dL_law_3 : decode cL_law 3 = .ok (.dup, 1) := by decide +kernel
theorem dL_law_4 : decode cL_law 4 = .ok (.invokespecial 84, 3) := by decide +kernel
theorem dL_law_7 : decode cL_law 7 = .ok (.astore_n 1, 1) := by decide +kernel
theorem dL_law_8 : decode cL_law 8 = .ok (.aload_n 1, 1) := by decide +kernel
theorem dL_law_9 : decode cL_law 9 = .ok (.aload_n 0, 1) := by decide +kernel
theorem dL_law_10 : decode cL_law 10 = .ok (.invokestatic 85, 3) := by decide +kernel
theorem dL_law_13 : decode cL_law 13 = .ok (.astore_n 2, 1) := by decide +kernel
theorem dL_law_14 : decode cL_law 14 = .ok (.aload_n 2, 1) := by decide +kernel
theorem dL_law_15 : decode cL_law 15 = .ok (.ifnonnull 5, 3) := by decide +kernel
theorem dL_law_18 : decode cL_law 18 = .ok (.iconst 0, 1) := by decide +kernel
theorem dL_law_19 : decode cL_law 19 = .ok (.ireturn, 1) := by decide +kernel
theorem dL_law_20 : decode cL_law 20 = .ok (.iconst 0, 1) := by decide +kernel
theorem dL_law_21 : decode cL_law 21 = .ok (.istore_n 3, 1) := by decide +kernel
theorem dL_law_22 : decode cL_law 22 = .ok (.iload_n 3, 1) := by decide +kernel
theorem dL_law_23 : decode cL_law 23 = .ok (.bipush 10, 2) := by decide +kernel
theorem dL_law_25 : decode cL_law 25 = .ok (.if_icmp .ge 1193, 3) := by decide +kernel
theorem dL_law_28 : decode cL_law 28 = .ok (.aload_n 0, 1) := by decide +kernel
theorem dL_law_29 : decode cL_law 29 = .ok (.iload_n 3, 1) := by decide +kernel
theorem dL_law_30 : decode cL_law 30 = .ok (.invokestatic 80, 3) := by decide +kernel
theorem dL_law_33 : decode cL_law 33 = .ok (.iconst 2, 1) := by decide +kernel
theorem dL_law_34 : decode cL_law 34 = .ok (.ishr, 1) := by decide +kernel
theorem dL_law_35 : decode cL_law 35 = .ok (.bipush 53, 2) := by decide +kernel
theorem dL_law_37 : decode cL_law 37 = .ok (.iload_n 3, 1) := by decide +kernel
theorem dL_law_38 : decode cL_law 38 = .ok (.imul, 1) := by decide +kernel
theorem dL_law_39 : decode cL_law 39 = .ok (.iadd, 1) := by decide +kernel
theorem dL_law_40 : decode cL_law 40 = .ok (.istore 4, 2) := by decide +kernel
theorem dL_law_42 : decode cL_law 42 = .ok (.iconst 0, 1) := by decide +kernel
theorem dL_law_43 : decode cL_law 43 = .ok (.istore 5, 2) := by decide +kernel
theorem dL_law_45 : decode cL_law 45 = .ok (.iload 5, 2) := by decide +kernel
theorem dL_law_47 : decode cL_law 47 = .ok (.iconst 4, 1) := by decide +kernel
theorem dL_law_48 : decode cL_law 48 = .ok (.if_icmp .ge 32, 3) := by decide +kernel
theorem dL_law_51 : decode cL_law 51 = .ok (.aload_n 1, 1) := by decide +kernel
theorem dL_law_52 : decode cL_law 52 = .ok (.aload_n 2, 1) := by decide +kernel
theorem dL_law_53 : decode cL_law 53 = .ok (.iload 4, 2) := by decide +kernel
theorem dL_law_55 : decode cL_law 55 = .ok (.iconst 3, 1) := by decide +kernel
theorem dL_law_56 : decode cL_law 56 = .ok (.iload 5, 2) := by decide +kernel
theorem dL_law_58 : decode cL_law 58 = .ok (.imul, 1) := by decide +kernel
theorem dL_law_59 : decode cL_law 59 = .ok (.ishr, 1) := by decide +kernel
theorem dL_law_60 : decode cL_law 60 = .ok (.bipush 29, 2) := by decide +kernel
theorem dL_law_62 : decode cL_law 62 = .ok (.iload 5, 2) := by decide +kernel
theorem dL_law_64 : decode cL_law 64 = .ok (.imul, 1) := by decide +kernel
theorem dL_law_65 : decode cL_law 65 = .ok (.iadd, 1) := by decide +kernel
theorem dL_law_66 : decode cL_law 66 = .ok (.invokestatic 89, 3) := by decide +kernel
theorem dL_law_69 : decode cL_law 69 = .ok (.ifCond .ne 5, 3) := by decide +kernel
theorem dL_law_72 : decode cL_law 72 = .ok (.iconst 0, 1) := by decide +kernel
theorem dL_law_73 : decode cL_law 73 = .ok (.ireturn, 1) := by decide +kernel
theorem dL_law_74 : decode cL_law 74 = .ok (.iinc 5 1, 3) := by decide +kernel
theorem dL_law_77 : decode cL_law 77 = .ok (.goto (-32), 3) := by decide +kernel
theorem dL_law_80 : decode cL_law 80 = .ok (.aload_n 1, 1) := by decide +kernel
theorem dL_law_81 : decode cL_law 81 = .ok (.invokevirtual 93, 3) := by decide +kernel
theorem dL_law_84 : decode cL_law 84 = .ok (.lstore 5, 2) := by decide +kernel
theorem dL_law_86 : decode cL_law 86 = .ok (.aload_n 1, 1) := by decide +kernel
theorem dL_law_87 : decode cL_law 87 = .ok (.invokevirtual 97, 3) := by decide +kernel
theorem dL_law_90 : decode cL_law 90 = .ok (.istore 7, 2) := by decide +kernel
theorem dL_law_92 : decode cL_law 92 = .ok (.iconst 0, 1) := by decide +kernel
theorem dL_law_93 : decode cL_law 93 = .ok (.istore 8, 2) := by decide +kernel
theorem dL_law_95 : decode cL_law 95 = .ok (.iconst 0, 1) := by decide +kernel
theorem dL_law_96 : decode cL_law 96 = .ok (.istore 9, 2) := by decide +kernel
theorem dL_law_98 : decode cL_law 98 = .ok (.iconst 0, 1) := by decide +kernel
theorem dL_law_99 : decode cL_law 99 = .ok (.istore 10, 2) := by decide +kernel
theorem dL_law_101 : decode cL_law 101 = .ok (.iload 10, 2) := by decide +kernel
theorem dL_law_103 : decode cL_law 103 = .ok (.iload 7, 2) := by decide +kernel
theorem dL_law_105 : decode cL_law 105 = .ok (.if_icmp .ge 528, 3) := by decide +kernel
theorem dL_law_108 : decode cL_law 108 = .ok (.iload 8, 2) := by decide +kernel
theorem dL_law_110 : decode cL_law 110 = .ok (.aload_n 1, 1) := by decide +kernel
theorem dL_law_111 : decode cL_law 111 = .ok (.iload 10, 2) := by decide +kernel
theorem dL_law_113 : decode cL_law 113 = .ok (.invokevirtual 99, 3) := by decide +kernel
theorem dL_law_116 : decode cL_law 116 = .ok (.ifCond .eq 7, 3) := by decide +kernel
theorem dL_law_119 : decode cL_law 119 = .ok (.iconst 1, 1) := by decide +kernel
theorem dL_law_120 : decode cL_law 120 = .ok (.goto 4, 3) := by decide +kernel
theorem dL_law_123 : decode cL_law 123 = .ok (.iconst 0, 1) := by decide +kernel
theorem dL_law_124 : decode cL_law 124 = .ok (.iadd, 1) := by decide +kernel
theorem dL_law_125 : decode cL_law 125 = .ok (.istore 8, 2) := by decide +kernel
theorem dL_law_127 : decode cL_law 127 = .ok (.iconst 0, 1) := by decide +kernel
theorem dL_law_128 : decode cL_law 128 = .ok (.istore 11, 2) := by decide +kernel
theorem dL_law_130 : decode cL_law 130 = .ok (.iconst 0, 1) := by decide +kernel
theorem dL_law_131 : decode cL_law 131 = .ok (.istore 12, 2) := by decide +kernel
theorem dL_law_133 : decode cL_law 133 = .ok (.iconst 0, 1) := by decide +kernel
theorem dL_law_134 : decode cL_law 134 = .ok (.istore 13, 2) := by decide +kernel
theorem dL_law_136 : decode cL_law 136 = .ok (.iconst 0, 1) := by decide +kernel
theorem dL_law_137 : decode cL_law 137 = .ok (.istore 14, 2) := by decide +kernel
theorem dL_law_139 : decode cL_law 139 = .ok (.iload 14, 2) := by decide +kernel
theorem dL_law_141 : decode cL_law 141 = .ok (.iload 7, 2) := by decide +kernel
theorem dL_law_143 : decode cL_law 143 = .ok (.if_icmp .ge 209, 3) := by decide +kernel
theorem dL_law_146 : decode cL_law 146 = .ok (.aload_n 1, 1) := by decide +kernel
theorem dL_law_147 : decode cL_law 147 = .ok (.iload 10, 2) := by decide +kernel
theorem dL_law_149 : decode cL_law 149 = .ok (.iload 14, 2) := by decide +kernel
theorem dL_law_151 : decode cL_law 151 = .ok (.invokevirtual 102, 3) := by decide +kernel
theorem dL_law_154 : decode cL_law 154 = .ok (.istore 15, 2) := by decide +kernel
theorem dL_law_156 : decode cL_law 156 = .ok (.aload_n 1, 1) := by decide +kernel
theorem dL_law_157 : decode cL_law 157 = .ok (.iload 10, 2) := by decide +kernel
theorem dL_law_159 : decode cL_law 159 = .ok (.invokevirtual 105, 3) := by decide +kernel
theorem dL_law_162 : decode cL_law 162 = .ok (.iload 14, 2) := by decide +kernel
theorem dL_law_164 : decode cL_law 164 = .ok (.if_icmp .eq 25, 3) := by decide +kernel
theorem dL_law_167 : decode cL_law 167 = .ok (.aload_n 1, 1) := by decide +kernel
theorem dL_law_168 : decode cL_law 168 = .ok (.iload 14, 2) := by decide +kernel
theorem dL_law_170 : decode cL_law 170 = .ok (.invokevirtual 105, 3) := by decide +kernel
theorem dL_law_173 : decode cL_law 173 = .ok (.iload 10, 2) := by decide +kernel
theorem dL_law_175 : decode cL_law 175 = .ok (.if_icmp .eq 14, 3) := by decide +kernel
theorem dL_law_178 : decode cL_law 178 = .ok (.aload_n 1, 1) := by decide +kernel
theorem dL_law_179 : decode cL_law 179 = .ok (.iload 10, 2) := by decide +kernel
theorem dL_law_181 : decode cL_law 181 = .ok (.invokevirtual 108, 3) := by decide +kernel
theorem dL_law_184 : decode cL_law 184 = .ok (.iload 14, 2) := by decide +kernel
theorem dL_law_186 : decode cL_law 186 = .ok (.if_icmp .ne 7, 3) := by decide +kernel
theorem dL_law_189 : decode cL_law 189 = .ok (.iconst 1, 1) := by decide +kernel
theorem dL_law_190 : decode cL_law 190 = .ok (.goto 4, 3) := by decide +kernel
theorem dL_law_193 : decode cL_law 193 = .ok (.iconst 0, 1) := by decide +kernel
theorem dL_law_194 : decode cL_law 194 = .ok (.istore 16, 2) := by decide +kernel
theorem dL_law_196 : decode cL_law 196 = .ok (.iload 15, 2) := by decide +kernel
theorem dL_law_198 : decode cL_law 198 = .ok (.aload_n 1, 1) := by decide +kernel
theorem dL_law_199 : decode cL_law 199 = .ok (.iload 14, 2) := by decide +kernel
theorem dL_law_201 : decode cL_law 201 = .ok (.iload 10, 2) := by decide +kernel
theorem dL_law_203 : decode cL_law 203 = .ok (.invokevirtual 102, 3) := by decide +kernel
theorem dL_law_206 : decode cL_law 206 = .ok (.if_icmp .ne 42, 3) := by decide +kernel
theorem dL_law_209 : decode cL_law 209 = .ok (.iload 15, 2) := by decide +kernel
theorem dL_law_211 : decode cL_law 211 = .ok (.ifCond .lt 37, 3) := by decide +kernel
theorem dL_law_214 : decode cL_law 214 = .ok (.iload 15, 2) := by decide +kernel
theorem dL_law_216 : decode cL_law 216 = .ok (.iconst 4, 1) := by decide +kernel
theorem dL_law_217 : decode cL_law 217 = .ok (.if_icmp .gt 31, 3) := by decide +kernel
theorem dL_law_220 : decode cL_law 220 = .ok (.iload 15, 2) := by decide +kernel
theorem dL_law_222 : decode cL_law 222 = .ok (.iconst 1, 1) := by decide +kernel
theorem dL_law_223 : decode cL_law 223 = .ok (.if_icmp .ne 7, 3) := by decide +kernel
theorem dL_law_226 : decode cL_law 226 = .ok (.iconst 1, 1) := by decide +kernel
theorem dL_law_227 : decode cL_law 227 = .ok (.goto 4, 3) := by decide +kernel
theorem dL_law_230 : decode cL_law 230 = .ok (.iconst 0, 1) := by decide +kernel
theorem dL_law_231 : decode cL_law 231 = .ok (.iload 16, 2) := by decide +kernel
theorem dL_law_233 : decode cL_law 233 = .ok (.if_icmp .ne 15, 3) := by decide +kernel
theorem dL_law_236 : decode cL_law 236 = .ok (.iload 14, 2) := by decide +kernel
theorem dL_law_238 : decode cL_law 238 = .ok (.iload 10, 2) := by decide +kernel
theorem dL_law_240 : decode cL_law 240 = .ok (.if_icmp .ne 10, 3) := by decide +kernel
theorem dL_law_243 : decode cL_law 243 = .ok (.iload 15, 2) := by decide +kernel
theorem dL_law_245 : decode cL_law 245 = .ok (.ifCond .eq 5, 3) := by decide +kernel
theorem dL_law_248 : decode cL_law 248 = .ok (.iconst 0, 1) := by decide +kernel
theorem dL_law_249 : decode cL_law 249 = .ok (.ireturn, 1) := by decide +kernel
theorem dL_law_250 : decode cL_law 250 = .ok (.iload 11, 2) := by decide +kernel
theorem dL_law_252 : decode cL_law 252 = .ok (.iload 15, 2) := by decide +kernel
theorem dL_law_254 : decode cL_law 254 = .ok (.ifCond .le 16, 3) := by decide +kernel
theorem dL_law_257 : decode cL_law 257 = .ok (.aload_n 1, 1) := by decide +kernel
theorem dL_law_258 : decode cL_law 258 = .ok (.iload 14, 2) := by decide +kernel
theorem dL_law_260 : decode cL_law 260 = .ok (.invokevirtual 99, 3) := by decide +kernel
theorem dL_law_263 : decode cL_law 263 = .ok (.ifCond .eq 7, 3) := by decide +kernel
theorem dL_law_266 : decode cL_law 266 = .ok (.iconst 1, 1) := by decide +kernel
theorem dL_law_267 : decode cL_law 267 = .ok (.goto 4, 3) := by decide +kernel
theorem dL_law_270 : decode cL_law 270 = .ok (.iconst 0, 1) := by decide +kernel
theorem dL_law_271 : decode cL_law 271 = .ok (.iadd, 1) := by decide +kernel
theorem dL_law_272 : decode cL_law 272 = .ok (.istore 11, 2) := by decide +kernel
theorem dL_law_274 : decode cL_law 274 = .ok (.aload_n 1, 1) := by decide +kernel
theorem dL_law_275 : decode cL_law 275 = .ok (.iload 10, 2) := by decide +kernel
theorem dL_law_277 : decode cL_law 277 = .ok (.iload 14, 2) := by decide +kernel
theorem dL_law_279 : decode cL_law 279 = .ok (.invokevirtual 111, 3) := by decide +kernel
theorem dL_law_282 : decode cL_law 282 = .ok (.istore 17, 2) := by decide +kernel
theorem dL_law_284 : decode cL_law 284 = .ok (.iload 17, 2) := by decide +kernel
theorem dL_law_286 : decode cL_law 286 = .ok (.ifCond .lt 34, 3) := by decide +kernel
theorem dL_law_289 : decode cL_law 289 = .ok (.iload 17, 2) := by decide +kernel
theorem dL_law_291 : decode cL_law 291 = .ok (.sipush 180, 3) := by decide +kernel
theorem dL_law_294 : decode cL_law 294 = .ok (.if_icmp .gt 26, 3) := by decide +kernel
theorem dL_law_297 : decode cL_law 297 = .ok (.iload 17, 2) := by decide +kernel
theorem dL_law_299 : decode cL_law 299 = .ok (.ifCond .le 23, 3) := by decide +kernel
theorem dL_law_302 : decode cL_law 302 = .ok (.aload_n 1, 1) := by decide +kernel
theorem dL_law_303 : decode cL_law 303 = .ok (.iload 10, 2) := by decide +kernel
theorem dL_law_305 : decode cL_law 305 = .ok (.invokevirtual 99, 3) := by decide +kernel
theorem dL_law_308 : decode cL_law 308 = .ok (.ifCond .eq 12, 3) := by decide +kernel
theorem dL_law_311 : decode cL_law 311 = .ok (.aload_n 1, 1) := by decide +kernel
theorem dL_law_312 : decode cL_law 312 = .ok (.iload 14, 2) := by decide +kernel
theorem dL_law_314 : decode cL_law 314 = .ok (.invokevirtual 99, 3) := by decide +kernel
theorem dL_law_317 : decode cL_law 317 = .ok (.ifCond .eq 5, 3) := by decide +kernel
theorem dL_law_320 : decode cL_law 320 = .ok (.iconst 0, 1) := by decide +kernel
theorem dL_law_321 : decode cL_law 321 = .ok (.ireturn, 1) := by decide +kernel
theorem dL_law_322 : decode cL_law 322 = .ok (.iload 12, 2) := by decide +kernel
theorem dL_law_324 : decode cL_law 324 = .ok (.iload 17, 2) := by decide +kernel
theorem dL_law_326 : decode cL_law 326 = .ok (.invokestatic 114, 3) := by decide +kernel
theorem dL_law_329 : decode cL_law 329 = .ok (.istore 12, 2) := by decide +kernel
theorem dL_law_331 : decode cL_law 331 = .ok (.iload 13, 2) := by decide +kernel
theorem dL_law_333 : decode cL_law 333 = .ok (.iload 17, 2) := by decide +kernel
theorem dL_law_335 : decode cL_law 335 = .ok (.ifCond .le 7, 3) := by decide +kernel
theorem dL_law_338 : decode cL_law 338 = .ok (.iconst 1, 1) := by decide +kernel
theorem dL_law_339 : decode cL_law 339 = .ok (.goto 4, 3) := by decide +kernel
theorem dL_law_342 : decode cL_law 342 = .ok (.iconst 0, 1) := by decide +kernel
theorem dL_law_343 : decode cL_law 343 = .ok (.iadd, 1) := by decide +kernel
theorem dL_law_344 : decode cL_law 344 = .ok (.istore 13, 2) := by decide +kernel
theorem dL_law_346 : decode cL_law 346 = .ok (.iinc 14 1, 3) := by decide +kernel
theorem dL_law_349 : decode cL_law 349 = .ok (.goto (-210), 3) := by decide +kernel
theorem dL_law_352 : decode cL_law 352 = .ok (.iconst 0, 1) := by decide +kernel
theorem dL_law_353 : decode cL_law 353 = .ok (.istore 14, 2) := by decide +kernel
theorem dL_law_355 : decode cL_law 355 = .ok (.iconst 1, 1) := by decide +kernel
theorem dL_law_356 : decode cL_law 356 = .ok (.istore 15, 2) := by decide +kernel
theorem dL_law_358 : decode cL_law 358 = .ok (.iload 15, 2) := by decide +kernel
theorem dL_law_360 : decode cL_law 360 = .ok (.iconst 5, 1) := by decide +kernel
theorem dL_law_361 : decode cL_law 361 = .ok (.if_icmp .ge 22, 3) := by decide +kernel
theorem dL_law_364 : decode cL_law 364 = .ok (.iload 14, 2) := by decide +kernel
theorem dL_law_366 : decode cL_law 366 = .ok (.aload_n 1, 1) := by decide +kernel
theorem dL_law_367 : decode cL_law 367 = .ok (.iload 10, 2) := by decide +kernel
theorem dL_law_369 : decode cL_law 369 = .ok (.iload 15, 2) := by decide +kernel
theorem dL_law_371 : decode cL_law 371 = .ok (.invokevirtual 119, 3) := by decide +kernel
theorem dL_law_374 : decode cL_law 374 = .ok (.iadd, 1) := by decide +kernel
theorem dL_law_375 : decode cL_law 375 = .ok (.istore 14, 2) := by decide +kernel
theorem dL_law_377 : decode cL_law 377 = .ok (.iinc 15 1, 3) := by decide +kernel
theorem dL_law_380 : decode cL_law 380 = .ok (.goto (-22), 3) := by decide +kernel
theorem dL_law_383 : decode cL_law 383 = .ok (.iconst 0, 1) := by decide +kernel
theorem dL_law_384 : decode cL_law 384 = .ok (.istore 15, 2) := by decide +kernel
theorem dL_law_386 : decode cL_law 386 = .ok (.iconst 1, 1) := by decide +kernel
theorem dL_law_387 : decode cL_law 387 = .ok (.istore 16, 2) := by decide +kernel
theorem dL_law_389 : decode cL_law 389 = .ok (.iload 16, 2) := by decide +kernel
theorem dL_law_391 : decode cL_law 391 = .ok (.bipush 6, 2) := by decide +kernel
theorem dL_law_393 : decode cL_law 393 = .ok (.if_icmp .ge 22, 3) := by decide +kernel
theorem dL_law_396 : decode cL_law 396 = .ok (.iload 15, 2) := by decide +kernel
theorem dL_law_398 : decode cL_law 398 = .ok (.aload_n 1, 1) := by decide +kernel
theorem dL_law_399 : decode cL_law 399 = .ok (.iload 10, 2) := by decide +kernel
theorem dL_law_401 : decode cL_law 401 = .ok (.iload 16, 2) := by decide +kernel
theorem dL_law_403 : decode cL_law 403 = .ok (.invokevirtual 122, 3) := by decide +kernel
theorem dL_law_406 : decode cL_law 406 = .ok (.iadd, 1) := by decide +kernel
theorem dL_law_407 : decode cL_law 407 = .ok (.istore 15, 2) := by decide +kernel
theorem dL_law_409 : decode cL_law 409 = .ok (.iinc 16 1, 3) := by decide +kernel
theorem dL_law_412 : decode cL_law 412 = .ok (.goto (-23), 3) := by decide +kernel
theorem dL_law_415 : decode cL_law 415 = .ok (.aload_n 1, 1) := by decide +kernel
theorem dL_law_416 : decode cL_law 416 = .ok (.iload 10, 2) := by decide +kernel
theorem dL_law_418 : decode cL_law 418 = .ok (.invokevirtual 108, 3) := by decide +kernel
theorem dL_law_421 : decode cL_law 421 = .ok (.istore 16, 2) := by decide +kernel
theorem dL_law_423 : decode cL_law 423 = .ok (.iload 14, 2) := by decide +kernel
theorem dL_law_425 : decode cL_law 425 = .ok (.iload 11, 2) := by decide +kernel
theorem dL_law_427 : decode cL_law 427 = .ok (.if_icmp .ne 93, 3) := by decide +kernel
theorem dL_law_430 : decode cL_law 430 = .ok (.iload 12, 2) := by decide +kernel
theorem dL_law_432 : decode cL_law 432 = .ok (.aload_n 1, 1) := by decide +kernel
theorem dL_law_433 : decode cL_law 433 = .ok (.iload 10, 2) := by decide +kernel
theorem dL_law_435 : decode cL_law 435 = .ok (.invokevirtual 125, 3) := by decide +kernel
theorem dL_law_438 : decode cL_law 438 = .ok (.if_icmp .ne 82, 3) := by decide +kernel
theorem dL_law_441 : decode cL_law 441 = .ok (.iload 13, 2) := by decide +kernel
theorem dL_law_443 : decode cL_law 443 = .ok (.aload_n 1, 1) := by decide +kernel
theorem dL_law_444 : decode cL_law 444 = .ok (.iload 10, 2) := by decide +kernel
theorem dL_law_446 : decode cL_law 446 = .ok (.invokevirtual 128, 3) := by decide +kernel
theorem dL_law_449 : decode cL_law 449 = .ok (.if_icmp .ne 71, 3) := by decide +kernel
theorem dL_law_452 : decode cL_law 452 = .ok (.iload 15, 2) := by decide +kernel
theorem dL_law_454 : decode cL_law 454 = .ok (.iload 12, 2) := by decide +kernel
theorem dL_law_456 : decode cL_law 456 = .ok (.if_icmp .gt 64, 3) := by decide +kernel
theorem dL_law_459 : decode cL_law 459 = .ok (.aload_n 1, 1) := by decide +kernel
theorem dL_law_460 : decode cL_law 460 = .ok (.iload 10, 2) := by decide +kernel
theorem dL_law_462 : decode cL_law 462 = .ok (.invokevirtual 131, 3) := by decide +kernel
theorem dL_law_465 : decode cL_law 465 = .ok (.aload_n 1, 1) := by decide +kernel
theorem dL_law_466 : decode cL_law 466 = .ok (.iload 10, 2) := by decide +kernel
theorem dL_law_468 : decode cL_law 468 = .ok (.iconst 0, 1) := by decide +kernel
theorem dL_law_469 : decode cL_law 469 = .ok (.invokevirtual 134, 3) := by decide +kernel
theorem dL_law_472 : decode cL_law 472 = .ok (.if_icmp .ne 48, 3) := by decide +kernel
theorem dL_law_475 : decode cL_law 475 = .ok (.aload_n 1, 1) := by decide +kernel
theorem dL_law_476 : decode cL_law 476 = .ok (.iload 10, 2) := by decide +kernel
theorem dL_law_478 : decode cL_law 478 = .ok (.iload 12, 2) := by decide +kernel
theorem dL_law_480 : decode cL_law 480 = .ok (.invokevirtual 134, 3) := by decide +kernel
theorem dL_law_483 : decode cL_law 483 = .ok (.ifCond .ne 37, 3) := by decide +kernel
theorem dL_law_486 : decode cL_law 486 = .ok (.iload 16, 2) := by decide +kernel
theorem dL_law_488 : decode cL_law 488 = .ok (.iload 10, 2) := by decide +kernel
theorem dL_law_490 : decode cL_law 490 = .ok (.if_icmp .eq 30, 3) := by decide +kernel
theorem dL_law_493 : decode cL_law 493 = .ok (.iload 16, 2) := by decide +kernel
theorem dL_law_495 : decode cL_law 495 = .ok (.ifCond .lt 14, 3) := by decide +kernel
theorem dL_law_498 : decode cL_law 498 = .ok (.aload_n 1, 1) := by decide +kernel
theorem dL_law_499 : decode cL_law 499 = .ok (.iload 16, 2) := by decide +kernel
theorem dL_law_501 : decode cL_law 501 = .ok (.invokevirtual 108, 3) := by decide +kernel
theorem dL_law_504 : decode cL_law 504 = .ok (.iload 10, 2) := by decide +kernel
theorem dL_law_506 : decode cL_law 506 = .ok (.if_icmp .ne 14, 3) := by decide +kernel
theorem dL_law_509 : decode cL_law 509 = .ok (.aload_n 1, 1) := by decide +kernel
theorem dL_law_510 : decode cL_law 510 = .ok (.iload 10, 2) := by decide +kernel
theorem dL_law_512 : decode cL_law 512 = .ok (.invokevirtual 105, 3) := by decide +kernel
theorem dL_law_515 : decode cL_law 515 = .ok (.iload 10, 2) := by decide +kernel
theorem dL_law_517 : decode cL_law 517 = .ok (.if_icmp .lt 5, 3) := by decide +kernel
theorem dL_law_520 : decode cL_law 520 = .ok (.iconst 0, 1) := by decide +kernel
theorem dL_law_521 : decode cL_law 521 = .ok (.ireturn, 1) := by decide +kernel
theorem dL_law_522 : decode cL_law 522 = .ok (.iload 9, 2) := by decide +kernel
theorem dL_law_524 : decode cL_law 524 = .ok (.iload 12, 2) := by decide +kernel
theorem dL_law_526 : decode cL_law 526 = .ok (.invokestatic 114, 3) := by decide +kernel
theorem dL_law_529 : decode cL_law 529 = .ok (.istore 9, 2) := by decide +kernel
theorem dL_law_531 : decode cL_law 531 = .ok (.aload_n 1, 1) := by decide +kernel
theorem dL_law_532 : decode cL_law 532 = .ok (.iload 10, 2) := by decide +kernel
theorem dL_law_534 : decode cL_law 534 = .ok (.invokevirtual 131, 3) := by decide +kernel
theorem dL_law_537 : decode cL_law 537 = .ok (.istore 17, 2) := by decide +kernel
theorem dL_law_539 : decode cL_law 539 = .ok (.aload_n 1, 1) := by decide +kernel
theorem dL_law_540 : decode cL_law 540 = .ok (.iload 10, 2) := by decide +kernel
theorem dL_law_542 : decode cL_law 542 = .ok (.invokevirtual 137, 3) := by decide +kernel
theorem dL_law_545 : decode cL_law 545 = .ok (.istore 18, 2) := by decide +kernel
theorem dL_law_547 : decode cL_law 547 = .ok (.iload 17, 2) := by decide +kernel
theorem dL_law_549 : decode cL_law 549 = .ok (.ifCond .ne 7, 3) := by decide +kernel
theorem dL_law_552 : decode cL_law 552 = .ok (.iconst 1, 1) := by decide +kernel
theorem dL_law_553 : decode cL_law 553 = .ok (.goto 4, 3) := by decide +kernel
theorem dL_law_556 : decode cL_law 556 = .ok (.iconst 0, 1) := by decide +kernel
theorem dL_law_557 : decode cL_law 557 = .ok (.iload 18, 2) := by decide +kernel
theorem dL_law_559 : decode cL_law 559 = .ok (.ifCond .ge 7, 3) := by decide +kernel
theorem dL_law_562 : decode cL_law 562 = .ok (.iconst 1, 1) := by decide +kernel
theorem dL_law_563 : decode cL_law 563 = .ok (.goto 4, 3) := by decide +kernel
theorem dL_law_566 : decode cL_law 566 = .ok (.iconst 0, 1) := by decide +kernel
theorem dL_law_567 : decode cL_law 567 = .ok (.if_icmp .ne 27, 3) := by decide +kernel
theorem dL_law_570 : decode cL_law 570 = .ok (.iload 17, 2) := by decide +kernel
theorem dL_law_572 : decode cL_law 572 = .ok (.ifCond .le 24, 3) := by decide +kernel
theorem dL_law_575 : decode cL_law 575 = .ok (.iload 18, 2) := by decide +kernel
theorem dL_law_577 : decode cL_law 577 = .ok (.iconst 1, 1) := by decide +kernel
theorem dL_law_578 : decode cL_law 578 = .ok (.if_icmp .lt 16, 3) := by decide +kernel
theorem dL_law_581 : decode cL_law 581 = .ok (.aload_n 1, 1) := by decide +kernel
theorem dL_law_582 : decode cL_law 582 = .ok (.iload 10, 2) := by decide +kernel
theorem dL_law_584 : decode cL_law 584 = .ok (.iload 18, 2) := by decide +kernel
theorem dL_law_586 : decode cL_law 586 = .ok (.invokevirtual 134, 3) := by decide +kernel
theorem dL_law_589 : decode cL_law 589 = .ok (.iload 17, 2) := by decide +kernel
theorem dL_law_591 : decode cL_law 591 = .ok (.if_icmp .lt 5, 3) := by decide +kernel
theorem dL_law_594 : decode cL_law 594 = .ok (.iconst 0, 1) := by decide +kernel
theorem dL_law_595 : decode cL_law 595 = .ok (.ireturn, 1) := by decide +kernel
theorem dL_law_596 : decode cL_law 596 = .ok (.iconst 1, 1) := by decide +kernel
theorem dL_law_597 : decode cL_law 597 = .ok (.istore 19, 2) := by decide +kernel
theorem dL_law_599 : decode cL_law 599 = .ok (.iload 19, 2) := by decide +kernel
theorem dL_law_601 : decode cL_law 601 = .ok (.iload 18, 2) := by decide +kernel
theorem dL_law_603 : decode cL_law 603 = .ok (.if_icmp .ge 24, 3) := by decide +kernel
theorem dL_law_606 : decode cL_law 606 = .ok (.aload_n 1, 1) := by decide +kernel
theorem dL_law_607 : decode cL_law 607 = .ok (.iload 10, 2) := by decide +kernel
theorem dL_law_609 : decode cL_law 609 = .ok (.iload 19, 2) := by decide +kernel
theorem dL_law_611 : decode cL_law 611 = .ok (.invokevirtual 134, 3) := by decide +kernel
theorem dL_law_614 : decode cL_law 614 = .ok (.iload 17, 2) := by decide +kernel
theorem dL_law_616 : decode cL_law 616 = .ok (.if_icmp .ge 5, 3) := by decide +kernel
theorem dL_law_619 : decode cL_law 619 = .ok (.iconst 0, 1) := by decide +kernel
theorem dL_law_620 : decode cL_law 620 = .ok (.ireturn, 1) := by decide +kernel
theorem dL_law_621 : decode cL_law 621 = .ok (.iinc 19 1, 3) := by decide +kernel
theorem dL_law_624 : decode cL_law 624 = .ok (.goto (-25), 3) := by decide +kernel
theorem dL_law_627 : decode cL_law 627 = .ok (.iinc 10 1, 3) := by decide +kernel
theorem dL_law_630 : decode cL_law 630 = .ok (.goto (-529), 3) := by decide +kernel
theorem dL_law_633 : decode cL_law 633 = .ok (.iconst 0, 1) := by decide +kernel
