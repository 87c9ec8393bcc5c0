theorem dL_build_14 : decode cL_build 14 = .ok (.bipush 14, 2) := by decide +kernel
theorem dL_build_16 : decode cL_build 16 = .ok (.invokestatic 15, 3) := by decide +kernel
theorem dL_build_19 : decode cL_build 19 = .ok (.iadd, 1) := by decide +kernel
theorem dL_build_20 : decode cL_build 20 = .ok (.istore_n 3, 1) := by decide +kernel
theorem dL_build_21 : decode cL_build 21 = .ok (.iconst 0, 1) := by decide +kernel
theorem dL_build_22 : decode cL_build 22 = .ok (.istore 4, 2) := by decide +kernel
theorem dL_build_24 : decode cL_build 24 = .ok (.iload 4, 2) := by decide +kernel
theorem dL_build_26 : decode cL_build 26 = .ok (.iload_n 3, 1) := by decide +kernel
theorem dL_build_27 : decode cL_build 27 = .ok (.if_icmp .ge 186, 3) := by decide +kernel
theorem dL_build_30 : decode cL_build 30 = .ok (.aload_n 1, 1) := by decide +kernel
theorem dL_build_31 : decode cL_build 31 = .ok (.iconst 1, 1) := by decide +kernel
theorem dL_build_32 : decode cL_build 32 = .ok (.iload 4, 2) := by decide +kernel
theorem dL_build_34 : decode cL_build 34 = .ok (.iadd, 1) := by decide +kernel
theorem dL_build_35 : decode cL_build 35 = .ok (.invokestatic 80, 3) := by decide +kernel
theorem dL_build_38 : decode cL_build 38 = .ok (.istore 5, 2) := by decide +kernel
theorem dL_build_40 : decode cL_build 40 = .ok (.iload 4, 2) := by decide +kernel
theorem dL_build_42 : decode cL_build 42 = .ok (.ifCond .eq 12, 3) := by decide +kernel
theorem dL_build_45 : decode cL_build 45 = .ok (.iload 5, 2) := by decide +kernel
theorem dL_build_47 : decode cL_build 47 = .ok (.iconst 3, 1) := by decide +kernel
theorem dL_build_48 : decode cL_build 48 = .ok (.invokestatic 15, 3) := by decide +kernel
theorem dL_build_51 : decode cL_build 51 = .ok (.ifCond .ne 7, 3) := by decide +kernel
theorem dL_build_54 : decode cL_build 54 = .ok (.iconst (-1), 1) := by decide +kernel
theorem dL_build_55 : decode cL_build 55 = .ok (.goto 12, 3) := by decide +kernel
theorem dL_build_58 : decode cL_build 58 = .ok (.iload 5, 2) := by decide +kernel
theorem dL_build_60 : decode cL_build 60 = .ok (.iconst 3, 1) := by decide +kernel
theorem dL_build_61 : decode cL_build 61 = .ok (.ishr, 1) := by decide +kernel
theorem dL_build_62 : decode cL_build 62 = .ok (.iload 4, 2) := by decide +kernel
theorem dL_build_64 : decode cL_build 64 = .ok (.invokestatic 15, 3) := by decide +kernel
theorem dL_build_67 : decode cL_build 67 = .ok (.istore 6, 2) := by decide +kernel
theorem dL_build_69 : decode cL_build 69 = .ok (.aload_n 2, 1) := by decide +kernel
theorem dL_build_70 : decode cL_build 70 = .ok (.aload_n 2, 1) := by decide +kernel
theorem dL_build_71 : decode cL_build 71 = .ok (.getfield 9, 3) := by decide +kernel
theorem dL_build_74 : decode cL_build 74 = .ok (.iconst 3, 1) := by decide +kernel
theorem dL_build_75 : decode cL_build 75 = .ok (.newarray .int, 2) := by decide +kernel
theorem dL_build_77 : decode cL_build 77 = .ok (.dup, 1) := by decide +kernel
theorem dL_build_78 : decode cL_build 78 = .ok (.iconst 0, 1) := by decide +kernel
theorem dL_build_79 : decode cL_build 79 = .ok (.iload 6, 2) := by decide +kernel
theorem dL_build_81 : decode cL_build 81 = .ok (.iastore, 1) := by decide +kernel
theorem dL_build_82 : decode cL_build 82 = .ok (.dup, 1) := by decide +kernel
theorem dL_build_83 : decode cL_build 83 = .ok (.iconst 1, 1) := by decide +kernel
theorem dL_build_84 : decode cL_build 84 = .ok (.iconst (-1), 1) := by decide +kernel
theorem dL_build_85 : decode cL_build 85 = .ok (.iastore, 1) := by decide +kernel
theorem dL_build_86 : decode cL_build 86 = .ok (.dup, 1) := by decide +kernel
theorem dL_build_87 : decode cL_build 87 = .ok (.iconst 2, 1) := by decide +kernel
theorem dL_build_88 : decode cL_build 88 = .ok (.iconst 1, 1) := by decide +kernel
theorem dL_build_89 : decode cL_build 89 = .ok (.iastore, 1) := by decide +kernel
theorem dL_build_90 : decode cL_build 90 = .ok (.invokestatic 21, 3) := by decide +kernel
theorem dL_build_93 : decode cL_build 93 = .ok (.putfield 9, 3) := by decide +kernel
theorem dL_build_96 : decode cL_build 96 = .ok (.iload 6, 2) := by decide +kernel
theorem dL_build_98 : decode cL_build 98 = .ok (.ifCond .ge 10, 3) := by decide +kernel
theorem dL_build_101 : decode cL_build 101 = .ok (.aload_n 0, 1) := by decide +kernel
theorem dL_build_102 : decode cL_build 102 = .ok (.invokevirtual 25, 3) := by decide +kernel
theorem dL_build_105 : decode cL_build 105 = .ok (.goto 9, 3) := by decide +kernel
theorem dL_build_108 : decode cL_build 108 = .ok (.aload_n 0, 1) := by decide +kernel
theorem dL_build_109 : decode cL_build 109 = .ok (.iload 6, 2) := by decide +kernel
theorem dL_build_111 : decode cL_build 111 = .ok (.invokevirtual 33, 3) := by decide +kernel
theorem dL_build_114 : decode cL_build 114 = .ok (.iload 4, 2) := by decide +kernel
theorem dL_build_116 : decode cL_build 116 = .ok (.if_icmp .eq 5, 3) := by decide +kernel
theorem dL_build_119 : decode cL_build 119 = .ok (.aconst_null, 1) := by decide +kernel
theorem dL_build_120 : decode cL_build 120 = .ok (.areturn, 1) := by decide +kernel
theorem dL_build_121 : decode cL_build 121 = .ok (.iload 4, 2) := by decide +kernel
theorem dL_build_123 : decode cL_build 123 = .ok (.ifCond .ne 7, 3) := by decide +kernel
theorem dL_build_126 : decode cL_build 126 = .ok (.iconst 0, 1) := by decide +kernel
theorem dL_build_127 : decode cL_build 127 = .ok (.goto 12, 3) := by decide +kernel
theorem dL_build_130 : decode cL_build 130 = .ok (.iload 5, 2) := by decide +kernel
theorem dL_build_132 : decode cL_build 132 = .ok (.iconst 5, 1) := by decide +kernel
theorem dL_build_133 : decode cL_build 133 = .ok (.ishr, 1) := by decide +kernel
theorem dL_build_134 : decode cL_build 134 = .ok (.iload 4, 2) := by decide +kernel
theorem dL_build_136 : decode cL_build 136 = .ok (.invokestatic 15, 3) := by decide +kernel
theorem dL_build_139 : decode cL_build 139 = .ok (.istore 7, 2) := by decide +kernel
theorem dL_build_141 : decode cL_build 141 = .ok (.iload 5, 2) := by decide +kernel
theorem dL_build_143 : decode cL_build 143 = .ok (.iconst 2, 1) := by decide +kernel
theorem dL_build_144 : decode cL_build 144 = .ok (.ishr, 1) := by decide +kernel
theorem dL_build_145 : decode cL_build 145 = .ok (.iconst 3, 1) := by decide +kernel
theorem dL_build_146 : decode cL_build 146 = .ok (.invokestatic 15, 3) := by decide +kernel
theorem dL_build_149 : decode cL_build 149 = .ok (.ifCond .gt 58, 3) := by decide +kernel
theorem dL_build_152 : decode cL_build 152 = .ok (.iload 4, 2) := by decide +kernel
theorem dL_build_154 : decode cL_build 154 = .ok (.ifCond .eq 53, 3) := by decide +kernel
theorem dL_build_157 : decode cL_build 157 = .ok (.aload_n 2, 1) := by decide +kernel
theorem dL_build_158 : decode cL_build 158 = .ok (.getfield 9, 3) := by decide +kernel
theorem dL_build_161 : decode cL_build 161 = .ok (.iload 7, 2) := by decide +kernel
theorem dL_build_163 : decode cL_build 163 = .ok (.aaload, 1) := by decide +kernel
theorem dL_build_164 : decode cL_build 164 = .ok (.iconst 1, 1) := by decide +kernel
theorem dL_build_165 : decode cL_build 165 = .ok (.iaload, 1) := by decide +kernel
theorem dL_build_166 : decode cL_build 166 = .ok (.ifCond .lt 6, 3) := by decide +kernel
theorem dL_build_169 : decode cL_build 169 = .ok (.goto 38, 3) := by decide +kernel
theorem dL_build_172 : decode cL_build 172 = .ok (.aload_n 2, 1) := by decide +kernel
theorem dL_build_173 : decode cL_build 173 = .ok (.invokevirtual 41, 3) := by decide +kernel
theorem dL_build_176 : decode cL_build 176 = .ok (.iload 4, 2) := by decide +kernel
theorem dL_build_178 : decode cL_build 178 = .ok (.aaload, 1) := by decide +kernel
theorem dL_build_179 : decode cL_build 179 = .ok (.iload 7, 2) := by decide +kernel
theorem dL_build_181 : decode cL_build 181 = .ok (.iaload, 1) := by decide +kernel
theorem dL_build_182 : decode cL_build 182 = .ok (.istore 8, 2) := by decide +kernel
theorem dL_build_184 : decode cL_build 184 = .ok (.aload_n 2, 1) := by decide +kernel
theorem dL_build_185 : decode cL_build 185 = .ok (.iload 4, 2) := by decide +kernel
theorem dL_build_187 : decode cL_build 187 = .ok (.iload 7, 2) := by decide +kernel
theorem dL_build_189 : decode cL_build 189 = .ok (.invokevirtual 45, 3) := by decide +kernel
theorem dL_build_192 : decode cL_build 192 = .ok (.aload_n 0, 1) := by decide +kernel
theorem dL_build_193 : decode cL_build 193 = .ok (.iload 4, 2) := by decide +kernel
theorem dL_build_195 : decode cL_build 195 = .ok (.iload 7, 2) := by decide +kernel
theorem dL_build_197 : decode cL_build 197 = .ok (.invokevirtual 49, 3) := by decide +kernel
theorem dL_build_200 : decode cL_build 200 = .ok (.iload 8, 2) := by decide +kernel
theorem dL_build_202 : decode cL_build 202 = .ok (.if_icmp .eq 5, 3) := by decide +kernel
theorem dL_build_205 : decode cL_build 205 = .ok (.aconst_null, 1) := by decide +kernel
theorem dL_build_206 : decode cL_build 206 = .ok (.areturn, 1) := by decide +kernel
theorem dL_build_207 : decode cL_build 207 = .ok (.iinc 4 1, 3) := by decide +kernel
theorem dL_build_210 : decode cL_build 210 = .ok (.goto (-186), 3) := by decide +kernel
theorem dL_build_213 : decode cL_build 213 = .ok (.iconst 1, 1) := by decide +kernel
theorem dL_build_214 : decode cL_build 214 = .ok (.istore 4, 2) := by decide +kernel
theorem dL_build_216 : decode cL_build 216 = .ok (.iload 4, 2) := by decide +kernel
theorem dL_build_218 : decode cL_build 218 = .ok (.iconst 5, 1) := by decide +kernel
theorem dL_build_219 : decode cL_build 219 = .ok (.if_icmp .ge 132, 3) := by decide +kernel
theorem dL_build_222 : decode cL_build 222 = .ok (.iconst 0, 1) := by decide +kernel
theorem dL_build_223 : decode cL_build 223 = .ok (.istore 5, 2) := by decide +kernel
theorem dL_build_225 : decode cL_build 225 = .ok (.iload 5, 2) := by decide +kernel
theorem dL_build_227 : decode cL_build 227 = .ok (.iconst 3, 1) := by decide +kernel
theorem dL_build_228 : decode cL_build 228 = .ok (.if_icmp .ge 117, 3) := by decide +kernel
theorem dL_build_231 : decode cL_build 231 = .ok (.aload_n 1, 1) := by decide +kernel
theorem dL_build_232 : decode cL_build 232 = .ok (.iload 4, 2) := by decide +kernel
theorem dL_build_234 : decode cL_build 234 = .ok (.iconst 4, 1) := by decide +kernel
theorem dL_build_235 : decode cL_build 235 = .ok (.iload 5, 2) := by decide +kernel
theorem dL_build_237 : decode cL_build 237 = .ok (.imul, 1) := by decide +kernel
theorem dL_build_238 : decode cL_build 238 = .ok (.iadd, 1) := by decide +kernel
theorem dL_build_239 : decode cL_build 239 = .ok (.invokestatic 80, 3) := by decide +kernel
theorem dL_build_242 : decode cL_build 242 = .ok (.iconst 4, 1) := by decide +kernel
theorem dL_build_243 : decode cL_build 243 = .ok (.ishr, 1) := by decide +kernel
theorem dL_build_244 : decode cL_build 244 = .ok (.istore 6, 2) := by decide +kernel
theorem dL_build_246 : decode cL_build 246 = .ok (.aload_n 2, 1) := by decide +kernel
theorem dL_build_247 : decode cL_build 247 = .ok (.getfield 51, 3) := by decide +kernel
theorem dL_build_250 : decode cL_build 250 = .ok (.iload 4, 2) := by decide +kernel
theorem dL_build_252 : decode cL_build 252 = .ok (.aaload, 1) := by decide +kernel
theorem dL_build_253 : decode cL_build 253 = .ok (.iload 5, 2) := by decide +kernel
theorem dL_build_255 : decode cL_build 255 = .ok (.iconst 2, 1) := by decide +kernel
theorem dL_build_256 : decode cL_build 256 = .ok (.newarray .int, 2) := by decide +kernel
theorem dL_build_258 : decode cL_build 258 = .ok (.dup, 1) := by decide +kernel
theorem dL_build_259 : decode cL_build 259 = .ok (.iconst 0, 1) := by decide +kernel
theorem dL_build_260 : decode cL_build 260 = .ok (.iload 6, 2) := by decide +kernel
theorem dL_build_262 : decode cL_build 262 = .ok (.bipush 6, 2) := by decide +kernel
theorem dL_build_264 : decode cL_build 264 = .ok (.invokestatic 15, 3) := by decide +kernel
theorem dL_build_267 : decode cL_build 267 = .ok (.iastore, 1) := by decide +kernel
theorem dL_build_268 : decode cL_build 268 = .ok (.dup, 1) := by decide +kernel
theorem dL_build_269 : decode cL_build 269 = .ok (.iconst 1, 1) := by decide +kernel
theorem dL_build_270 : decode cL_build 270 = .ok (.iload 6, 2) := by decide +kernel
theorem dL_build_272 : decode cL_build 272 = .ok (.iconst 3, 1) := by decide +kernel
theorem dL_build_273 : decode cL_build 273 = .ok (.ishr, 1) := by decide +kernel
theorem dL_build_274 : decode cL_build 274 = .ok (.iconst 4, 1) := by decide +kernel
theorem dL_build_275 : decode cL_build 275 = .ok (.invokestatic 15, 3) := by decide +kernel
theorem dL_build_278 : decode cL_build 278 = .ok (.ifCond .ne 7, 3) := by decide +kernel
theorem dL_build_281 : decode cL_build 281 = .ok (.iconst 0, 1) := by decide +kernel
theorem dL_build_282 : decode cL_build 282 = .ok (.goto 12, 3) := by decide +kernel
theorem dL_build_285 : decode cL_build 285 = .ok (.iload 6, 2) := by decide +kernel
theorem dL_build_287 : decode cL_build 287 = .ok (.iconst 4, 1) := by decide +kernel
theorem dL_build_288 : decode cL_build 288 = .ok (.ishr, 1) := by decide +kernel
theorem dL_build_289 : decode cL_build 289 = .ok (.bipush 20, 2) := by decide +kernel
theorem dL_build_291 : decode cL_build 291 = .ok (.invokestatic 15, 3) := by decide +kernel
theorem dL_build_294 : decode cL_build 294 = .ok (.iastore, 1) := by decide +kernel
theorem dL_build_295 : decode cL_build 295 = .ok (.aastore, 1) := by decide +kernel
theorem dL_build_296 : decode cL_build 296 = .ok (.aload_n 0, 1) := by decide +kernel
theorem dL_build_297 : decode cL_build 297 = .ok (.iload 4, 2) := by decide +kernel
theorem dL_build_299 : decode cL_build 299 = .ok (.iload 5, 2) := by decide +kernel
theorem dL_build_301 : decode cL_build 301 = .ok (.aload_n 2, 1) := by decide +kernel
theorem dL_build_302 : decode cL_build 302 = .ok (.getfield 51, 3) := by decide +kernel
theorem dL_build_305 : decode cL_build 305 = .ok (.iload 4, 2) := by decide +kernel
theorem dL_build_307 : decode cL_build 307 = .ok (.aaload, 1) := by decide +kernel
theorem dL_build_308 : decode cL_build 308 = .ok (.iload 5, 2) := by decide +kernel
theorem dL_build_310 : decode cL_build 310 = .ok (.aaload, 1) := by decide +kernel
theorem dL_build_311 : decode cL_build 311 = .ok (.iconst 0, 1) := by decide +kernel
theorem dL_build_312 : decode cL_build 312 = .ok (.iaload, 1) := by decide +kernel
theorem dL_build_313 : decode cL_build 313 = .ok (.aload_n 2, 1) := by decide +kernel
theorem dL_build_314 : decode cL_build 314 = .ok (.getfield 51, 3) := by decide +kernel
theorem dL_build_317 : decode cL_build 317 = .ok (.iload 4, 2) := by decide +kernel
theorem dL_build_319 : decode cL_build 319 = .ok (.aaload, 1) := by decide +kernel
theorem dL_build_320 : decode cL_build 320 = .ok (.iload 5, 2) := by decide +kernel
theorem dL_build_322 : decode cL_build 322 = .ok (.aaload, 1) := by decide +kernel
theorem dL_build_323 : decode cL_build 323 = .ok (.iconst 1, 1) := by decide +kernel
theorem dL_build_324 : decode cL_build 324 = .ok (.iaload, 1) := by decide +kernel
theorem dL_build_325 : decode cL_build 325 = .ok (.invokevirtual 55, 3) := by decide +kernel
theorem dL_build_328 : decode cL_build 328 = .ok (.aload_n 2, 1) := by decide +kernel
theorem dL_build_329 : decode cL_build 329 = .ok (.iload 4, 2) := by decide +kernel
theorem dL_build_331 : decode cL_build 331 = .ok (.invokevirtual 59, 3) := by decide +kernel
theorem dL_build_334 : decode cL_build 334 = .ok (.if_icmp .eq 5, 3) := by decide +kernel
theorem dL_build_337 : decode cL_build 337 = .ok (.aconst_null, 1) := by decide +kernel
theorem dL_build_338 : decode cL_build 338 = .ok (.areturn, 1) := by decide +kernel
theorem dL_build_339 : decode cL_build 339 = .ok (.iinc 5 1, 3) := by decide +kernel
theorem dL_build_342 : decode cL_build 342 = .ok (.goto (-117), 3) := by decide +kernel
theorem dL_build_345 : decode cL_build 345 = .ok (.iinc 4 1, 3) := by decide +kernel
theorem dL_build_348 : decode cL_build 348 = .ok (.goto (-132), 3) := by decide +kernel
theorem dL_build_351 : decode cL_build 351 = .ok (.aload_n 2, 1) := by decide +kernel
theorem dL_build_352 : decode cL_build 352 = .ok (.areturn, 1) := by decide +kernel
set_option maxRecDepth 20000 in
theorem ggL_law_X2_init : GoodIn wsL_law wsX2_init := goodIn_r _ [10, 11, 12, 13, 14, 15, 16, 17, 18, 19, 20, 21, 7, 22, 23, 24, 25, 26, 27, 28, 29, 30, 31, 32, 33, 34, 35, 36, 37, 38, 39, 482, 483, 484, 485, 486, 473, 474, 475, 476, 477, 478, 479, 480, 481, 487, 488] (by decide +kernel) (by decide +kernel)
set_option maxRecDepth 20000 in
theorem gL_law_X2_init : GoodIn wsL_law (wsX2_init) := ggL_law_X2_init
set_option maxRecDepth 20000 in
theorem ggL_law_L_build : GoodIn wsL_law wsL_build := goodIn_ca (goodIn_ca (goodIn_ca (goodIn_r _ [43, 44, 45, 46, 47, 7, 48, 49, 50, 51, 12, 13, 52, 53, 54, 55, 56, 57, 42, 58, 59, 60, 61, 62, 63, 64, 65, 66, 67, 68, 69, 2, 70, 17, 71, 72, 73, 74, 75, 76, 77, 78, 79, 16, 80, 81, 82, 83, 84, 85, 30, 31, 33, 86, 87, 88, 89, 90, 91, 92, 93, 94, 95, 96, 97, 98, 99, 100, 101, 102, 103, 104, 105, 106, 107, 108, 109, 110, 111, 112, 113, 114, 115, 116, 117, 118, 119, 120, 121, 122, 123, 124, 125, 126, 127, 128, 129, 34, 130, 131, 132, 133, 134, 135, 136, 137, 138, 139, 140, 141, 142, 143, 144, 145, 146, 147, 148, 149, 150, 151, 152, 153, 21, 154, 155, 156, 157, 158, 159, 160, 161, 162, 163, 164, 165, 20, 166, 167, 168, 169, 170, 39, 171, 172, 173, 174, 175, 489, 490, 491, 492, 493, 473, 474, 475, 476, 477, 478, 479, 480, 481, 482, 483, 484, 485, 486, 487, 488] (by decide +kernel) (by decide +kernel)) (goodIn_sub (fun _ h => List.mem_append_left _ (List.mem_append_left _ (List.mem_append_right _ h))) (by decide +kernel))) (goodIn_sub (fun _ h => List.mem_append_left _ (List.mem_append_right _ h)) (by decide +kernel))) (goodIn_sub (fun _ h => List.mem_append_right _ h) (by decide +kernel))
set_option maxRecDepth 20000 in
theorem gL_law_L_build : GoodIn wsL_law (va_wsS RL 85 yL_build wsL_build) := goodIn_app (goodIn_of _ (by decide +kernel)) ggL_law_L_build
set_option maxRecDepth 20000 in
theorem ggL_law_L_cell : GoodIn wsL_law wsL_cell := goodIn_r _ [58, 59] (by decide +kernel) (by decide +kernel)
set_option maxRecDepth 20000 in
theorem gL_law_L_cell : GoodIn wsL_law (va_wsS RL 80 yL_cell wsL_cell) := goodIn_app (goodIn_of _ (by decide +kernel)) ggL_law_L_cell
