theorem dX3_digest_102 : decode cX3_digest 102 = .ok (.bipush 12, 2) := by decide +kernel
theorem dX3_digest_104 : decode cX3_digest 104 = .ok (.if_icmp .ge 37, 3) := by decide +kernel
theorem dX3_digest_107 : decode cX3_digest 107 = .ok (.lload_n 2, 1) := by decide +kernel
theorem dX3_digest_108 : decode cX3_digest 108 = .ok (.ldc2_w 177, 3) := by decide +kernel
theorem dX3_digest_111 : decode cX3_digest 111 = .ok (.lmul, 1) := by decide +kernel
theorem dX3_digest_112 : decode cX3_digest 112 = .ok (.aload_n 0, 1) := by decide +kernel
theorem dX3_digest_113 : decode cX3_digest 113 = .ok (.getfield 20, 3) := by decide +kernel
theorem dX3_digest_116 : decode cX3_digest 116 = .ok (.iload 4, 2) := by decide +kernel
theorem dX3_digest_118 : decode cX3_digest 118 = .ok (.iaload, 1) := by decide +kernel
theorem dX3_digest_119 : decode cX3_digest 119 = .ok (.i2l, 1) := by decide +kernel
theorem dX3_digest_120 : decode cX3_digest 120 = .ok (.ladd, 1) := by decide +kernel
theorem dX3_digest_121 : decode cX3_digest 121 = .ok (.ldc2_w 177, 3) := by decide +kernel
theorem dX3_digest_124 : decode cX3_digest 124 = .ok (.lmul, 1) := by decide +kernel
theorem dX3_digest_125 : decode cX3_digest 125 = .ok (.aload_n 0, 1) := by decide +kernel
theorem dX3_digest_126 : decode cX3_digest 126 = .ok (.getfield 23, 3) := by decide +kernel
theorem dX3_digest_129 : decode cX3_digest 129 = .ok (.iload 4, 2) := by decide +kernel
theorem dX3_digest_131 : decode cX3_digest 131 = .ok (.iaload, 1) := by decide +kernel
theorem dX3_digest_132 : decode cX3_digest 132 = .ok (.i2l, 1) := by decide +kernel
theorem dX3_digest_133 : decode cX3_digest 133 = .ok (.ladd, 1) := by decide +kernel
theorem dX3_digest_134 : decode cX3_digest 134 = .ok (.lstore_n 2, 1) := by decide +kernel
theorem dX3_digest_135 : decode cX3_digest 135 = .ok (.iinc 4 1, 3) := by decide +kernel
theorem dX3_digest_138 : decode cX3_digest 138 = .ok (.goto (-38), 3) := by decide +kernel
theorem dX3_digest_141 : decode cX3_digest 141 = .ok (.iconst 0, 1) := by decide +kernel
theorem dX3_digest_142 : decode cX3_digest 142 = .ok (.istore 4, 2) := by decide +kernel
theorem dX3_digest_144 : decode cX3_digest 144 = .ok (.iload 4, 2) := by decide +kernel
theorem dX3_digest_146 : decode cX3_digest 146 = .ok (.aload_n 0, 1) := by decide +kernel
theorem dX3_digest_147 : decode cX3_digest 147 = .ok (.getfield 39, 3) := by decide +kernel
theorem dX3_digest_150 : decode cX3_digest 150 = .ok (.if_icmp .ge 145, 3) := by decide +kernel
theorem dX3_digest_153 : decode cX3_digest 153 = .ok (.lload_n 2, 1) := by decide +kernel
theorem dX3_digest_154 : decode cX3_digest 154 = .ok (.ldc2_w 177, 3) := by decide +kernel
theorem dX3_digest_157 : decode cX3_digest 157 = .ok (.lmul, 1) := by decide +kernel
theorem dX3_digest_158 : decode cX3_digest 158 = .ok (.aload_n 0, 1) := by decide +kernel
theorem dX3_digest_159 : decode cX3_digest 159 = .ok (.getfield 16, 3) := by decide +kernel
theorem dX3_digest_162 : decode cX3_digest 162 = .ok (.iload 4, 2) := by decide +kernel
theorem dX3_digest_164 : decode cX3_digest 164 = .ok (.baload, 1) := by decide +kernel
theorem dX3_digest_165 : decode cX3_digest 165 = .ok (.ifCond .eq 7, 3) := by decide +kernel
theorem dX3_digest_168 : decode cX3_digest 168 = .ok (.iconst 1, 1) := by decide +kernel
theorem dX3_digest_169 : decode cX3_digest 169 = .ok (.goto 4, 3) := by decide +kernel
theorem dX3_digest_172 : decode cX3_digest 172 = .ok (.iconst 0, 1) := by decide +kernel
theorem dX3_digest_173 : decode cX3_digest 173 = .ok (.i2l, 1) := by decide +kernel
theorem dX3_digest_174 : decode cX3_digest 174 = .ok (.ladd, 1) := by decide +kernel
theorem dX3_digest_175 : decode cX3_digest 175 = .ok (.ldc2_w 177, 3) := by decide +kernel
theorem dX3_digest_178 : decode cX3_digest 178 = .ok (.lmul, 1) := by decide +kernel
theorem dX3_digest_179 : decode cX3_digest 179 = .ok (.aload_n 0, 1) := by decide +kernel
theorem dX3_digest_180 : decode cX3_digest 180 = .ok (.getfield 9, 3) := by decide +kernel
theorem dX3_digest_183 : decode cX3_digest 183 = .ok (.iload 4, 2) := by decide +kernel
theorem dX3_digest_185 : decode cX3_digest 185 = .ok (.iaload, 1) := by decide +kernel
theorem dX3_digest_186 : decode cX3_digest 186 = .ok (.i2l, 1) := by decide +kernel
theorem dX3_digest_187 : decode cX3_digest 187 = .ok (.ladd, 1) := by decide +kernel
theorem dX3_digest_188 : decode cX3_digest 188 = .ok (.ldc2_w 177, 3) := by decide +kernel
theorem dX3_digest_191 : decode cX3_digest 191 = .ok (.lmul, 1) := by decide +kernel
theorem dX3_digest_192 : decode cX3_digest 192 = .ok (.aload_n 0, 1) := by decide +kernel
theorem dX3_digest_193 : decode cX3_digest 193 = .ok (.getfield 13, 3) := by decide +kernel
theorem dX3_digest_196 : decode cX3_digest 196 = .ok (.iload 4, 2) := by decide +kernel
theorem dX3_digest_198 : decode cX3_digest 198 = .ok (.iaload, 1) := by decide +kernel
theorem dX3_digest_199 : decode cX3_digest 199 = .ok (.i2l, 1) := by decide +kernel
theorem dX3_digest_200 : decode cX3_digest 200 = .ok (.ladd, 1) := by decide +kernel
theorem dX3_digest_201 : decode cX3_digest 201 = .ok (.lstore_n 2, 1) := by decide +kernel
theorem dX3_digest_202 : decode cX3_digest 202 = .ok (.lload_n 2, 1) := by decide +kernel
theorem dX3_digest_203 : decode cX3_digest 203 = .ok (.ldc2_w 177, 3) := by decide +kernel
theorem dX3_digest_206 : decode cX3_digest 206 = .ok (.lmul, 1) := by decide +kernel
theorem dX3_digest_207 : decode cX3_digest 207 = .ok (.aload_n 0, 1) := by decide +kernel
theorem dX3_digest_208 : decode cX3_digest 208 = .ok (.iload 4, 2) := by decide +kernel
theorem dX3_digest_210 : decode cX3_digest 210 = .ok (.aload_n 0, 1) := by decide +kernel
theorem dX3_digest_211 : decode cX3_digest 211 = .ok (.getfield 95, 3) := by decide +kernel
theorem dX3_digest_214 : decode cX3_digest 214 = .ok (.invokevirtual 118, 3) := by decide +kernel
theorem dX3_digest_217 : decode cX3_digest 217 = .ok (.i2l, 1) := by decide +kernel
theorem dX3_digest_218 : decode cX3_digest 218 = .ok (.ladd, 1) := by decide +kernel
theorem dX3_digest_219 : decode cX3_digest 219 = .ok (.ldc2_w 177, 3) := by decide +kernel
theorem dX3_digest_222 : decode cX3_digest 222 = .ok (.lmul, 1) := by decide +kernel
theorem dX3_digest_223 : decode cX3_digest 223 = .ok (.aload_n 0, 1) := by decide +kernel
theorem dX3_digest_224 : decode cX3_digest 224 = .ok (.iload 4, 2) := by decide +kernel
theorem dX3_digest_226 : decode cX3_digest 226 = .ok (.invokevirtual 142, 3) := by decide +kernel
theorem dX3_digest_229 : decode cX3_digest 229 = .ok (.i2l, 1) := by decide +kernel
theorem dX3_digest_230 : decode cX3_digest 230 = .ok (.ladd, 1) := by decide +kernel
theorem dX3_digest_231 : decode cX3_digest 231 = .ok (.ldc2_w 177, 3) := by decide +kernel
theorem dX3_digest_234 : decode cX3_digest 234 = .ok (.lmul, 1) := by decide +kernel
theorem dX3_digest_235 : decode cX3_digest 235 = .ok (.aload_n 0, 1) := by decide +kernel
theorem dX3_digest_236 : decode cX3_digest 236 = .ok (.iload 4, 2) := by decide +kernel
theorem dX3_digest_238 : decode cX3_digest 238 = .ok (.invokevirtual 145, 3) := by decide +kernel
theorem dX3_digest_241 : decode cX3_digest 241 = .ok (.i2l, 1) := by decide +kernel
theorem dX3_digest_242 : decode cX3_digest 242 = .ok (.ladd, 1) := by decide +kernel
theorem dX3_digest_243 : decode cX3_digest 243 = .ok (.lstore_n 2, 1) := by decide +kernel
theorem dX3_digest_244 : decode cX3_digest 244 = .ok (.lload_n 2, 1) := by decide +kernel
theorem dX3_digest_245 : decode cX3_digest 245 = .ok (.ldc2_w 177, 3) := by decide +kernel
theorem dX3_digest_248 : decode cX3_digest 248 = .ok (.lmul, 1) := by decide +kernel
theorem dX3_digest_249 : decode cX3_digest 249 = .ok (.aload_n 0, 1) := by decide +kernel
theorem dX3_digest_250 : decode cX3_digest 250 = .ok (.iload 4, 2) := by decide +kernel
theorem dX3_digest_252 : decode cX3_digest 252 = .ok (.invokevirtual 148, 3) := by decide +kernel
theorem dX3_digest_255 : decode cX3_digest 255 = .ok (.i2l, 1) := by decide +kernel
theorem dX3_digest_256 : decode cX3_digest 256 = .ok (.ladd, 1) := by decide +kernel
theorem dX3_digest_257 : decode cX3_digest 257 = .ok (.lstore_n 2, 1) := by decide +kernel
theorem dX3_digest_258 : decode cX3_digest 258 = .ok (.iconst 1, 1) := by decide +kernel
theorem dX3_digest_259 : decode cX3_digest 259 = .ok (.istore 5, 2) := by decide +kernel
theorem dX3_digest_261 : decode cX3_digest 261 = .ok (.iload 5, 2) := by decide +kernel
theorem dX3_digest_263 : decode cX3_digest 263 = .ok (.iconst 4, 1) := by decide +kernel
theorem dX3_digest_264 : decode cX3_digest 264 = .ok (.if_icmp .gt 25, 3) := by decide +kernel
theorem dX3_digest_267 : decode cX3_digest 267 = .ok (.lload_n 2, 1) := by decide +kernel
theorem dX3_digest_268 : decode cX3_digest 268 = .ok (.ldc2_w 177, 3) := by decide +kernel
theorem dX3_digest_271 : decode cX3_digest 271 = .ok (.lmul, 1) := by decide +kernel
theorem dX3_digest_272 : decode cX3_digest 272 = .ok (.aload_n 0, 1) := by decide +kernel
theorem dX3_digest_273 : decode cX3_digest 273 = .ok (.iload 4, 2) := by decide +kernel
theorem dX3_digest_275 : decode cX3_digest 275 = .ok (.iload 5, 2) := by decide +kernel
theorem dX3_digest_277 : decode cX3_digest 277 = .ok (.invokevirtual 139, 3) := by decide +kernel
theorem dX3_digest_280 : decode cX3_digest 280 = .ok (.i2l, 1) := by decide +kernel
theorem dX3_digest_281 : decode cX3_digest 281 = .ok (.ladd, 1) := by decide +kernel
theorem dX3_digest_282 : decode cX3_digest 282 = .ok (.lstore_n 2, 1) := by decide +kernel
theorem dX3_digest_283 : decode cX3_digest 283 = .ok (.iinc 5 1, 3) := by decide +kernel
theorem dX3_digest_286 : decode cX3_digest 286 = .ok (.goto (-25), 3) := by decide +kernel
theorem dX3_digest_289 : decode cX3_digest 289 = .ok (.iinc 4 1, 3) := by decide +kernel
theorem dX3_digest_292 : decode cX3_digest 292 = .ok (.goto (-148), 3) := by decide +kernel
theorem dX3_digest_295 : decode cX3_digest 295 = .ok (.lload_n 2, 1) := by decide +kernel
theorem dX3_digest_296 : decode cX3_digest 296 = .ok (.lreturn, 1) := by decide +kernel
theorem dJ9_max_7cf53_0 : decode cJ9_max_7cf53 0 = .ok (.iload_n 0, 1) := by decide +kernel
theorem dJ9_max_7cf53_1 : decode cJ9_max_7cf53 1 = .ok (.iload_n 1, 1) := by decide +kernel
theorem dJ9_max_7cf53_2 : decode cJ9_max_7cf53 2 = .ok (.if_icmp .lt 7, 3) := by decide +kernel
theorem dJ9_max_7cf53_5 : decode cJ9_max_7cf53 5 = .ok (.iload_n 0, 1) := by decide +kernel
theorem dJ9_max_7cf53_6 : decode cJ9_max_7cf53 6 = .ok (.goto 4, 3) := by decide +kernel
theorem dJ9_max_7cf53_9 : decode cJ9_max_7cf53 9 = .ok (.iload_n 1, 1) := by decide +kernel
theorem dJ9_max_7cf53_10 : decode cJ9_max_7cf53 10 = .ok (.ireturn, 1) := by decide +kernel
theorem dJ9_min_7cf53_0 : decode cJ9_min_7cf53 0 = .ok (.iload_n 0, 1) := by decide +kernel
theorem dJ9_min_7cf53_1 : decode cJ9_min_7cf53 1 = .ok (.iload_n 1, 1) := by decide +kernel
theorem dJ9_min_7cf53_2 : decode cJ9_min_7cf53 2 = .ok (.if_icmp .gt 7, 3) := by decide +kernel
theorem dJ9_min_7cf53_5 : decode cJ9_min_7cf53 5 = .ok (.iload_n 0, 1) := by decide +kernel
theorem dJ9_min_7cf53_6 : decode cJ9_min_7cf53 6 = .ok (.goto 4, 3) := by decide +kernel
theorem dJ9_min_7cf53_9 : decode cJ9_min_7cf53 9 = .ok (.iload_n 1, 1) := by decide +kernel
theorem dJ9_min_7cf53_10 : decode cJ9_min_7cf53 10 = .ok (.ireturn, 1) := by decide +kernel
theorem dJ7_fill_53178_0 : decode cJ7_fill_53178 0 = .ok (.iconst 0, 1) := by decide +kernel
theorem dJ7_fill_53178_1 : decode cJ7_fill_53178 1 = .ok (.istore_n 2, 1) := by decide +kernel
theorem dJ7_fill_53178_2 : decode cJ7_fill_53178 2 = .ok (.aload_n 0, 1) := by decide +kernel
theorem dJ7_fill_53178_3 : decode cJ7_fill_53178 3 = .ok (.arraylength, 1) := by decide +kernel
theorem dJ7_fill_53178_4 : decode cJ7_fill_53178 4 = .ok (.istore_n 3, 1) := by decide +kernel
theorem dJ7_fill_53178_5 : decode cJ7_fill_53178 5 = .ok (.iload_n 2, 1) := by decide +kernel
theorem dJ7_fill_53178_6 : decode cJ7_fill_53178 6 = .ok (.iload_n 3, 1) := by decide +kernel
theorem dJ7_fill_53178_7 : decode cJ7_fill_53178 7 = .ok (.if_icmp .ge 13, 3) := by decide +kernel
theorem dJ7_fill_53178_10 : decode cJ7_fill_53178 10 = .ok (.aload_n 0, 1) := by decide +kernel
theorem dJ7_fill_53178_11 : decode cJ7_fill_53178 11 = .ok (.iload_n 2, 1) := by decide +kernel
theorem dJ7_fill_53178_12 : decode cJ7_fill_53178 12 = .ok (.iload_n 1, 1) := by decide +kernel
theorem dJ7_fill_53178_13 : decode cJ7_fill_53178 13 = .ok (.iastore, 1) := by decide +kernel
theorem dJ7_fill_53178_14 : decode cJ7_fill_53178 14 = .ok (.iinc 2 1, 3) := by decide +kernel
theorem dJ7_fill_53178_17 : decode cJ7_fill_53178 17 = .ok (.goto (-12), 3) := by decide +kernel
theorem dJ7_fill_53178_20 : decode cJ7_fill_53178 20 = .ok (.return_, 1) := by decide +kernel
set_option maxRecDepth 20000 in
theorem ggL_addPerson_X2_addPerson : GoodIn wsL_addPerson wsX2_addPerson := goodIn_ca (goodIn_r _ [6, 7, 8, 9, 10, 5, 11, 12, 13, 14, 15, 16, 17, 18, 19, 20, 21, 22, 23, 24, 25, 26, 27, 28, 29, 30, 31, 32, 33, 34, 35, 36, 37, 38, 39, 40] (by decide +kernel) (by decide +kernel)) (goodIn_sub (fun _ h => List.mem_cons_of_mem _ (List.mem_append_right _ h)) (by decide +kernel))
set_option maxRecDepth 20000 in
theorem gL_addPerson_X2_addPerson : GoodIn wsL_addPerson (wsV RL 7 RX2 yX2_addPerson wsX2_addPerson) := goodIn_app (goodIn_of _ (by decide +kernel)) ggL_addPerson_X2_addPerson
theorem dL_addPerson_0 : decode cL_addPerson 0 = .ok (.aload_n 1, 1) := by decide +kernel
theorem dL_addPerson_1 : decode cL_addPerson 1 = .ok (.iconst 0, 1) := by decide +kernel
theorem dL_addPerson_2 : decode cL_addPerson 2 = .ok (.aload_n 0, 1) := by decide +kernel
theorem dL_addPerson_3 : decode cL_addPerson 3 = .ok (.invokevirtual 7, 3) := by decide +kernel
theorem dL_addPerson_6 : decode cL_addPerson 6 = .ok (.i2l, 1) := by decide +kernel
theorem dL_addPerson_7 : decode cL_addPerson 7 = .ok (.lastore, 1) := by decide +kernel
theorem dL_addPerson_8 : decode cL_addPerson 8 = .ok (.goto 6, 3) := by decide +kernel
theorem dL_addPerson_11 : decode cL_addPerson 11 = .ok (.astore_n 2, 1) := by decide +kernel
theorem dL_addPerson_12 : decode cL_addPerson 12 = .ok (.iconst 1, 1) := by decide +kernel
theorem dL_addPerson_13 : decode cL_addPerson 13 = .ok (.ireturn, 1) := by decide +kernel
theorem dL_addPerson_14 : decode cL_addPerson 14 = .ok (.iconst 0, 1) := by decide +kernel
theorem dL_addPerson_15 : decode cL_addPerson 15 = .ok (.ireturn, 1) := by decide +kernel
set_option maxRecDepth 20000 in
theorem ggL_addChild_X2_addChild : GoodIn wsL_addChild wsX2_addChild := goodIn_ca (goodIn_ca (goodIn_r _ [7, 8, 9, 10, 11, 6, 12, 13, 14, 15, 16, 17, 18, 19, 20, 21, 22, 23, 24, 25, 26, 27, 28, 29, 30, 31, 32, 33, 34, 35, 36, 37, 38, 39, 40, 41, 42, 43, 44, 45, 46, 47, 48, 49, 50, 51, 52, 53] (by decide +kernel) (by decide +kernel)) (goodIn_sub (fun _ h => List.mem_cons_of_mem _ (List.mem_append_left _ (List.mem_append_right _ h))) (by decide +kernel))) (goodIn_sub (fun _ h => List.mem_cons_of_mem _ (List.mem_append_right _ h)) (by decide +kernel))
set_option maxRecDepth 20000 in
theorem gL_addChild_X2_addChild : GoodIn wsL_addChild (wsV RL 15 RX2 yX2_addChild wsX2_addChild) := goodIn_app (goodIn_of _ (by decide +kernel)) ggL_addChild_X2_addChild
theorem dL_addChild_0 : decode cL_addChild 0 = .ok (.aload_n 2, 1) := by decide +kernel
theorem dL_addChild_1 : decode cL_addChild 1 = .ok (.iconst 0, 1) := by decide +kernel
theorem dL_addChild_2 : decode cL_addChild 2 = .ok (.aload_n 0, 1) := by decide +kernel
theorem dL_addChild_3 : decode cL_addChild 3 = .ok (.iload_n 1, 1) := by decide +kernel
theorem dL_addChild_4 : decode cL_addChild 4 = .ok (.invokevirtual 15, 3) := by decide +kernel
theorem dL_addChild_7 : decode cL_addChild 7 = .ok (.i2l, 1) := by decide +kernel
theorem dL_addChild_8 : decode cL_addChild 8 = .ok (.lastore, 1) := by decide +kernel
theorem dL_addChild_9 : decode cL_addChild 9 = .ok (.goto 9, 3) := by decide +kernel
theorem dL_addChild_12 : decode cL_addChild 12 = .ok (.astore_n 3, 1) := by decide +kernel
theorem dL_addChild_13 : decode cL_addChild 13 = .ok (.iconst 1, 1) := by decide +kernel
theorem dL_addChild_14 : decode cL_addChild 14 = .ok (.ireturn, 1) := by decide +kernel
theorem dL_addChild_15 : decode cL_addChild 15 = .ok (.astore_n 3, 1) := by decide +kernel
theorem dL_addChild_16 : decode cL_addChild 16 = .ok (.iconst 2, 1) := by decide +kernel
theorem dL_addChild_17 : decode cL_addChild 17 = .ok (.ireturn, 1) := by decide +kernel
theorem dL_addChild_18 : decode cL_addChild 18 = .ok (.iconst 0, 1) := by decide +kernel
theorem dL_addChild_19 : decode cL_addChild 19 = .ok (.ireturn, 1) := by decide +kernel
set_option maxRecDepth 20000 in
theorem ggL_marry_X2_marry : GoodIn wsL_marry wsX2_marry := goodIn_ca (goodIn_ca (goodIn_ca (goodIn_r _ [8, 9, 10, 11, 12, 13, 14, 15, 7, 16, 17, 18, 19, 20, 21, 22, 23, 24, 25, 26, 27, 28, 29, 30, 31, 32, 33, 34, 35, 36, 37, 38, 39, 40, 41, 42, 43, 44, 45, 46, 47, 48, 49, 50, 51, 52, 53, 54, 55, 56, 57, 58, 59, 60, 61, 62, 63, 64, 65, 66, 67, 68, 69, 70, 71, 72, 73, 74, 75, 76, 77, 78] (by decide +kernel) (by decide +kernel)) (goodIn_sub (fun _ h => List.mem_cons_of_mem _ (List.mem_append_left _ (List.mem_append_left _ (List.mem_append_right _ h)))) (by decide +kernel))) (goodIn_sub (fun _ h => List.mem_cons_of_mem _ (List.mem_append_left _ (List.mem_append_right _ h))) (by decide +kernel))) (goodIn_sub (fun _ h => List.mem_cons_of_mem _ (List.mem_append_right _ h)) (by decide +kernel))
set_option maxRecDepth 20000 in
theorem gL_marry_X2_marry : GoodIn wsL_marry (wsV RL 21 RX2 yX2_marry wsX2_marry) := goodIn_app (goodIn_of _ (by decide +kernel)) ggL_marry_X2_marry
theorem dL_marry_0 : decode cL_marry 0 = .ok (.aload_n 3, 1) := by decide +kernel
theorem dL_marry_1 : decode cL_marry 1 = .ok (.iconst 0, 1) := by decide +kernel
theorem dL_marry_2 : decode cL_marry 2 = .ok (.aload_n 0, 1) := by decide +kernel
theorem dL_marry_3 : decode cL_marry 3 = .ok (.iload_n 1, 1) := by decide +kernel
theorem dL_marry_4 : decode cL_marry 4 = .ok (.iload_n 2, 1) := by decide +kernel
theorem dL_marry_5 : decode cL_marry 5 = .ok (.invokevirtual 21, 3) := by decide +kernel
theorem dL_marry_8 : decode cL_marry 8 = .ok (.i2l, 1) := by decide +kernel
theorem dL_marry_9 : decode cL_marry 9 = .ok (.lastore, 1) := by decide +kernel
theorem dL_marry_10 : decode cL_marry 10 = .ok (.goto 15, 3) := by decide +kernel
theorem dL_marry_13 : decode cL_marry 13 = .ok (.astore 4, 2) := by decide +kernel
theorem dL_marry_15 : decode cL_marry 15 = .ok (.iconst 1, 1) := by decide +kernel
theorem dL_marry_16 : decode cL_marry 16 = .ok (.ireturn, 1) := by decide +kernel
theorem dL_marry_17 : decode cL_marry 17 = .ok (.astore 4, 2) := by decide +kernel
theorem dL_marry_19 : decode cL_marry 19 = .ok (.iconst 2, 1) := by decide +kernel
theorem dL_marry_20 : decode cL_marry 20 = .ok (.ireturn, 1) := by decide +kernel
theorem dL_marry_21 : decode cL_marry 21 = .ok (.astore 4, 2) := by decide +kernel
theorem dL_marry_23 : decode cL_marry 23 = .ok (.iconst 3, 1) := by decide +kernel
theorem dL_marry_24 : decode cL_marry 24 = .ok (.ireturn, 1) := by decide +kernel
theorem dL_marry_25 : decode cL_marry 25 = .ok (.iconst 0, 1) := by decide +kernel
theorem dL_marry_26 : decode cL_marry 26 = .ok (.ireturn, 1) := by decide +kernel
set_option maxRecDepth 20000 in
theorem ggL_setStage_X2_setStage : GoodIn wsL_setStage wsX2_setStage := goodIn_ca (goodIn_ca (goodIn_r _ [7, 8, 9, 10, 11, 12, 13, 14, 15, 6, 16, 17, 18, 19, 20, 21, 22, 23, 24, 25, 26, 27, 28, 29, 30, 31, 32, 33, 34, 35, 36, 37, 38, 39, 40, 41, 42, 43] (by decide +kernel) (by decide +kernel)) (goodIn_sub (fun _ h => List.mem_cons_of_mem _ (List.mem_append_left _ (List.mem_append_right _ h))) (by decide +kernel))) (goodIn_sub (fun _ h => List.mem_cons_of_mem _ (List.mem_append_right _ h)) (by decide +kernel))
set_option maxRecDepth 20000 in
theorem gL_setStage_X2_setStage : GoodIn wsL_setStage (wsV RL 27 RX2 yX2_setStage wsX2_setStage) := goodIn_app (goodIn_of _ (by decide +kernel)) ggL_setStage_X2_setStage
theorem dL_setStage_0 : decode cL_setStage 0 = .ok (.aload 5, 2) := by decide +kernel
theorem dL_setStage_2 : decode cL_setStage 2 = .ok (.iconst 0, 1) := by decide +kernel
theorem dL_setStage_3 : decode cL_setStage 3 = .ok (.aload_n 0, 1) := by decide +kernel
theorem dL_setStage_4 : decode cL_setStage 4 = .ok (.iload_n 1, 1) := by decide +kernel
theorem dL_setStage_5 : decode cL_setStage 5 = .ok (.iload_n 2, 1) := by decide +kernel
theorem dL_setStage_6 : decode cL_setStage 6 = .ok (.iload_n 3, 1) := by decide +kernel
theorem dL_setStage_7 : decode cL_setStage 7 = .ok (.iload 4, 2) := by decide +kernel
theorem dL_setStage_9 : decode cL_setStage 9 = .ok (.invokevirtual 27, 3) := by decide +kernel
theorem dL_setStage_12 : decode cL_setStage 12 = .ok (.i2l, 1) := by decide +kernel
theorem dL_setStage_13 : decode cL_setStage 13 = .ok (.lastore, 1) := by decide +kernel
theorem dL_setStage_14 : decode cL_setStage 14 = .ok (.goto 11, 3) := by decide +kernel
theorem dL_setStage_17 : decode cL_setStage 17 = .ok (.astore 6, 2) := by decide +kernel
theorem dL_setStage_19 : decode cL_setStage 19 = .ok (.iconst 1, 1) := by decide +kernel
theorem dL_setStage_20 : decode cL_setStage 20 = .ok (.ireturn, 1) := by decide +kernel
theorem dL_setStage_21 : decode cL_setStage 21 = .ok (.astore 6, 2) := by decide +kernel
theorem dL_setStage_23 : decode cL_setStage 23 = .ok (.iconst 2, 1) := by decide +kernel
theorem dL_setStage_24 : decode cL_setStage 24 = .ok (.ireturn, 1) := by decide +kernel
theorem dL_setStage_25 : decode cL_setStage 25 = .ok (.iconst 0, 1) := by decide +kernel
theorem dL_setStage_26 : decode cL_setStage 26 = .ok (.ireturn, 1) := by decide +kernel
set_option maxRecDepth 20000 in
theorem ggL_die_X2_die : GoodIn wsL_die wsX2_die := goodIn_ca (goodIn_ca (goodIn_r _ [7, 8, 9, 10, 11, 12, 13, 14, 15, 6, 16, 17, 18, 19, 20, 21, 22, 23, 24, 25, 26, 27, 28, 29, 30, 31, 32, 33, 34, 35, 36, 37, 38, 39, 40, 41, 42, 43, 44, 45, 46, 47, 48, 49, 50, 51, 52, 53, 54, 55, 56, 57, 58, 59, 60, 61, 62, 63, 64, 65, 66, 67, 68, 69, 70, 71, 72, 73, 74, 75, 76, 77, 78, 79, 80, 81, 82, 83, 84, 85, 86, 87, 88, 89, 90, 91, 92, 93, 94, 95, 96, 97] (by decide +kernel) (by decide +kernel)) (goodIn_sub (fun _ h => List.mem_cons_of_mem _ (List.mem_append_left _ (List.mem_append_right _ h))) (by decide +kernel))) (goodIn_sub (fun _ h => List.mem_cons_of_mem _ (List.mem_append_right _ h)) (by decide +kernel))
set_option maxRecDepth 20000 in
theorem gL_die_X2_die : GoodIn wsL_die (wsV RL 31 RX2 yX2_die wsX2_die) := goodIn_app (goodIn_of _ (by decide +kernel)) ggL_die_X2_die
theorem dL_die_0 : decode cL_die 0 = .ok (.aload_n 2, 1) := by decide +kernel
theorem dL_die_1 : decode cL_die 1 = .ok (.iconst 0, 1) := by decide +kernel
theorem dL_die_2 : decode cL_die 2 = .ok (.aload_n 0, 1) := by decide +kernel
theorem dL_die_3 : decode cL_die 3 = .ok (.iload_n 1, 1) := by decide +kernel
theorem dL_die_4 : decode cL_die 4 = .ok (.invokevirtual 31, 3) := by decide +kernel
theorem dL_die_7 : decode cL_die 7 = .ok (.i2l, 1) := by decide +kernel
theorem dL_die_8 : decode cL_die 8 = .ok (.lastore, 1) := by decide +kernel
theorem dL_die_9 : decode cL_die 9 = .ok (.goto 9, 3) := by decide +kernel
theorem dL_die_12 : decode cL_die 12 = .ok (.astore_n 3, 1) := by decide +kernel
theorem dL_die_13 : decode cL_die 13 = .ok (.iconst 1, 1) := by decide +kernel
theorem dL_die_14 : decode cL_die 14 = .ok (.ireturn, 1) := by decide +kernel
theorem dL_die_15 : decode cL_die 15 = .ok (.astore_n 3, 1) := by decide +kernel
theorem dL_die_16 : decode cL_die 16 = .ok (.iconst 2, 1) := by decide +kernel
theorem dL_die_17 : decode cL_die 17 = .ok (.ireturn, 1) := by decide +kernel
theorem dL_die_18 : decode cL_die 18 = .ok (.iconst 0, 1) := by decide +kernel
theorem dL_die_19 : decode cL_die 19 = .ok (.ireturn, 1) := by decide +kernel
set_option maxRecDepth 20000 in
theorem ggL_release_X2_release : GoodIn wsL_release wsX2_release := goodIn_ca (goodIn_ca (goodIn_r _ [7, 8, 9, 10, 11, 12, 13, 6, 14, 15, 16, 17, 18, 19, 20, 21, 22, 23, 24, 25, 26, 27, 28, 29, 30, 31, 32, 33, 34, 35, 36, 37, 38, 39, 40, 41, 42, 43, 44, 45, 46, 47, 48, 49, 50, 51, 52, 53, 54, 55, 56, 57] (by decide +kernel) (by decide +kernel)) (goodIn_sub (fun _ h => List.mem_cons_of_mem _ (List.mem_append_left _ (List.mem_append_right _ h))) (by decide +kernel))) (goodIn_sub (fun _ h => List.mem_cons_of_mem _ (List.mem_append_right _ h)) (by decide +kernel))
set_option maxRecDepth 20000 in
theorem gL_release_X2_release : GoodIn wsL_release (wsV RL 34 RX2 yX2_release wsX2_release) := goodIn_app (goodIn_of _ (by decide +kernel)) ggL_release_X2_release
theorem dL_release_0 : decode cL_release 0 = .ok (.aload_n 3, 1) := by decide +kernel
theorem dL_release_1 : decode cL_release 1 = .ok (.iconst 0, 1) := by decide +kernel
theorem dL_release_2 : decode cL_release 2 = .ok (.aload_n 0, 1) := by decide +kernel
theorem dL_release_3 : decode cL_release 3 = .ok (.iload_n 1, 1) := by decide +kernel
theorem dL_release_4 : decode cL_release 4 = .ok (.iload_n 2, 1) := by decide +kernel
theorem dL_release_5 : decode cL_release 5 = .ok (.invokevirtual 34, 3) := by decide +kernel
theorem dL_release_8 : decode cL_release 8 = .ok (.i2l, 1) := by decide +kernel
theorem dL_release_9 : decode cL_release 9 = .ok (.lastore, 1) := by decide +kernel
theorem dL_release_10 : decode cL_release 10 = .ok (.goto 11, 3) := by decide +kernel
theorem dL_release_13 : decode cL_release 13 = .ok (.astore 4, 2) := by decide +kernel
theorem dL_release_15 : decode cL_release 15 = .ok (.iconst 1, 1) := by decide +kernel
theorem dL_release_16 : decode cL_release 16 = .ok (.ireturn, 1) := by decide +kernel
theorem dL_release_17 : decode cL_release 17 = .ok (.astore 4, 2) := by decide +kernel
theorem dL_release_19 : decode cL_release 19 = .ok (.iconst 2, 1) := by decide +kernel
theorem dL_release_20 : decode cL_release 20 = .ok (.ireturn, 1) := by decide +kernel
theorem dL_release_21 : decode cL_release 21 = .ok (.iconst 0, 1) := by decide +kernel
theorem dL_release_22 : decode cL_release 22 = .ok (.ireturn, 1) := by decide +kernel
set_option maxRecDepth 20000 in
theorem ggL_pass_X2_pass : GoodIn wsL_pass wsX2_pass := goodIn_ca (goodIn_r _ [6, 7, 8, 9, 10, 11, 12, 13, 14, 15, 5, 16, 17, 18, 19, 20, 21, 22, 23, 24, 25, 26, 27, 28, 29, 30, 31, 32, 33, 34, 35, 36, 37, 38, 39, 40, 41, 42, 43, 44, 45, 46, 47, 48, 49, 50, 51, 52, 53, 54, 55, 56, 57, 58, 59, 60, 61, 62, 63, 64, 65, 66, 67, 68, 69, 70, 71, 72, 73, 74, 75, 76, 77, 78, 79, 80, 81, 82, 83, 84, 85, 86, 87, 88] (by decide +kernel) (by decide +kernel)) (goodIn_sub (fun _ h => List.mem_cons_of_mem _ (List.mem_append_right _ h)) (by decide +kernel))
set_option maxRecDepth 20000 in
theorem gL_pass_X2_pass : GoodIn wsL_pass (wsV RL 37 RX2 yX2_pass wsX2_pass) := goodIn_app (goodIn_of _ (by decide +kernel)) ggL_pass_X2_pass
theorem dL_pass_0 : decode cL_pass 0 = .ok (.aload_n 2, 1) := by decide +kernel
theorem dL_pass_1 : decode cL_pass 1 = .ok (.iconst 0, 1) := by decide +kernel
theorem dL_pass_2 : decode cL_pass 2 = .ok (.aload_n 0, 1) := by decide +kernel
theorem dL_pass_3 : decode cL_pass 3 = .ok (.iload_n 1, 1) := by decide +kernel
theorem dL_pass_4 : decode cL_pass 4 = .ok (.invokevirtual 37, 3) := by decide +kernel
theorem dL_pass_7 : decode cL_pass 7 = .ok (.i2l, 1) := by decide +kernel
theorem dL_pass_8 : decode cL_pass 8 = .ok (.lastore, 1) := by decide +kernel
theorem dL_pass_9 : decode cL_pass 9 = .ok (.goto 6, 3) := by decide +kernel
theorem dL_pass_12 : decode cL_pass 12 = .ok (.astore_n 3, 1) := by decide +kernel
theorem dL_pass_13 : decode cL_pass 13 = .ok (.iconst 1, 1) := by decide +kernel
theorem dL_pass_14 : decode cL_pass 14 = .ok (.ireturn, 1) := by decide +kernel
theorem dL_pass_15 : decode cL_pass 15 = .ok (.iconst 0, 1) := by decide +kernel
theorem dL_pass_16 : decode cL_pass 16 = .ok (.ireturn, 1) := by decide +kernel
set_option maxRecDepth 20000 in
theorem ggL_isAlive_X2_isAlive : GoodIn wsL_isAlive wsX2_isAlive := goodIn_ca (goodIn_r _ [6, 7, 8, 9, 10, 11, 5, 12, 13, 14, 15, 16, 17, 18, 19, 20, 21, 22, 23, 24, 25, 26, 27, 28, 29] (by decide +kernel) (by decide +kernel)) (goodIn_sub (fun _ h => List.mem_cons_of_mem _ (List.mem_append_right _ h)) (by decide +kernel))
set_option maxRecDepth 20000 in
theorem gL_isAlive_X2_isAlive : GoodIn wsL_isAlive (wsV RL 40 RX2 yX2_isAlive wsX2_isAlive) := goodIn_app (goodIn_of _ (by decide +kernel)) ggL_isAlive_X2_isAlive
theorem dL_isAlive_0 : decode cL_isAlive 0 = .ok (.aload_n 2, 1) := by decide +kernel
theorem dL_isAlive_1 : decode cL_isAlive 1 = .ok (.iconst 0, 1) := by decide +kernel
theorem dL_isAlive_2 : decode cL_isAlive 2 = .ok (.aload_n 0, 1) := by decide +kernel
theorem dL_isAlive_3 : decode cL_isAlive 3 = .ok (.iload_n 1, 1) := by decide +kernel
theorem dL_isAlive_4 : decode cL_isAlive 4 = .ok (.invokevirtual 40, 3) := by decide +kernel
theorem dL_isAlive_7 : decode cL_isAlive 7 = .ok (.ifCond .eq 7, 3) := by decide +kernel
theorem dL_isAlive_10 : decode cL_isAlive 10 = .ok (.lconst 1, 1) := by decide +kernel
theorem dL_isAlive_11 : decode cL_isAlive 11 = .ok (.goto 4, 3) := by decide +kernel
theorem dL_isAlive_14 : decode cL_isAlive 14 = .ok (.lconst 0, 1) := by decide +kernel
theorem dL_isAlive_15 : decode cL_isAlive 15 = .ok (.lastore, 1) := by decide +kernel
theorem dL_isAlive_16 : decode cL_isAlive 16 = .ok (.goto 6, 3) := by decide +kernel
theorem dL_isAlive_19 : decode cL_isAlive 19 = .ok (.astore_n 3, 1) := by decide +kernel
theorem dL_isAlive_20 : decode cL_isAlive 20 = .ok (.iconst 1, 1) := by decide +kernel
theorem dL_isAlive_21 : decode cL_isAlive 21 = .ok (.ireturn, 1) := by decide +kernel
theorem dL_isAlive_22 : decode cL_isAlive 22 = .ok (.iconst 0, 1) := by decide +kernel
theorem dL_isAlive_23 : decode cL_isAlive 23 = .ok (.ireturn, 1) := by decide +kernel
set_option maxRecDepth 20000 in
theorem ggL_parentOf_X2_parentOf : GoodIn wsL_parentOf wsX2_parentOf := goodIn_ca (goodIn_r _ [6, 7, 8, 9, 10, 11, 5, 12, 13, 14, 15, 16, 17, 18, 19, 20, 21, 22, 23, 24, 25, 26, 27, 28, 29] (by decide +kernel) (by decide +kernel)) (goodIn_sub (fun _ h => List.mem_cons_of_mem _ (List.mem_append_right _ h)) (by decide +kernel))
set_option maxRecDepth 20000 in
theorem gL_parentOf_X2_parentOf : GoodIn wsL_parentOf (wsV RL 44 RX2 yX2_parentOf wsX2_parentOf) := goodIn_app (goodIn_of _ (by decide +kernel)) ggL_parentOf_X2_parentOf
theorem dL_parentOf_0 : decode cL_parentOf 0 = .ok (.aload_n 2, 1) := by decide +kernel
theorem dL_parentOf_1 : decode cL_parentOf 1 = .ok (.iconst 0, 1) := by decide +kernel
theorem dL_parentOf_2 : decode cL_parentOf 2 = .ok (.aload_n 0, 1) := by decide +kernel
theorem dL_parentOf_3 : decode cL_parentOf 3 = .ok (.iload_n 1, 1) := by decide +kernel
theorem dL_parentOf_4 : decode cL_parentOf 4 = .ok (.invokevirtual 44, 3) := by decide +kernel
theorem dL_parentOf_7 : decode cL_parentOf 7 = .ok (.i2l, 1) := by decide +kernel
theorem dL_parentOf_8 : decode cL_parentOf 8 = .ok (.lastore, 1) := by decide +kernel
theorem dL_parentOf_9 : decode cL_parentOf 9 = .ok (.goto 6, 3) := by decide +kernel
theorem dL_parentOf_12 : decode cL_parentOf 12 = .ok (.astore_n 3, 1) := by decide +kernel
theorem dL_parentOf_13 : decode cL_parentOf 13 = .ok (.iconst 1, 1) := by decide +kernel
theorem dL_parentOf_14 : decode cL_parentOf 14 = .ok (.ireturn, 1) := by decide +kernel
theorem dL_parentOf_15 : decode cL_parentOf 15 = .ok (.iconst 0, 1) := by decide +kernel
theorem dL_parentOf_16 : decode cL_parentOf 16 = .ok (.ireturn, 1) := by decide +kernel
set_option maxRecDepth 20000 in
theorem ggL_marriedTo_X2_marriedTo : GoodIn wsL_marriedTo wsX2_marriedTo := goodIn_ca (goodIn_r _ [6, 7, 8, 9, 10, 11, 5, 12, 13, 14, 15, 16, 17, 18, 19, 20, 21, 22, 23, 24, 25, 26, 27, 28, 29] (by decide +kernel) (by decide +kernel)) (goodIn_sub (fun _ h => List.mem_cons_of_mem _ (List.mem_append_right _ h)) (by decide +kernel))
set_option maxRecDepth 20000 in
theorem gL_marriedTo_X2_marriedTo : GoodIn wsL_marriedTo (wsV RL 47 RX2 yX2_marriedTo wsX2_marriedTo) := goodIn_app (goodIn_of _ (by decide +kernel)) ggL_marriedTo_X2_marriedTo
theorem dL_marriedTo_0 : decode cL_marriedTo 0 = .ok (.aload_n 2, 1) := by decide +kernel
theorem dL_marriedTo_1 : decode cL_marriedTo 1 = .ok (.iconst 0, 1) := by decide +kernel
theorem dL_marriedTo_2 : decode cL_marriedTo 2 = .ok (.aload_n 0, 1) := by decide +kernel
theorem dL_marriedTo_3 : decode cL_marriedTo 3 = .ok (.iload_n 1, 1) := by decide +kernel
theorem dL_marriedTo_4 : decode cL_marriedTo 4 = .ok (.invokevirtual 47, 3) := by decide +kernel
theorem dL_marriedTo_7 : decode cL_marriedTo 7 = .ok (.i2l, 1) := by decide +kernel
theorem dL_marriedTo_8 : decode cL_marriedTo 8 = .ok (.lastore, 1) := by decide +kernel
theorem dL_marriedTo_9 : decode cL_marriedTo 9 = .ok (.goto 6, 3) := by decide +kernel
theorem dL_marriedTo_12 : decode cL_marriedTo 12 = .ok (.astore_n 3, 1) := by decide +kernel
theorem dL_marriedTo_13 : decode cL_marriedTo 13 = .ok (.iconst 1, 1) := by decide +kernel
theorem dL_marriedTo_14 : decode cL_marriedTo 14 = .ok (.ireturn, 1) := by decide +kernel
theorem dL_marriedTo_15 : decode cL_marriedTo 15 = .ok (.iconst 0, 1) := by decide +kernel
theorem dL_marriedTo_16 : decode cL_marriedTo 16 = .ok (.ireturn, 1) := by decide +kernel
set_option maxRecDepth 20000 in
theorem ggL_degreeOf_X2_degreeOf : GoodIn wsL_degreeOf wsX2_degreeOf := goodIn_ca (goodIn_r _ [6, 7, 8, 9, 10, 11, 5, 12, 13, 14, 15, 16, 17, 18, 19, 20, 21, 22, 23, 24, 25, 26, 27, 28, 29, 30, 31, 32, 33, 34, 35, 36, 37, 38, 39, 40, 41, 42, 43, 44, 45, 46, 47, 48, 49, 50] (by decide +kernel) (by decide +kernel)) (goodIn_sub (fun _ h => List.mem_cons_of_mem _ (List.mem_append_right _ h)) (by decide +kernel))
set_option maxRecDepth 20000 in
theorem gL_degreeOf_X2_degreeOf : GoodIn wsL_degreeOf (wsV RL 50 RX2 yX2_degreeOf wsX2_degreeOf) := goodIn_app (goodIn_of _ (by decide +kernel)) ggL_degreeOf_X2_degreeOf
theorem dL_degreeOf_0 : decode cL_degreeOf 0 = .ok (.aload_n 3, 1) := by decide +kernel
theorem dL_degreeOf_1 : decode cL_degreeOf 1 = .ok (.iconst 0, 1) := by decide +kernel
theorem dL_degreeOf_2 : decode cL_degreeOf 2 = .ok (.aload_n 0, 1) := by decide +kernel
theorem dL_degreeOf_3 : decode cL_degreeOf 3 = .ok (.iload_n 1, 1) := by decide +kernel
theorem dL_degreeOf_4 : decode cL_degreeOf 4 = .ok (.iload_n 2, 1) := by decide +kernel
theorem dL_degreeOf_5 : decode cL_degreeOf 5 = .ok (.invokevirtual 50, 3) := by decide +kernel
theorem dL_degreeOf_8 : decode cL_degreeOf 8 = .ok (.i2l, 1) := by decide +kernel
theorem dL_degreeOf_9 : decode cL_degreeOf 9 = .ok (.lastore, 1) := by decide +kernel
theorem dL_degreeOf_10 : decode cL_degreeOf 10 = .ok (.goto 7, 3) := by decide +kernel
theorem dL_degreeOf_13 : decode cL_degreeOf 13 = .ok (.astore 4, 2) := by decide +kernel
theorem dL_degreeOf_15 : decode cL_degreeOf 15 = .ok (.iconst 1, 1) := by decide +kernel
theorem dL_degreeOf_16 : decode cL_degreeOf 16 = .ok (.ireturn, 1) := by decide +kernel
theorem dL_degreeOf_17 : decode cL_degreeOf 17 = .ok (.iconst 0, 1) := by decide +kernel
theorem dL_degreeOf_18 : decode cL_degreeOf 18 = .ok (.ireturn, 1) := by decide +kernel
set_option maxRecDepth 20000 in
theorem ggL_kinOf_X2_kinOf : GoodIn wsL_kinOf wsX2_kinOf := goodIn_ca (goodIn_r _ [6, 7, 8, 9, 10, 5, 11, 12, 13, 14, 15, 16, 17, 18, 19, 20, 21, 22, 23, 24, 25, 26, 27, 28, 29, 30, 31, 32, 33, 34, 35, 36, 37, 38, 39, 40, 41, 42, 43, 44, 45, 46, 47, 48, 49, 50, 51, 52, 53, 54, 55, 56, 57, 58] (by decide +kernel) (by decide +kernel)) (goodIn_sub (fun _ h => List.mem_cons_of_mem _ (List.mem_append_right _ h)) (by decide +kernel))
set_option maxRecDepth 20000 in
theorem gL_kinOf_X2_kinOf : GoodIn wsL_kinOf (wsV RL 53 RX2 yX2_kinOf wsX2_kinOf) := goodIn_app (goodIn_of _ (by decide +kernel)) ggL_kinOf_X2_kinOf
theorem dL_kinOf_0 : decode cL_kinOf 0 = .ok (.aload_n 3, 1) := by decide +kernel
theorem dL_kinOf_1 : decode cL_kinOf 1 = .ok (.iconst 0, 1) := by decide +kernel
theorem dL_kinOf_2 : decode cL_kinOf 2 = .ok (.aload_n 0, 1) := by decide +kernel
theorem dL_kinOf_3 : decode cL_kinOf 3 = .ok (.iload_n 1, 1) := by decide +kernel
theorem dL_kinOf_4 : decode cL_kinOf 4 = .ok (.iload_n 2, 1) := by decide +kernel
theorem dL_kinOf_5 : decode cL_kinOf 5 = .ok (.invokevirtual 53, 3) := by decide +kernel
theorem dL_kinOf_8 : decode cL_kinOf 8 = .ok (.i2l, 1) := by decide +kernel
theorem dL_kinOf_9 : decode cL_kinOf 9 = .ok (.lastore, 1) := by decide +kernel
theorem dL_kinOf_10 : decode cL_kinOf 10 = .ok (.goto 7, 3) := by decide +kernel
theorem dL_kinOf_13 : decode cL_kinOf 13 = .ok (.astore 4, 2) := by decide +kernel
theorem dL_kinOf_15 : decode cL_kinOf 15 = .ok (.iconst 1, 1) := by decide +kernel
theorem dL_kinOf_16 : decode cL_kinOf 16 = .ok (.ireturn, 1) := by decide +kernel
theorem dL_kinOf_17 : decode cL_kinOf 17 = .ok (.iconst 0, 1) := by decide +kernel
theorem dL_kinOf_18 : decode cL_kinOf 18 = .ok (.ireturn, 1) := by decide +kernel
set_option maxRecDepth 20000 in
theorem ggL_stageColour_X2_stageColour : GoodIn wsL_stageColour wsX2_stageColour := goodIn_ca (goodIn_r _ [6, 7, 8, 9, 10, 11, 5, 12, 13, 14, 15, 16, 17, 18, 19, 20, 21, 22, 23, 24, 25, 26, 27, 28, 29, 30, 31, 32, 33] (by decide +kernel) (by decide +kernel)) (goodIn_sub (fun _ h => List.mem_cons_of_mem _ (List.mem_append_right _ h)) (by decide +kernel))
set_option maxRecDepth 20000 in
theorem gL_stageColour_X2_stageColour : GoodIn wsL_stageColour (wsV RL 56 RX2 yX2_stageColour wsX2_stageColour) := goodIn_app (goodIn_of _ (by decide +kernel)) ggL_stageColour_X2_stageColour
theorem dL_stageColour_0 : decode cL_stageColour 0 = .ok (.aload_n 3, 1) := by decide +kernel
theorem dL_stageColour_1 : decode cL_stageColour 1 = .ok (.iconst 0, 1) := by decide +kernel
theorem dL_stageColour_2 : decode cL_stageColour 2 = .ok (.aload_n 0, 1) := by decide +kernel
theorem dL_stageColour_3 : decode cL_stageColour 3 = .ok (.iload_n 1, 1) := by decide +kernel
theorem dL_stageColour_4 : decode cL_stageColour 4 = .ok (.iload_n 2, 1) := by decide +kernel
theorem dL_stageColour_5 : decode cL_stageColour 5 = .ok (.invokevirtual 56, 3) := by decide +kernel
theorem dL_stageColour_8 : decode cL_stageColour 8 = .ok (.i2l, 1) := by decide +kernel
theorem dL_stageColour_9 : decode cL_stageColour 9 = .ok (.lastore, 1) := by decide +kernel
theorem dL_stageColour_10 : decode cL_stageColour 10 = .ok (.goto 7, 3) := by decide +kernel
theorem dL_stageColour_13 : decode cL_stageColour 13 = .ok (.astore 4, 2) := by decide +kernel
theorem dL_stageColour_15 : decode cL_stageColour 15 = .ok (.iconst 1, 1) := by decide +kernel
theorem dL_stageColour_16 : decode cL_stageColour 16 = .ok (.ireturn, 1) := by decide +kernel
theorem dL_stageColour_17 : decode cL_stageColour 17 = .ok (.iconst 0, 1) := by decide +kernel
theorem dL_stageColour_18 : decode cL_stageColour 18 = .ok (.ireturn, 1) := by decide +kernel
set_option maxRecDepth 20000 in
theorem ggL_stageDays_X2_stageDays : GoodIn wsL_stageDays wsX2_stageDays := goodIn_ca (goodIn_r _ [6, 7, 8, 9, 10, 11, 5, 12, 13, 14, 15, 16, 17, 18, 19, 20, 21, 22, 23, 24, 25, 26, 27, 28, 29, 30, 31, 32, 33] (by decide +kernel) (by decide +kernel)) (goodIn_sub (fun _ h => List.mem_cons_of_mem _ (List.mem_append_right _ h)) (by decide +kernel))
set_option maxRecDepth 20000 in
theorem gL_stageDays_X2_stageDays : GoodIn wsL_stageDays (wsV RL 59 RX2 yX2_stageDays wsX2_stageDays) := goodIn_app (goodIn_of _ (by decide +kernel)) ggL_stageDays_X2_stageDays
theorem dL_stageDays_0 : decode cL_stageDays 0 = .ok (.aload_n 3, 1) := by decide +kernel
theorem dL_stageDays_1 : decode cL_stageDays 1 = .ok (.iconst 0, 1) := by decide +kernel
theorem dL_stageDays_2 : decode cL_stageDays 2 = .ok (.aload_n 0, 1) := by decide +kernel
theorem dL_stageDays_3 : decode cL_stageDays 3 = .ok (.iload_n 1, 1) := by decide +kernel
theorem dL_stageDays_4 : decode cL_stageDays 4 = .ok (.iload_n 2, 1) := by decide +kernel
theorem dL_stageDays_5 : decode cL_stageDays 5 = .ok (.invokevirtual 59, 3) := by decide +kernel
theorem dL_stageDays_8 : decode cL_stageDays 8 = .ok (.i2l, 1) := by decide +kernel
theorem dL_stageDays_9 : decode cL_stageDays 9 = .ok (.lastore, 1) := by decide +kernel
theorem dL_stageDays_10 : decode cL_stageDays 10 = .ok (.goto 7, 3) := by decide +kernel
theorem dL_stageDays_13 : decode cL_stageDays 13 = .ok (.astore 4, 2) := by decide +kernel
theorem dL_stageDays_15 : decode cL_stageDays 15 = .ok (.iconst 1, 1) := by decide +kernel
theorem dL_stageDays_16 : decode cL_stageDays 16 = .ok (.ireturn, 1) := by decide +kernel
theorem dL_stageDays_17 : decode cL_stageDays 17 = .ok (.iconst 0, 1) := by decide +kernel
theorem dL_stageDays_18 : decode cL_stageDays 18 = .ok (.ireturn, 1) := by decide +kernel
set_option maxRecDepth 20000 in
theorem ggL_colourOf_X2_colourOf : GoodIn wsL_colourOf wsX2_colourOf := goodIn_ca (goodIn_r _ [6, 7, 8, 9, 5, 10, 11, 12, 13, 14, 15, 16, 17, 18, 19, 20, 21, 22, 23, 24, 25, 26, 27, 28, 29, 30, 31, 32, 33, 34, 35, 36, 37, 38, 39, 40, 41, 42, 43, 44, 45, 46, 47, 48, 49, 50, 51, 52, 53, 54, 55] (by decide +kernel) (by decide +kernel)) (goodIn_sub (fun _ h => List.mem_cons_of_mem _ (List.mem_append_right _ h)) (by decide +kernel))
set_option maxRecDepth 20000 in
theorem gL_colourOf_X2_colourOf : GoodIn wsL_colourOf (wsV RL 62 RX2 yX2_colourOf wsX2_colourOf) := goodIn_app (goodIn_of _ (by decide +kernel)) ggL_colourOf_X2_colourOf
theorem dL_colourOf_0 : decode cL_colourOf 0 = .ok (.aload_n 2, 1) := by decide +kernel
theorem dL_colourOf_1 : decode cL_colourOf 1 = .ok (.iconst 0, 1) := by decide +kernel
theorem dL_colourOf_2 : decode cL_colourOf 2 = .ok (.aload_n 0, 1) := by decide +kernel
theorem dL_colourOf_3 : decode cL_colourOf 3 = .ok (.iload_n 1, 1) := by decide +kernel
theorem dL_colourOf_4 : decode cL_colourOf 4 = .ok (.invokevirtual 62, 3) := by decide +kernel
theorem dL_colourOf_7 : decode cL_colourOf 7 = .ok (.i2l, 1) := by decide +kernel
theorem dL_colourOf_8 : decode cL_colourOf 8 = .ok (.lastore, 1) := by decide +kernel
theorem dL_colourOf_9 : decode cL_colourOf 9 = .ok (.goto 6, 3) := by decide +kernel
theorem dL_colourOf_12 : decode cL_colourOf 12 = .ok (.astore_n 3, 1) := by decide +kernel
theorem dL_colourOf_13 : decode cL_colourOf 13 = .ok (.iconst 1, 1) := by decide +kernel
theorem dL_colourOf_14 : decode cL_colourOf 14 = .ok (.ireturn, 1) := by decide +kernel
theorem dL_colourOf_15 : decode cL_colourOf 15 = .ok (.iconst 0, 1) := by decide +kernel
theorem dL_colourOf_16 : decode cL_colourOf 16 = .ok (.ireturn, 1) := by decide +kernel
set_option maxRecDepth 20000 in
theorem ggL_colourIn_X2_colourIn : GoodIn wsL_colourIn wsX2_colourIn := goodIn_ca (goodIn_ca (goodIn_r _ [7, 8, 9, 10, 11, 12, 6, 13, 14, 15, 16, 17, 18, 19, 20, 21, 22, 23, 24, 25, 26, 27, 28, 29, 30, 31, 32, 33, 34, 35, 36, 37, 38, 39, 40, 41, 42, 43, 44, 45, 46, 47, 48, 49, 50, 51, 52, 53, 54, 55, 56, 57, 58] (by decide +kernel) (by decide +kernel)) (goodIn_sub (fun _ h => List.mem_cons_of_mem _ (List.mem_append_left _ (List.mem_append_right _ h))) (by decide +kernel))) (goodIn_sub (fun _ h => List.mem_cons_of_mem _ (List.mem_append_right _ h)) (by decide +kernel))
set_option maxRecDepth 20000 in
theorem gL_colourIn_X2_colourIn : GoodIn wsL_colourIn (wsV RL 65 RX2 yX2_colourIn wsX2_colourIn) := goodIn_app (goodIn_of _ (by decide +kernel)) ggL_colourIn_X2_colourIn
theorem dL_colourIn_0 : decode cL_colourIn 0 = .ok (.aload_n 3, 1) := by decide +kernel
theorem dL_colourIn_1 : decode cL_colourIn 1 = .ok (.iconst 0, 1) := by decide +kernel
theorem dL_colourIn_2 : decode cL_colourIn 2 = .ok (.aload_n 0, 1) := by decide +kernel
theorem dL_colourIn_3 : decode cL_colourIn 3 = .ok (.iload_n 1, 1) := by decide +kernel
theorem dL_colourIn_4 : decode cL_colourIn 4 = .ok (.iload_n 2, 1) := by decide +kernel
theorem dL_colourIn_5 : decode cL_colourIn 5 = .ok (.invokevirtual 65, 3) := by decide +kernel
theorem dL_colourIn_8 : decode cL_colourIn 8 = .ok (.i2l, 1) := by decide +kernel
theorem dL_colourIn_9 : decode cL_colourIn 9 = .ok (.lastore, 1) := by decide +kernel
theorem dL_colourIn_10 : decode cL_colourIn 10 = .ok (.goto 11, 3) := by decide +kernel
theorem dL_colourIn_13 : decode cL_colourIn 13 = .ok (.astore 4, 2) := by decide +kernel
theorem dL_colourIn_15 : decode cL_colourIn 15 = .ok (.iconst 1, 1) := by decide +kernel
theorem dL_colourIn_16 : decode cL_colourIn 16 = .ok (.ireturn, 1) := by decide +kernel
theorem dL_colourIn_17 : decode cL_colourIn 17 = .ok (.astore 4, 2) := by decide +kernel
theorem dL_colourIn_19 : decode cL_colourIn 19 = .ok (.iconst 2, 1) := by decide +kernel
theorem dL_colourIn_20 : decode cL_colourIn 20 = .ok (.ireturn, 1) := by decide +kernel
theorem dL_colourIn_21 : decode cL_colourIn 21 = .ok (.iconst 0, 1) := by decide +kernel
theorem dL_colourIn_22 : decode cL_colourIn 22 = .ok (.ireturn, 1) := by decide +kernel
set_option maxRecDepth 20000 in
theorem ggL_mourningsOf_X2_mourningsOf : GoodIn wsL_mourningsOf wsX2_mourningsOf := goodIn_ca (goodIn_r _ [6, 7, 8, 9, 5, 10, 11, 12, 13, 14, 15, 16, 17, 18, 19, 20, 21, 22, 23, 24, 25, 26, 27, 28, 29, 30, 31, 32, 33, 34, 35, 36, 37, 38, 39, 40, 41, 42, 43, 44, 45, 46, 47, 48, 49, 50, 51, 52, 53, 54, 55, 56, 57, 58] (by decide +kernel) (by decide +kernel)) (goodIn_sub (fun _ h => List.mem_cons_of_mem _ (List.mem_append_right _ h)) (by decide +kernel))
set_option maxRecDepth 20000 in
theorem gL_mourningsOf_X2_mourningsOf : GoodIn wsL_mourningsOf (wsV RL 68 RX2 yX2_mourningsOf wsX2_mourningsOf) := goodIn_app (goodIn_of _ (by decide +kernel)) ggL_mourningsOf_X2_mourningsOf
theorem dL_mourningsOf_0 : decode cL_mourningsOf 0 = .ok (.aload_n 2, 1) := by decide +kernel
theorem dL_mourningsOf_1 : decode cL_mourningsOf 1 = .ok (.iconst 0, 1) := by decide +kernel
theorem dL_mourningsOf_2 : decode cL_mourningsOf 2 = .ok (.aload_n 0, 1) := by decide +kernel
theorem dL_mourningsOf_3 : decode cL_mourningsOf 3 = .ok (.iload_n 1, 1) := by decide +kernel
theorem dL_mourningsOf_4 : decode cL_mourningsOf 4 = .ok (.invokevirtual 68, 3) := by decide +kernel
theorem dL_mourningsOf_7 : decode cL_mourningsOf 7 = .ok (.i2l, 1) := by decide +kernel
theorem dL_mourningsOf_8 : decode cL_mourningsOf 8 = .ok (.lastore, 1) := by decide +kernel
theorem dL_mourningsOf_9 : decode cL_mourningsOf 9 = .ok (.goto 6, 3) := by decide +kernel
theorem dL_mourningsOf_12 : decode cL_mourningsOf 12 = .ok (.astore_n 3, 1) := by decide +kernel
theorem dL_mourningsOf_13 : decode cL_mourningsOf 13 = .ok (.iconst 1, 1) := by decide +kernel
theorem dL_mourningsOf_14 : decode cL_mourningsOf 14 = .ok (.ireturn, 1) := by decide +kernel
theorem dL_mourningsOf_15 : decode cL_mourningsOf 15 = .ok (.iconst 0, 1) := by decide +kernel
theorem dL_mourningsOf_16 : decode cL_mourningsOf 16 = .ok (.ireturn, 1) := by decide +kernel
set_option maxRecDepth 20000 in
theorem ggL_daysLeftFor_X2_daysLeftFor : GoodIn wsL_daysLeftFor wsX2_daysLeftFor := goodIn_ca (goodIn_r _ [6, 7, 8, 9, 5, 10, 11, 12, 13, 14, 15, 16, 17, 18, 19, 20, 21, 22, 23, 24, 25, 26, 27, 28, 29, 30, 31, 32, 33, 34, 35, 36, 37, 38, 39, 40, 41, 42, 43, 44, 45, 46, 47, 48, 49, 50, 51, 52, 53, 54] (by decide +kernel) (by decide +kernel)) (goodIn_sub (fun _ h => List.mem_cons_of_mem _ (List.mem_append_right _ h)) (by decide +kernel))
set_option maxRecDepth 20000 in
theorem gL_daysLeftFor_X2_daysLeftFor : GoodIn wsL_daysLeftFor (wsV RL 71 RX2 yX2_daysLeftFor wsX2_daysLeftFor) := goodIn_app (goodIn_of _ (by decide +kernel)) ggL_daysLeftFor_X2_daysLeftFor
theorem dL_daysLeftFor_0 : decode cL_daysLeftFor 0 = .ok (.aload_n 3, 1) := by decide +kernel
theorem dL_daysLeftFor_1 : decode cL_daysLeftFor 1 = .ok (.iconst 0, 1) := by decide +kernel
theorem dL_daysLeftFor_2 : decode cL_daysLeftFor 2 = .ok (.aload_n 0, 1) := by decide +kernel
theorem dL_daysLeftFor_3 : decode cL_daysLeftFor 3 = .ok (.iload_n 1, 1) := by decide +kernel
theorem dL_daysLeftFor_4 : decode cL_daysLeftFor 4 = .ok (.iload_n 2, 1) := by decide +kernel
theorem dL_daysLeftFor_5 : decode cL_daysLeftFor 5 = .ok (.invokevirtual 71, 3) := by decide +kernel
theorem dL_daysLeftFor_8 : decode cL_daysLeftFor 8 = .ok (.i2l, 1) := by decide +kernel
theorem dL_daysLeftFor_9 : decode cL_daysLeftFor 9 = .ok (.lastore, 1) := by decide +kernel
theorem dL_daysLeftFor_10 : decode cL_daysLeftFor 10 = .ok (.goto 7, 3) := by decide +kernel
theorem dL_daysLeftFor_13 : decode cL_daysLeftFor 13 = .ok (.astore 4, 2) := by decide +kernel
theorem dL_daysLeftFor_15 : decode cL_daysLeftFor 15 = .ok (.iconst 1, 1) := by decide +kernel
theorem dL_daysLeftFor_16 : decode cL_daysLeftFor 16 = .ok (.ireturn, 1) := by decide +kernel
theorem dL_daysLeftFor_17 : decode cL_daysLeftFor 17 = .ok (.iconst 0, 1) := by decide +kernel
theorem dL_daysLeftFor_18 : decode cL_daysLeftFor 18 = .ok (.ireturn, 1) := by decide +kernel
set_option maxRecDepth 20000 in
theorem ggL_daysLeft_X2_daysLeft : GoodIn wsL_daysLeft wsX2_daysLeft := goodIn_ca (goodIn_r _ [6, 7, 8, 9, 5, 10, 11, 12, 13, 14, 15, 16, 17, 18, 19, 20, 21, 22, 23, 24, 25, 26, 27, 28, 29, 30, 31, 32, 33, 34, 35, 36, 37, 38, 39, 40, 41, 42, 43, 44, 45, 46, 47, 48, 49, 50, 51, 52, 53, 54, 55, 56, 57, 58] (by decide +kernel) (by decide +kernel)) (goodIn_sub (fun _ h => List.mem_cons_of_mem _ (List.mem_append_right _ h)) (by decide +kernel))
set_option maxRecDepth 20000 in
theorem gL_daysLeft_X2_daysLeft : GoodIn wsL_daysLeft (wsV RL 74 RX2 yX2_daysLeft wsX2_daysLeft) := goodIn_app (goodIn_of _ (by decide +kernel)) ggL_daysLeft_X2_daysLeft
theorem dL_daysLeft_0 : decode cL_daysLeft 0 = .ok (.aload_n 2, 1) := by decide +kernel
theorem dL_daysLeft_1 : decode cL_daysLeft 1 = .ok (.iconst 0, 1) := by decide +kernel
theorem dL_daysLeft_2 : decode cL_daysLeft 2 = .ok (.aload_n 0, 1) := by decide +kernel
theorem dL_daysLeft_3 : decode cL_daysLeft 3 = .ok (.iload_n 1, 1) := by decide +kernel
theorem dL_daysLeft_4 : decode cL_daysLeft 4 = .ok (.invokevirtual 74, 3) := by decide +kernel
theorem dL_daysLeft_7 : decode cL_daysLeft 7 = .ok (.i2l, 1) := by decide +kernel
theorem dL_daysLeft_8 : decode cL_daysLeft 8 = .ok (.lastore, 1) := by decide +kernel
theorem dL_daysLeft_9 : decode cL_daysLeft 9 = .ok (.goto 6, 3) := by decide +kernel
theorem dL_daysLeft_12 : decode cL_daysLeft 12 = .ok (.astore_n 3, 1) := by decide +kernel
theorem dL_daysLeft_13 : decode cL_daysLeft 13 = .ok (.iconst 1, 1) := by decide +kernel
theorem dL_daysLeft_14 : decode cL_daysLeft 14 = .ok (.ireturn, 1) := by decide +kernel
theorem dL_daysLeft_15 : decode cL_daysLeft 15 = .ok (.iconst 0, 1) := by decide +kernel
theorem dL_daysLeft_16 : decode cL_daysLeft 16 = .ok (.ireturn, 1) := by decide +kernel
set_option maxRecDepth 20000 in
theorem ggL_daysUntilLighter_X2_daysUntilLighter : GoodIn wsL_daysUntilLighter wsX2_daysUntilLighter := goodIn_ca (goodIn_r _ [6, 7, 8, 9, 5, 10, 11, 12, 13, 14, 15, 16, 17, 18, 19, 20, 21, 22, 23, 24, 25, 26, 27, 28, 29, 30, 31, 32, 33, 34, 35, 36, 37, 38, 39, 40, 41, 42, 43, 44, 45, 46, 47, 48, 49, 50, 51, 52, 53, 54, 55, 56, 57, 58, 59, 60, 61, 62, 63, 64, 65, 66, 67, 68, 69, 70, 71, 72, 73, 74, 75] (by decide +kernel) (by decide +kernel)) (goodIn_sub (fun _ h => List.mem_cons_of_mem _ (List.mem_append_right _ h)) (by decide +kernel))
set_option maxRecDepth 20000 in
theorem gL_daysUntilLighter_X2_daysUntilLighter : GoodIn wsL_daysUntilLighter (wsV RL 77 RX2 yX2_daysUntilLighter wsX2_daysUntilLighter) := goodIn_app (goodIn_of _ (by decide +kernel)) ggL_daysUntilLighter_X2_daysUntilLighter
theorem dL_daysUntilLighter_0 : decode cL_daysUntilLighter 0 = .ok (.aload_n 2, 1) := by decide +kernel
theorem dL_daysUntilLighter_1 : decode cL_daysUntilLighter 1 = .ok (.iconst 0, 1) := by decide +kernel
theorem dL_daysUntilLighter_2 : decode cL_daysUntilLighter 2 = .ok (.aload_n 0, 1) := by decide +kernel
theorem dL_daysUntilLighter_3 : decode cL_daysUntilLighter 3 = .ok (.iload_n 1, 1) := by decide +kernel
theorem dL_daysUntilLighter_4 : decode cL_daysUntilLighter 4 = .ok (.invokevirtual 77, 3) := by decide +kernel
theorem dL_daysUntilLighter_7 : decode cL_daysUntilLighter 7 = .ok (.i2l, 1) := by decide +kernel
theorem dL_daysUntilLighter_8 : decode cL_daysUntilLighter 8 = .ok (.lastore, 1) := by decide +kernel
theorem dL_daysUntilLighter_9 : decode cL_daysUntilLighter 9 = .ok (.goto 6, 3) := by decide +kernel
theorem dL_daysUntilLighter_12 : decode cL_daysUntilLighter 12 = .ok (.astore_n 3, 1) := by decide +kernel
theorem dL_daysUntilLighter_13 : decode cL_daysUntilLighter 13 = .ok (.iconst 1, 1) := by decide +kernel
theorem dL_daysUntilLighter_14 : decode cL_daysUntilLighter 14 = .ok (.ireturn, 1) := by decide +kernel
theorem dL_daysUntilLighter_15 : decode cL_daysUntilLighter 15 = .ok (.iconst 0, 1) := by decide +kernel
theorem dL_daysUntilLighter_16 : decode cL_daysUntilLighter 16 = .ok (.ireturn, 1) := by decide +kernel
set_option maxRecDepth 20000 in
theorem ggL_daysIn_X2_daysIn : GoodIn wsL_daysIn wsX2_daysIn := goodIn_ca (goodIn_r _ [6, 7, 8, 9, 10, 11, 5, 12, 13, 14, 15, 16, 17, 18, 19, 20, 21, 22, 23, 24, 25, 26, 27, 28, 29, 30, 31, 32, 33, 34, 35, 36, 37, 38, 39, 40, 41, 42, 43, 44, 45, 46, 47, 48, 49, 50, 51, 52, 53, 54, 55, 56, 57, 58, 59, 60, 61, 62, 63, 64, 65, 66, 67, 68, 69, 70, 71, 72, 73, 74, 75] (by decide +kernel) (by decide +kernel)) (goodIn_sub (fun _ h => List.mem_cons_of_mem _ (List.mem_append_right _ h)) (by decide +kernel))
set_option maxRecDepth 20000 in
theorem gL_daysIn_X2_daysIn : GoodIn wsL_daysIn (wsV RL 80 RX2 yX2_daysIn wsX2_daysIn) := goodIn_app (goodIn_of _ (by decide +kernel)) ggL_daysIn_X2_daysIn
theorem dL_daysIn_0 : decode cL_daysIn 0 = .ok (.aload_n 3, 1) := by decide +kernel
theorem dL_daysIn_1 : decode cL_daysIn 1 = .ok (.iconst 0, 1) := by decide +kernel
theorem dL_daysIn_2 : decode cL_daysIn 2 = .ok (.aload_n 0, 1) := by decide +kernel
theorem dL_daysIn_3 : decode cL_daysIn 3 = .ok (.iload_n 1, 1) := by decide +kernel
theorem dL_daysIn_4 : decode cL_daysIn 4 = .ok (.iload_n 2, 1) := by decide +kernel
theorem dL_daysIn_5 : decode cL_daysIn 5 = .ok (.invokevirtual 80, 3) := by decide +kernel
theorem dL_daysIn_8 : decode cL_daysIn 8 = .ok (.i2l, 1) := by decide +kernel
theorem dL_daysIn_9 : decode cL_daysIn 9 = .ok (.lastore, 1) := by decide +kernel
theorem dL_daysIn_10 : decode cL_daysIn 10 = .ok (.goto 7, 3) := by decide +kernel
theorem dL_daysIn_13 : decode cL_daysIn 13 = .ok (.astore 4, 2) := by decide +kernel
theorem dL_daysIn_15 : decode cL_daysIn 15 = .ok (.iconst 1, 1) := by decide +kernel
theorem dL_daysIn_16 : decode cL_daysIn 16 = .ok (.ireturn, 1) := by decide +kernel
theorem dL_daysIn_17 : decode cL_daysIn 17 = .ok (.iconst 0, 1) := by decide +kernel
theorem dL_daysIn_18 : decode cL_daysIn 18 = .ok (.ireturn, 1) := by decide +kernel
set_option maxRecDepth 20000 in
theorem ggL_wearing_X2_wearing : GoodIn wsL_wearing wsX2_wearing := goodIn_ca (goodIn_r _ [6, 7, 8, 9, 10, 11, 5, 12, 13, 14, 15, 16, 17, 18, 19, 20, 21, 22, 23, 24, 25, 26, 27, 28, 29, 30, 31, 32, 33, 34, 35, 36, 37, 38, 39, 40, 41, 42, 43, 44, 45, 46, 47, 48, 49, 50, 51, 52, 53, 54, 55, 56] (by decide +kernel) (by decide +kernel)) (goodIn_sub (fun _ h => List.mem_cons_of_mem _ (List.mem_append_right _ h)) (by decide +kernel))
set_option maxRecDepth 20000 in
theorem gL_wearing_X2_wearing : GoodIn wsL_wearing (wsV RL 83 RX2 yX2_wearing wsX2_wearing) := goodIn_app (goodIn_of _ (by decide +kernel)) ggL_wearing_X2_wearing
theorem dL_wearing_0 : decode cL_wearing 0 = .ok (.aload_n 2, 1) := by decide +kernel
theorem dL_wearing_1 : decode cL_wearing 1 = .ok (.iconst 0, 1) := by decide +kernel
theorem dL_wearing_2 : decode cL_wearing 2 = .ok (.aload_n 0, 1) := by decide +kernel
theorem dL_wearing_3 : decode cL_wearing 3 = .ok (.iload_n 1, 1) := by decide +kernel
theorem dL_wearing_4 : decode cL_wearing 4 = .ok (.invokevirtual 83, 3) := by decide +kernel
theorem dL_wearing_7 : decode cL_wearing 7 = .ok (.i2l, 1) := by decide +kernel
theorem dL_wearing_8 : decode cL_wearing 8 = .ok (.lastore, 1) := by decide +kernel
theorem dL_wearing_9 : decode cL_wearing 9 = .ok (.goto 6, 3) := by decide +kernel
theorem dL_wearing_12 : decode cL_wearing 12 = .ok (.astore_n 3, 1) := by decide +kernel
theorem dL_wearing_13 : decode cL_wearing 13 = .ok (.iconst 1, 1) := by decide +kernel
theorem dL_wearing_14 : decode cL_wearing 14 = .ok (.ireturn, 1) := by decide +kernel
theorem dL_wearing_15 : decode cL_wearing 15 = .ok (.iconst 0, 1) := by decide +kernel
theorem dL_wearing_16 : decode cL_wearing 16 = .ok (.ireturn, 1) := by decide +kernel
set_option maxRecDepth 20000 in
theorem ggL_wouldMourn_X2_wouldMourn : GoodIn wsL_wouldMourn wsX2_wouldMourn := goodIn_ca (goodIn_ca (goodIn_r _ [7, 8, 9, 10, 11, 12, 6, 13, 14, 15, 16, 17, 18, 19, 20, 21, 22, 23, 24, 25, 26, 27, 28, 29, 30, 31, 32, 33, 34, 35, 36, 37, 38, 39, 40, 41, 42, 43, 44, 45, 46, 47, 48, 49, 50, 51, 52, 53, 54, 55, 56, 57, 58, 59, 60, 61, 62, 63, 64, 65, 66, 67, 68, 69, 70, 71, 72, 73, 74] (by decide +kernel) (by decide +kernel)) (goodIn_sub (fun _ h => List.mem_cons_of_mem _ (List.mem_append_left _ (List.mem_append_right _ h))) (by decide +kernel))) (goodIn_sub (fun _ h => List.mem_cons_of_mem _ (List.mem_append_right _ h)) (by decide +kernel))
set_option maxRecDepth 20000 in
theorem gL_wouldMourn_X2_wouldMourn : GoodIn wsL_wouldMourn (wsV RL 86 RX2 yX2_wouldMourn wsX2_wouldMourn) := goodIn_app (goodIn_of _ (by decide +kernel)) ggL_wouldMourn_X2_wouldMourn
theorem dL_wouldMourn_0 : decode cL_wouldMourn 0 = .ok (.aload_n 2, 1) := by decide +kernel
theorem dL_wouldMourn_1 : decode cL_wouldMourn 1 = .ok (.iconst 0, 1) := by decide +kernel
theorem dL_wouldMourn_2 : decode cL_wouldMourn 2 = .ok (.aload_n 0, 1) := by decide +kernel
theorem dL_wouldMourn_3 : decode cL_wouldMourn 3 = .ok (.iload_n 1, 1) := by decide +kernel
theorem dL_wouldMourn_4 : decode cL_wouldMourn 4 = .ok (.invokevirtual 86, 3) := by decide +kernel
theorem dL_wouldMourn_7 : decode cL_wouldMourn 7 = .ok (.i2l, 1) := by decide +kernel
theorem dL_wouldMourn_8 : decode cL_wouldMourn 8 = .ok (.lastore, 1) := by decide +kernel
theorem dL_wouldMourn_9 : decode cL_wouldMourn 9 = .ok (.goto 9, 3) := by decide +kernel
theorem dL_wouldMourn_12 : decode cL_wouldMourn 12 = .ok (.astore_n 3, 1) := by decide +kernel
theorem dL_wouldMourn_13 : decode cL_wouldMourn 13 = .ok (.iconst 1, 1) := by decide +kernel
theorem dL_wouldMourn_14 : decode cL_wouldMourn 14 = .ok (.ireturn, 1) := by decide +kernel
theorem dL_wouldMourn_15 : decode cL_wouldMourn 15 = .ok (.astore_n 3, 1) := by decide +kernel
theorem dL_wouldMourn_16 : decode cL_wouldMourn 16 = .ok (.iconst 2, 1) := by decide +kernel
theorem dL_wouldMourn_17 : decode cL_wouldMourn 17 = .ok (.ireturn, 1) := by decide +kernel
theorem dL_wouldMourn_18 : decode cL_wouldMourn 18 = .ok (.iconst 0, 1) := by decide +kernel
theorem dL_wouldMourn_19 : decode cL_wouldMourn 19 = .ok (.ireturn, 1) := by decide +kernel
set_option maxRecDepth 20000 in
theorem ggL_wouldWear_X2_wouldWear : GoodIn wsL_wouldWear wsX2_wouldWear := goodIn_ca (goodIn_ca (goodIn_ca (goodIn_r _ [8, 9, 10, 11, 12, 13, 14, 15, 16, 17, 18, 7, 19, 20, 21, 22, 23, 24, 25, 26, 27, 28, 29, 30, 31, 32, 33, 34, 35, 36, 37, 38, 39, 40, 41, 42, 43, 44, 45, 46, 47, 48, 49, 50, 51, 52, 53, 54, 55, 56, 57, 58, 59, 60, 61, 62, 63, 64, 65, 66, 67, 68, 69, 70, 71, 72, 73, 74, 75, 76, 77, 78, 79, 80, 81, 82, 83, 84, 85, 86, 87, 88, 89, 90, 91, 92] (by decide +kernel) (by decide +kernel)) (goodIn_sub (fun _ h => List.mem_cons_of_mem _ (List.mem_append_left _ (List.mem_append_left _ (List.mem_append_right _ h)))) (by decide +kernel))) (goodIn_sub (fun _ h => List.mem_cons_of_mem _ (List.mem_append_left _ (List.mem_append_right _ h))) (by decide +kernel))) (goodIn_sub (fun _ h => List.mem_cons_of_mem _ (List.mem_append_right _ h)) (by decide +kernel))
set_option maxRecDepth 20000 in
theorem gL_wouldWear_X2_wouldWear : GoodIn wsL_wouldWear (wsV RL 89 RX2 yX2_wouldWear wsX2_wouldWear) := goodIn_app (goodIn_of _ (by decide +kernel)) ggL_wouldWear_X2_wouldWear
theorem dL_wouldWear_0 : decode cL_wouldWear 0 = .ok (.aload_n 3, 1) := by decide +kernel
theorem dL_wouldWear_1 : decode cL_wouldWear 1 = .ok (.iconst 0, 1) := by decide +kernel
theorem dL_wouldWear_2 : decode cL_wouldWear 2 = .ok (.aload_n 0, 1) := by decide +kernel
theorem dL_wouldWear_3 : decode cL_wouldWear 3 = .ok (.iload_n 1, 1) := by decide +kernel
theorem dL_wouldWear_4 : decode cL_wouldWear 4 = .ok (.iload_n 2, 1) := by decide +kernel
theorem dL_wouldWear_5 : decode cL_wouldWear 5 = .ok (.invokevirtual 89, 3) := by decide +kernel
theorem dL_wouldWear_8 : decode cL_wouldWear 8 = .ok (.i2l, 1) := by decide +kernel
theorem dL_wouldWear_9 : decode cL_wouldWear 9 = .ok (.lastore, 1) := by decide +kernel
theorem dL_wouldWear_10 : decode cL_wouldWear 10 = .ok (.goto 15, 3) := by decide +kernel
theorem dL_wouldWear_13 : decode cL_wouldWear 13 = .ok (.astore 4, 2) := by decide +kernel
theorem dL_wouldWear_15 : decode cL_wouldWear 15 = .ok (.iconst 1, 1) := by decide +kernel
theorem dL_wouldWear_16 : decode cL_wouldWear 16 = .ok (.ireturn, 1) := by decide +kernel
theorem dL_wouldWear_17 : decode cL_wouldWear 17 = .ok (.astore 4, 2) := by decide +kernel
theorem dL_wouldWear_19 : decode cL_wouldWear 19 = .ok (.iconst 2, 1) := by decide +kernel
theorem dL_wouldWear_20 : decode cL_wouldWear 20 = .ok (.ireturn, 1) := by decide +kernel
theorem dL_wouldWear_21 : decode cL_wouldWear 21 = .ok (.astore 4, 2) := by decide +kernel
theorem dL_wouldWear_23 : decode cL_wouldWear 23 = .ok (.iconst 3, 1) := by decide +kernel
theorem dL_wouldWear_24 : decode cL_wouldWear 24 = .ok (.ireturn, 1) := by decide +kernel
theorem dL_wouldWear_25 : decode cL_wouldWear 25 = .ok (.iconst 0, 1) := by decide +kernel
theorem dL_wouldWear_26 : decode cL_wouldWear 26 = .ok (.ireturn, 1) := by decide +kernel
set_option maxRecDepth 20000 in
theorem ggL_law_X2_init : GoodIn wsL_law wsX2_init := goodIn_r _ [9, 10, 11, 12, 13, 14, 15, 16, 17, 18, 19, 20, 21, 22, 23, 24, 25, 26, 27, 28, 29, 30, 31, 32, 33, 34, 35, 36, 37, 38, 39, 766, 767, 768, 769, 770, 745, 746, 747, 748, 749, 750, 751, 752, 753, 771, 772] (by decide +kernel) (by decide +kernel)
set_option maxRecDepth 20000 in
theorem gL_law_X2_init : GoodIn wsL_law (wsX2_init) := ggL_law_X2_init
set_option maxRecDepth 20000 in
theorem ggL_law_X3_init : GoodIn wsL_law wsX3_init := goodIn_r _ [42, 43, 11, 12, 21, 44, 45, 32, 46, 47, 48, 49, 50, 51, 754, 755, 756, 757, 758, 759, 760, 761, 762, 763, 764, 765] (by decide +kernel) (by decide +kernel)
set_option maxRecDepth 20000 in
theorem gL_law_X3_init : GoodIn wsL_law (wsX3_init) := ggL_law_X3_init
set_option maxRecDepth 20000 in
theorem ggL_law_L_addPerson : GoodIn wsL_law wsL_addPerson := goodIn_ca (goodIn_r _ [55, 56, 57, 58, 59, 2, 60, 16, 61, 62, 63, 64, 65, 66, 67, 68, 69, 15, 70, 71, 72, 73, 74, 75, 30, 31, 33, 745, 746, 747, 748, 749, 750, 751, 752, 753, 766, 767, 768, 769, 770] (by decide +kernel) (by decide +kernel)) (goodIn_sub (fun _ h => List.mem_append_left _ (List.mem_append_left _ (List.mem_append_right _ h))) (by decide +kernel))
set_option maxRecDepth 20000 in
theorem gL_law_L_addPerson : GoodIn wsL_law (va_wsS RL 96 yL_addPerson wsL_addPerson) := goodIn_app (goodIn_of _ (by decide +kernel)) ggL_law_L_addPerson
set_option maxRecDepth 20000 in
theorem ggL_law_X3_addPerson : GoodIn wsL_law wsX3_addPerson := goodIn_r _ [79, 80, 81, 82, 83, 84, 5, 85, 86, 87, 88, 89, 44, 45, 46, 754, 755, 756, 757, 758, 759, 760, 761, 762, 763, 764, 765] (by decide +kernel) (by decide +kernel)
set_option maxRecDepth 20000 in
theorem gL_law_X3_addPerson : GoodIn wsL_law (wsV RL 101 RX3 yX3_addPerson wsX3_addPerson) := goodIn_app (goodIn_of _ (by decide +kernel)) ggL_law_X3_addPerson
set_option maxRecDepth 20000 in
theorem ggL_law_X3_thrown : GoodIn wsL_law wsX3_thrown := goodIn_r _ [93, 80, 754, 755, 756, 757, 758, 759, 760, 761, 762, 763, 764, 765] (by decide +kernel) (by decide +kernel)
set_option maxRecDepth 20000 in
theorem gL_law_X3_thrown : GoodIn wsL_law (wsV RL 102 RX3 yX3_thrown wsX3_thrown) := goodIn_app (goodIn_of _ (by decide +kernel)) ggL_law_X3_thrown
set_option maxRecDepth 20000 in
theorem ggL_law_L_addChild : GoodIn wsL_law wsL_addChild := goodIn_ca (goodIn_ca (goodIn_r _ [96, 97, 56, 98, 99, 100, 2, 101, 16, 102, 103, 104, 105, 106, 107, 108, 109, 110, 111, 112, 65, 66, 113, 61, 62, 63, 64, 67, 68, 69, 15, 70, 71, 72, 73, 74, 75, 30, 31, 33, 745, 746, 747, 748, 749, 750, 751, 752, 753, 766, 767, 768, 769, 770] (by decide +kernel) (by decide +kernel)) (goodIn_sub (fun _ h => List.mem_append_left _ (List.mem_append_right _ h)) (by decide +kernel))) (goodIn_sub (fun _ h => List.mem_append_left _ (List.mem_append_left _ (List.mem_append_right _ h))) (by decide +kernel))
set_option maxRecDepth 20000 in
theorem gL_law_L_addChild : GoodIn wsL_law (va_wsS RL 105 yL_addChild wsL_addChild) := goodIn_app (goodIn_of _ (by decide +kernel)) ggL_law_L_addChild
set_option maxRecDepth 20000 in
theorem ggL_law_X3_addChild : GoodIn wsL_law wsX3_addChild := goodIn_r _ [117, 80, 81, 46, 118, 119, 120, 5, 121, 122, 123, 124, 82, 83, 84, 85, 86, 87, 88, 89, 44, 45, 754, 755, 756, 757, 758, 759, 760, 761, 762, 763, 764, 765] (by decide +kernel) (by decide +kernel)
set_option maxRecDepth 20000 in
theorem gL_law_X3_addChild : GoodIn wsL_law (wsV RL 108 RX3 yX3_addChild wsX3_addChild) := goodIn_app (goodIn_of _ (by decide +kernel)) ggL_law_X3_addChild
set_option maxRecDepth 20000 in
theorem ggL_law_L_marry : GoodIn wsL_law wsL_marry := goodIn_ca (goodIn_ca (goodIn_ca (goodIn_r _ [127, 97, 128, 56, 129, 130, 131, 2, 132, 65, 66, 16, 133, 102, 103, 104, 105, 106, 107, 108, 134, 135, 136, 137, 138, 139, 109, 110, 111, 112, 113, 140, 141, 142, 15, 143, 31, 33, 144, 145, 146, 147, 34, 71, 148, 149, 150, 151, 152, 153, 154, 155, 156, 157, 158, 159, 30, 160, 161, 162, 163, 164, 165, 166, 167, 745, 746, 747, 748, 749, 750, 751, 752, 753, 766, 767, 768, 769, 770] (by decide +kernel) (by decide +kernel)) (goodIn_sub (fun _ h => List.mem_append_left _ (List.mem_append_left _ (List.mem_append_right _ h))) (by decide +kernel))) (goodIn_sub (fun _ h => List.mem_append_left _ (List.mem_append_right _ h)) (by decide +kernel))) (goodIn_sub (fun _ h => List.mem_append_right _ h) (by decide +kernel))
set_option maxRecDepth 20000 in
theorem gL_law_L_marry : GoodIn wsL_law (va_wsS RL 109 yL_marry wsL_marry) := goodIn_app (goodIn_of _ (by decide +kernel)) ggL_law_L_marry
set_option maxRecDepth 20000 in
theorem ggL_law_X3_marry : GoodIn wsL_law wsX3_marry := goodIn_r _ [171, 80, 45, 118, 119, 120, 5, 121, 81, 122, 123, 124, 82, 83, 84, 85, 172, 173, 174, 175, 46, 176, 177, 178, 179, 50, 180, 181, 182, 183, 184, 185, 186, 187, 188, 189, 190, 191, 44, 192, 193, 194, 195, 754, 755, 756, 757, 758, 759, 760, 761, 762, 763, 764, 765] (by decide +kernel) (by decide +kernel)
set_option maxRecDepth 20000 in
theorem gL_law_X3_marry : GoodIn wsL_law (wsV RL 112 RX3 yX3_marry wsX3_marry) := goodIn_app (goodIn_of _ (by decide +kernel)) ggL_law_X3_marry
set_option maxRecDepth 20000 in
theorem ggL_law_L_setStage : GoodIn wsL_law wsL_setStage := goodIn_ca (goodIn_ca (goodIn_r _ [198, 97, 128, 199, 200, 201, 2, 202, 138, 139, 20, 203, 204, 205, 206, 207, 208, 106, 107, 209, 210, 211, 212, 213, 214, 19, 215, 216, 217, 218, 219, 39, 220, 745, 746, 747, 748, 749, 750, 751, 752, 753, 771, 772] (by decide +kernel) (by decide +kernel)) (goodIn_sub (fun _ h => List.mem_append_right _ h) (by decide +kernel))) (goodIn_sub (fun _ h => List.mem_append_left _ (List.mem_append_right _ h)) (by decide +kernel))
