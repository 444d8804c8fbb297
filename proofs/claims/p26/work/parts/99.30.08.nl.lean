set_option maxRecDepth 20000 in
theorem ggL_texts_X2_page : GoodIn wsL_texts wsX2_page := goodIn_ca (goodIn_ca (goodIn_r _ [288, 151, 152, 91, 92, 40, 153, 154, 24, 155, 289, 290, 291, 39, 292, 55, 56, 57, 58, 59, 293, 233, 234, 235, 236, 237, 238, 239, 404, 405, 406, 407, 408, 409, 410, 411, 412, 413, 414, 415, 416, 417, 418, 419, 420, 421, 422, 423, 424, 425, 426, 427] rfl (by decide +kernel)) (goodIn_sub (fun _ h => List.mem_cons_of_mem _ (List.mem_append_right _ h)) (by decide +kernel))) (goodIn_sub (fun _ h => List.mem_cons_of_mem _ (List.mem_append_left _ (List.mem_append_left _ (List.mem_append_right _ h)))) (by decide +kernel))
set_option maxRecDepth 20000 in
theorem gL_texts_X2_page : GoodIn wsL_texts (wsV RL 45 RX2 yX2_page wsX2_page) := goodIn_app (goodIn_of _ (by decide +kernel)) ggL_texts_X2_page
set_option maxRecDepth 20000 in
theorem ggL_texts_X2_undo : GoodIn wsL_texts wsX2_undo := goodIn_ca (goodIn_r _ [284, 93, 94, 43, 40, 42, 404, 405, 406, 407, 408, 409, 410] rfl (by decide +kernel)) (goodIn_sub (fun _ h => List.mem_cons_of_mem _ (List.mem_append_left _ (List.mem_append_right _ h))) (by decide +kernel))
set_option maxRecDepth 20000 in
theorem gL_texts_X2_undo : GoodIn wsL_texts (wsV RL 42 RX2 yX2_undo wsX2_undo) := goodIn_app (goodIn_of _ (by decide +kernel)) ggL_texts_X2_undo
set_option maxRecDepth 20000 in
theorem ggL_texts_X2_append : GoodIn wsL_texts wsX2_append := goodIn_ca (goodIn_ca (goodIn_r _ [90, 91, 92, 93, 94, 46, 45, 404, 405, 406, 407, 408, 409, 410] rfl (by decide +kernel)) (goodIn_sub (fun _ h => List.mem_cons_of_mem _ (List.mem_append_left _ (List.mem_append_left _ (List.mem_append_right _ h)))) (by decide +kernel))) (goodIn_sub (fun _ h => List.mem_cons_of_mem _ (List.mem_append_left _ (List.mem_append_right _ h))) (by decide +kernel))
set_option maxRecDepth 20000 in
theorem gL_texts_X2_append : GoodIn wsL_texts (wsV RL 35 RX2 yX2_append wsX2_append) := goodIn_app (goodIn_of _ (by decide +kernel)) ggL_texts_X2_append
set_option maxRecDepth 20000 in
theorem ggL_texts_X2_firstError : GoodIn wsL_texts wsX2_firstError := goodIn_r _ [98, 99, 100, 101, 24, 102, 50, 46, 45, 103, 104, 105, 49, 106, 79, 107, 108, 109, 110, 80, 111, 112, 113, 114, 81, 82, 115, 116, 117, 118, 119, 120, 121, 122, 123, 124, 125, 126, 127, 128, 129, 130, 131, 132, 133, 134, 135, 136, 137, 404, 405, 406, 407, 408, 409, 410, 428, 429, 430, 431] rfl (by decide +kernel)
set_option maxRecDepth 20000 in
theorem gL_texts_X2_firstError : GoodIn wsL_texts (wsV RL 117 RX2 yX2_firstError wsX2_firstError) := goodIn_app (goodIn_of _ (by decide +kernel)) ggL_texts_X2_firstError
theorem dL_texts_0 : decode cL_texts 0 = .ok (.lconst 0, 1) := by decide +kernel
theorem dL_texts_1 : decode cL_texts 1 = .ok (.invokestatic 120, 3) := by decide +kernel
theorem dL_texts_4 : decode cL_texts 4 = .ok (.ifCond .ne 103, 3) := by decide +kernel
theorem dL_texts_7 : decode cL_texts 7 = .ok (.ldc2_w 124, 3) := by decide +kernel
theorem dL_texts_10 : decode cL_texts 10 = .ok (.invokestatic 120, 3) := by decide +kernel
theorem dL_texts_13 : decode cL_texts 13 = .ok (.iconst 2, 1) := by decide +kernel
theorem dL_texts_14 : decode cL_texts 14 = .ok (.if_icmp .ne 93, 3) := by decide +kernel
theorem dL_texts_17 : decode cL_texts 17 = .ok (.ldc2_w 126, 3) := by decide +kernel
theorem dL_texts_20 : decode cL_texts 20 = .ok (.invokestatic 120, 3) := by decide +kernel
theorem dL_texts_23 : decode cL_texts 23 = .ok (.iconst 2, 1) := by decide +kernel
theorem dL_texts_24 : decode cL_texts 24 = .ok (.if_icmp .ne 83, 3) := by decide +kernel
theorem dL_texts_27 : decode cL_texts 27 = .ok (.ldc2_w 128, 3) := by decide +kernel
theorem dL_texts_30 : decode cL_texts 30 = .ok (.invokestatic 120, 3) := by decide +kernel
theorem dL_texts_33 : decode cL_texts 33 = .ok (.iconst 2, 1) := by decide +kernel
theorem dL_texts_34 : decode cL_texts 34 = .ok (.if_icmp .ne 73, 3) := by decide +kernel
theorem dL_texts_37 : decode cL_texts 37 = .ok (.ldc2_w 130, 3) := by decide +kernel
theorem dL_texts_40 : decode cL_texts 40 = .ok (.invokestatic 120, 3) := by decide +kernel
theorem dL_texts_43 : decode cL_texts 43 = .ok (.iconst 3, 1) := by decide +kernel
theorem dL_texts_44 : decode cL_texts 44 = .ok (.if_icmp .ne 63, 3) := by decide +kernel
theorem dL_texts_47 : decode cL_texts 47 = .ok (.ldc2_w 132, 3) := by decide +kernel
theorem dL_texts_50 : decode cL_texts 50 = .ok (.invokestatic 120, 3) := by decide +kernel
theorem dL_texts_53 : decode cL_texts 53 = .ok (.iconst 3, 1) := by decide +kernel
theorem dL_texts_54 : decode cL_texts 54 = .ok (.if_icmp .ne 53, 3) := by decide +kernel
theorem dL_texts_57 : decode cL_texts 57 = .ok (.ldc2_w 134, 3) := by decide +kernel
theorem dL_texts_60 : decode cL_texts 60 = .ok (.invokestatic 120, 3) := by decide +kernel
theorem dL_texts_63 : decode cL_texts 63 = .ok (.iconst 4, 1) := by decide +kernel
theorem dL_texts_64 : decode cL_texts 64 = .ok (.if_icmp .ne 43, 3) := by decide +kernel
theorem dL_texts_67 : decode cL_texts 67 = .ok (.ldc2_w 136, 3) := by decide +kernel
theorem dL_texts_70 : decode cL_texts 70 = .ok (.invokestatic 120, 3) := by decide +kernel
theorem dL_texts_73 : decode cL_texts 73 = .ok (.iconst 4, 1) := by decide +kernel
theorem dL_texts_74 : decode cL_texts 74 = .ok (.if_icmp .ne 33, 3) := by decide +kernel
theorem dL_texts_77 : decode cL_texts 77 = .ok (.ldc2_w 138, 3) := by decide +kernel
theorem dL_texts_80 : decode cL_texts 80 = .ok (.invokestatic 120, 3) := by decide +kernel
theorem dL_texts_83 : decode cL_texts 83 = .ok (.iconst 4, 1) := by decide +kernel
theorem dL_texts_84 : decode cL_texts 84 = .ok (.if_icmp .ne 23, 3) := by decide +kernel
theorem dL_texts_87 : decode cL_texts 87 = .ok (.ldc2_w 140, 3) := by decide +kernel
theorem dL_texts_90 : decode cL_texts 90 = .ok (.invokestatic 120, 3) := by decide +kernel
theorem dL_texts_93 : decode cL_texts 93 = .ok (.iconst 5, 1) := by decide +kernel
theorem dL_texts_94 : decode cL_texts 94 = .ok (.if_icmp .ne 13, 3) := by decide +kernel
theorem dL_texts_97 : decode cL_texts 97 = .ok (.ldc2_w 142, 3) := by decide +kernel
theorem dL_texts_100 : decode cL_texts 100 = .ok (.invokestatic 120, 3) := by decide +kernel
theorem dL_texts_103 : decode cL_texts 103 = .ok (.iconst 3, 1) := by decide +kernel
theorem dL_texts_104 : decode cL_texts 104 = .ok (.if_icmp .eq 5, 3) := by decide +kernel
theorem dL_texts_107 : decode cL_texts 107 = .ok (.iconst 0, 1) := by decide +kernel
theorem dL_texts_108 : decode cL_texts 108 = .ok (.ireturn, 1) := by decide +kernel
theorem dL_texts_109 : decode cL_texts 109 = .ok (.ldc2_w 144, 3) := by decide +kernel
theorem dL_texts_112 : decode cL_texts 112 = .ok (.invokestatic 120, 3) := by decide +kernel
theorem dL_texts_115 : decode cL_texts 115 = .ok (.iconst 3, 1) := by decide +kernel
theorem dL_texts_116 : decode cL_texts 116 = .ok (.if_icmp .ne 103, 3) := by decide +kernel
theorem dL_texts_119 : decode cL_texts 119 = .ok (.ldc2_w 146, 3) := by decide +kernel
theorem dL_texts_122 : decode cL_texts 122 = .ok (.invokestatic 120, 3) := by decide +kernel
theorem dL_texts_125 : decode cL_texts 125 = .ok (.iconst 5, 1) := by decide +kernel
theorem dL_texts_126 : decode cL_texts 126 = .ok (.if_icmp .ne 93, 3) := by decide +kernel
theorem dL_texts_129 : decode cL_texts 129 = .ok (.ldc2_w 148, 3) := by decide +kernel
theorem dL_texts_132 : decode cL_texts 132 = .ok (.invokestatic 120, 3) := by decide +kernel
theorem dL_texts_135 : decode cL_texts 135 = .ok (.iconst 3, 1) := by decide +kernel
theorem dL_texts_136 : decode cL_texts 136 = .ok (.if_icmp .ne 83, 3) := by decide +kernel
theorem dL_texts_139 : decode cL_texts 139 = .ok (.ldc2_w 150, 3) := by decide +kernel
theorem dL_texts_142 : decode cL_texts 142 = .ok (.invokestatic 120, 3) := by decide +kernel
theorem dL_texts_145 : decode cL_texts 145 = .ok (.iconst 1, 1) := by decide +kernel
theorem dL_texts_146 : decode cL_texts 146 = .ok (.if_icmp .ne 73, 3) := by decide +kernel
theorem dL_texts_149 : decode cL_texts 149 = .ok (.ldc2_w 152, 3) := by decide +kernel
theorem dL_texts_152 : decode cL_texts 152 = .ok (.invokestatic 120, 3) := by decide +kernel
theorem dL_texts_155 : decode cL_texts 155 = .ok (.iconst 1, 1) := by decide +kernel
theorem dL_texts_156 : decode cL_texts 156 = .ok (.if_icmp .ne 63, 3) := by decide +kernel
theorem dL_texts_159 : decode cL_texts 159 = .ok (.ldc2_w 154, 3) := by decide +kernel
theorem dL_texts_162 : decode cL_texts 162 = .ok (.invokestatic 120, 3) := by decide +kernel
theorem dL_texts_165 : decode cL_texts 165 = .ok (.bipush 6, 2) := by decide +kernel
theorem dL_texts_167 : decode cL_texts 167 = .ok (.if_icmp .ne 52, 3) := by decide +kernel
theorem dL_texts_170 : decode cL_texts 170 = .ok (.ldc2_w 156, 3) := by decide +kernel
theorem dL_texts_173 : decode cL_texts 173 = .ok (.invokestatic 120, 3) := by decide +kernel
theorem dL_texts_176 : decode cL_texts 176 = .ok (.iconst 4, 1) := by decide +kernel
theorem dL_texts_177 : decode cL_texts 177 = .ok (.if_icmp .ne 42, 3) := by decide +kernel
theorem dL_texts_180 : decode cL_texts 180 = .ok (.ldc2_w 158, 3) := by decide +kernel
theorem dL_texts_183 : decode cL_texts 183 = .ok (.invokestatic 120, 3) := by decide +kernel
theorem dL_texts_186 : decode cL_texts 186 = .ok (.iconst 3, 1) := by decide +kernel
theorem dL_texts_187 : decode cL_texts 187 = .ok (.if_icmp .ne 32, 3) := by decide +kernel
theorem dL_texts_190 : decode cL_texts 190 = .ok (.ldc2_w 160, 3) := by decide +kernel
theorem dL_texts_193 : decode cL_texts 193 = .ok (.invokestatic 120, 3) := by decide +kernel
theorem dL_texts_196 : decode cL_texts 196 = .ok (.ifCond .ne 23, 3) := by decide +kernel
theorem dL_texts_199 : decode cL_texts 199 = .ok (.ldc2_w 162, 3) := by decide +kernel
theorem dL_texts_202 : decode cL_texts 202 = .ok (.invokestatic 120, 3) := by decide +kernel
theorem dL_texts_205 : decode cL_texts 205 = .ok (.iconst 4, 1) := by decide +kernel
theorem dL_texts_206 : decode cL_texts 206 = .ok (.if_icmp .ne 13, 3) := by decide +kernel
theorem dL_texts_209 : decode cL_texts 209 = .ok (.ldc2_w 164, 3) := by decide +kernel
theorem dL_texts_212 : decode cL_texts 212 = .ok (.invokestatic 120, 3) := by decide +kernel
theorem dL_texts_215 : decode cL_texts 215 = .ok (.iconst 5, 1) := by decide +kernel
theorem dL_texts_216 : decode cL_texts 216 = .ok (.if_icmp .eq 5, 3) := by decide +kernel
theorem dL_texts_219 : decode cL_texts 219 = .ok (.iconst 0, 1) := by decide +kernel
theorem dL_texts_220 : decode cL_texts 220 = .ok (.ireturn, 1) := by decide +kernel
theorem dL_texts_221 : decode cL_texts 221 = .ok (.new 10, 3) := by decide +kernel
theorem dL_texts_224 : decode cL_texts 224 = .ok (.dup, 1) := by decide +kernel
theorem dL_texts_225 : decode cL_texts 225 = .ok (.invokespecial 100, 3) := by decide +kernel
theorem dL_texts_228 : decode cL_texts 228 = .ok (.astore_n 0, 1) := by decide +kernel
theorem dL_texts_229 : decode cL_texts 229 = .ok (.aload_n 0, 1) := by decide +kernel
theorem dL_texts_230 : decode cL_texts 230 = .ok (.bipush 8, 2) := by decide +kernel
theorem dL_texts_232 : decode cL_texts 232 = .ok (.iconst 0, 1) := by decide +kernel
theorem dL_texts_233 : decode cL_texts 233 = .ok (.iconst 0, 1) := by decide +kernel
theorem dL_texts_234 : decode cL_texts 234 = .ok (.iconst 0, 1) := by decide +kernel
theorem dL_texts_235 : decode cL_texts 235 = .ok (.invokestatic 89, 3) := by decide +kernel
theorem dL_texts_238 : decode cL_texts 238 = .ok (.bipush (-12), 2) := by decide +kernel
theorem dL_texts_240 : decode cL_texts 240 = .ok (.if_icmp .ne 127, 3) := by decide +kernel
theorem dL_texts_243 : decode cL_texts 243 = .ok (.aload_n 0, 1) := by decide +kernel
theorem dL_texts_244 : decode cL_texts 244 = .ok (.ldc2_w 166, 3) := by decide +kernel
theorem dL_texts_247 : decode cL_texts 247 = .ok (.invokestatic 113, 3) := by decide +kernel
theorem dL_texts_250 : decode cL_texts 250 = .ok (.ifCond .eq 117, 3) := by decide +kernel
theorem dL_texts_253 : decode cL_texts 253 = .ok (.aload_n 0, 1) := by decide +kernel
theorem dL_texts_254 : decode cL_texts 254 = .ok (.bipush 8, 2) := by decide +kernel
theorem dL_texts_256 : decode cL_texts 256 = .ok (.iconst 0, 1) := by decide +kernel
theorem dL_texts_257 : decode cL_texts 257 = .ok (.iconst 0, 1) := by decide +kernel
theorem dL_texts_258 : decode cL_texts 258 = .ok (.iconst 0, 1) := by decide +kernel
theorem dL_texts_259 : decode cL_texts 259 = .ok (.invokestatic 89, 3) := by decide +kernel
theorem dL_texts_262 : decode cL_texts 262 = .ok (.bipush (-12), 2) := by decide +kernel
theorem dL_texts_264 : decode cL_texts 264 = .ok (.if_icmp .ne 103, 3) := by decide +kernel
theorem dL_texts_267 : decode cL_texts 267 = .ok (.aload_n 0, 1) := by decide +kernel
theorem dL_texts_268 : decode cL_texts 268 = .ok (.ldc2_w 168, 3) := by decide +kernel
theorem dL_texts_271 : decode cL_texts 271 = .ok (.invokestatic 113, 3) := by decide +kernel
theorem dL_texts_274 : decode cL_texts 274 = .ok (.ifCond .eq 93, 3) := by decide +kernel
theorem dL_texts_277 : decode cL_texts 277 = .ok (.aload_n 0, 1) := by decide +kernel
theorem dL_texts_278 : decode cL_texts 278 = .ok (.invokevirtual 38, 3) := by decide +kernel
theorem dL_texts_281 : decode cL_texts 281 = .ok (.bipush 6, 2) := by decide +kernel
theorem dL_texts_283 : decode cL_texts 283 = .ok (.if_icmp .ne 84, 3) := by decide +kernel
theorem dL_texts_286 : decode cL_texts 286 = .ok (.aload_n 0, 1) := by decide +kernel
theorem dL_texts_287 : decode cL_texts 287 = .ok (.bipush 11, 2) := by decide +kernel
theorem dL_texts_289 : decode cL_texts 289 = .ok (.invokevirtual 58, 3) := by decide +kernel
theorem dL_texts_292 : decode cL_texts 292 = .ok (.iconst 1, 1) := by decide +kernel
theorem dL_texts_293 : decode cL_texts 293 = .ok (.if_icmp .ne 74, 3) := by decide +kernel
theorem dL_texts_296 : decode cL_texts 296 = .ok (.aload_n 0, 1) := by decide +kernel
theorem dL_texts_297 : decode cL_texts 297 = .ok (.invokevirtual 170, 3) := by decide +kernel
theorem dL_texts_300 : decode cL_texts 300 = .ok (.ifCond .ne 67, 3) := by decide +kernel
theorem dL_texts_303 : decode cL_texts 303 = .ok (.aload_n 0, 1) := by decide +kernel
theorem dL_texts_304 : decode cL_texts 304 = .ok (.iconst 0, 1) := by decide +kernel
theorem dL_texts_305 : decode cL_texts 305 = .ok (.invokevirtual 58, 3) := by decide +kernel
theorem dL_texts_308 : decode cL_texts 308 = .ok (.iconst 4, 1) := by decide +kernel
theorem dL_texts_309 : decode cL_texts 309 = .ok (.if_icmp .ne 58, 3) := by decide +kernel
theorem dL_texts_312 : decode cL_texts 312 = .ok (.aload_n 0, 1) := by decide +kernel
theorem dL_texts_313 : decode cL_texts 313 = .ok (.bipush 6, 2) := by decide +kernel
theorem dL_texts_315 : decode cL_texts 315 = .ok (.invokevirtual 58, 3) := by decide +kernel
theorem dL_texts_318 : decode cL_texts 318 = .ok (.bipush 6, 2) := by decide +kernel
theorem dL_texts_320 : decode cL_texts 320 = .ok (.if_icmp .ne 47, 3) := by decide +kernel
theorem dL_texts_323 : decode cL_texts 323 = .ok (.aload_n 0, 1) := by decide +kernel
theorem dL_texts_324 : decode cL_texts 324 = .ok (.iconst 0, 1) := by decide +kernel
theorem dL_texts_325 : decode cL_texts 325 = .ok (.iconst 2, 1) := by decide +kernel
theorem dL_texts_326 : decode cL_texts 326 = .ok (.invokevirtual 45, 3) := by decide +kernel
theorem dL_texts_329 : decode cL_texts 329 = .ok (.ifCond .ne 38, 3) := by decide +kernel
theorem dL_texts_332 : decode cL_texts 332 = .ok (.aload_n 0, 1) := by decide +kernel
theorem dL_texts_333 : decode cL_texts 333 = .ok (.iconst 1, 1) := by decide +kernel
theorem dL_texts_334 : decode cL_texts 334 = .ok (.iconst 2, 1) := by decide +kernel
theorem dL_texts_335 : decode cL_texts 335 = .ok (.invokevirtual 45, 3) := by decide +kernel
theorem dL_texts_338 : decode cL_texts 338 = .ok (.iconst 1, 1) := by decide +kernel
theorem dL_texts_339 : decode cL_texts 339 = .ok (.if_icmp .ne 28, 3) := by decide +kernel
theorem dL_texts_342 : decode cL_texts 342 = .ok (.aload_n 0, 1) := by decide +kernel
theorem dL_texts_343 : decode cL_texts 343 = .ok (.iconst 2, 1) := by decide +kernel
theorem dL_texts_344 : decode cL_texts 344 = .ok (.iconst 3, 1) := by decide +kernel
theorem dL_texts_345 : decode cL_texts 345 = .ok (.invokevirtual 45, 3) := by decide +kernel
theorem dL_texts_348 : decode cL_texts 348 = .ok (.iconst 2, 1) := by decide +kernel
theorem dL_texts_349 : decode cL_texts 349 = .ok (.if_icmp .ne 18, 3) := by decide +kernel
theorem dL_texts_352 : decode cL_texts 352 = .ok (.aload_n 0, 1) := by decide +kernel
theorem dL_texts_353 : decode cL_texts 353 = .ok (.invokevirtual 42, 3) := by decide +kernel
theorem dL_texts_356 : decode cL_texts 356 = .ok (.ifCond .ne 11, 3) := by decide +kernel
theorem dL_texts_359 : decode cL_texts 359 = .ok (.aload_n 0, 1) := by decide +kernel
theorem dL_texts_360 : decode cL_texts 360 = .ok (.iconst 0, 1) := by decide +kernel
theorem dL_texts_361 : decode cL_texts 361 = .ok (.invokevirtual 58, 3) := by decide +kernel
theorem dL_texts_364 : decode cL_texts 364 = .ok (.ifCond .eq 5, 3) := by decide +kernel
theorem dL_texts_367 : decode cL_texts 367 = .ok (.iconst 0, 1) := by decide +kernel
theorem dL_texts_368 : decode cL_texts 368 = .ok (.ireturn, 1) := by decide +kernel
theorem dL_texts_369 : decode cL_texts 369 = .ok (.iconst 0, 1) := by decide +kernel
theorem dL_texts_370 : decode cL_texts 370 = .ok (.istore_n 1, 1) := by decide +kernel
theorem dL_texts_371 : decode cL_texts 371 = .ok (.iload_n 1, 1) := by decide +kernel
theorem dL_texts_372 : decode cL_texts 372 = .ok (.bipush 60, 2) := by decide +kernel
theorem dL_texts_374 : decode cL_texts 374 = .ok (.if_icmp .ge 23, 3) := by decide +kernel
theorem dL_texts_377 : decode cL_texts 377 = .ok (.aload_n 0, 1) := by decide +kernel
theorem dL_texts_378 : decode cL_texts 378 = .ok (.bipush 55, 2) := by decide +kernel
theorem dL_texts_380 : decode cL_texts 380 = .ok (.invokevirtual 35, 3) := by decide +kernel
theorem dL_texts_383 : decode cL_texts 383 = .ok (.iload_n 1, 1) := by decide +kernel
theorem dL_texts_384 : decode cL_texts 384 = .ok (.iconst 1, 1) := by decide +kernel
theorem dL_texts_385 : decode cL_texts 385 = .ok (.iadd, 1) := by decide +kernel
theorem dL_texts_386 : decode cL_texts 386 = .ok (.if_icmp .eq 5, 3) := by decide +kernel
theorem dL_texts_389 : decode cL_texts 389 = .ok (.iconst 0, 1) := by decide +kernel
theorem dL_texts_390 : decode cL_texts 390 = .ok (.ireturn, 1) := by decide +kernel
theorem dL_texts_391 : decode cL_texts 391 = .ok (.iinc 1 1, 3) := by decide +kernel
theorem dL_texts_394 : decode cL_texts 394 = .ok (.goto (-23), 3) := by decide +kernel
theorem dL_texts_397 : decode cL_texts 397 = .ok (.aload_n 0, 1) := by decide +kernel
theorem dL_texts_398 : decode cL_texts 398 = .ok (.bipush 7, 2) := by decide +kernel
theorem dL_texts_400 : decode cL_texts 400 = .ok (.bipush 55, 2) := by decide +kernel
theorem dL_texts_402 : decode cL_texts 402 = .ok (.iconst 0, 1) := by decide +kernel
theorem dL_texts_403 : decode cL_texts 403 = .ok (.iconst 0, 1) := by decide +kernel
theorem dL_texts_404 : decode cL_texts 404 = .ok (.invokestatic 89, 3) := by decide +kernel
theorem dL_texts_407 : decode cL_texts 407 = .ok (.bipush (-13), 2) := by decide +kernel
theorem dL_texts_409 : decode cL_texts 409 = .ok (.if_icmp .ne 39, 3) := by decide +kernel
theorem dL_texts_412 : decode cL_texts 412 = .ok (.aload_n 0, 1) := by decide +kernel
theorem dL_texts_413 : decode cL_texts 413 = .ok (.bipush 7, 2) := by decide +kernel
theorem dL_texts_415 : decode cL_texts 415 = .ok (.bipush 32, 2) := by decide +kernel
theorem dL_texts_417 : decode cL_texts 417 = .ok (.iconst 0, 1) := by decide +kernel
theorem dL_texts_418 : decode cL_texts 418 = .ok (.iconst 0, 1) := by decide +kernel
theorem dL_texts_419 : decode cL_texts 419 = .ok (.invokestatic 89, 3) := by decide +kernel
theorem dL_texts_422 : decode cL_texts 422 = .ok (.bipush (-12), 2) := by decide +kernel
theorem dL_texts_424 : decode cL_texts 424 = .ok (.if_icmp .ne 24, 3) := by decide +kernel
theorem dL_texts_427 : decode cL_texts 427 = .ok (.aload_n 0, 1) := by decide +kernel
theorem dL_texts_428 : decode cL_texts 428 = .ok (.invokevirtual 117, 3) := by decide +kernel
theorem dL_texts_431 : decode cL_texts 431 = .ok (.iconst 1, 1) := by decide +kernel
theorem dL_texts_432 : decode cL_texts 432 = .ok (.if_icmp .ne 16, 3) := by decide +kernel
theorem dL_texts_435 : decode cL_texts 435 = .ok (.aload_n 0, 1) := by decide +kernel
theorem dL_texts_436 : decode cL_texts 436 = .ok (.invokevirtual 170, 3) := by decide +kernel
theorem dL_texts_439 : decode cL_texts 439 = .ok (.bipush 60, 2) := by decide +kernel
theorem dL_texts_441 : decode cL_texts 441 = .ok (.if_icmp .ne 7, 3) := by decide +kernel
theorem dL_texts_444 : decode cL_texts 444 = .ok (.iconst 1, 1) := by decide +kernel
theorem dL_texts_445 : decode cL_texts 445 = .ok (.goto 4, 3) := by decide +kernel
theorem dL_texts_448 : decode cL_texts 448 = .ok (.iconst 0, 1) := by decide +kernel
theorem dL_texts_449 : decode cL_texts 449 = .ok (.ireturn, 1) := by decide +kernel
set_option maxRecDepth 20000 in
theorem ggL_law_L_pages_1 : GoodIn wsL_law (Cond.code yL_pages cL_pages 2 (some .boolean) :: wsL_pages_r1) := goodIn_r _ [7, 0, 1, 2, 8, 9, 10, 11, 12, 13, 14, 15, 16, 17, 18, 19, 20, 21, 22, 23, 24, 25, 26, 27, 28] rfl (by decide +kernel)
set_option maxRecDepth 20000 in
theorem ggL_law_L_pages_2 : GoodIn wsL_law wsL_pages_r2 := goodIn_r _ [29, 30, 31, 32, 33, 34, 35, 36, 37, 38, 39, 40, 41, 42, 43, 44, 45, 46, 47, 48, 49, 50, 51, 52] rfl (by decide +kernel)
set_option maxRecDepth 20000 in
theorem ggL_law_L_pages_3 : GoodIn wsL_law wsL_pages_r3 := goodIn_r _ [53, 54, 55, 56, 57, 58, 59, 60, 61, 62, 6, 63, 64, 65, 66, 67, 68, 69, 70, 71, 72, 73, 74, 75] rfl (by decide +kernel)
set_option maxRecDepth 20000 in
theorem ggL_law_L_pages_4 : GoodIn wsL_law wsL_pages_r4 := goodIn_r _ [76, 77, 78, 79, 80, 81, 82, 83, 84, 85, 86, 87, 88, 89, 90, 91, 92, 93, 94, 95, 96, 97, 98, 99] rfl (by decide +kernel)
set_option maxRecDepth 20000 in
theorem ggL_law_L_pages_5 : GoodIn wsL_law wsL_pages_r5 := goodIn_r _ [100, 101, 102, 103, 104, 105, 106, 107, 108, 109, 110, 111, 112, 113, 114, 115, 116, 117, 118, 119, 120, 121, 122, 123] rfl (by decide +kernel)
set_option maxRecDepth 20000 in
theorem ggL_law_L_pages_6 : GoodIn wsL_law wsL_pages_r6 := goodIn_r _ [124, 125, 126, 127, 128, 129, 130, 131, 132, 133, 134, 135, 136, 137, 138, 139, 140, 141, 142, 143, 144, 145, 146, 147] rfl (by decide +kernel)
set_option maxRecDepth 20000 in
theorem ggL_law_L_pages_7 : GoodIn wsL_law wsL_pages_r7 := goodIn_r _ [148, 149, 150, 151, 152, 153, 154, 155, 156, 157, 158, 159, 160, 161, 162, 163, 164, 165, 166, 167, 168, 169, 170, 171] rfl (by decide +kernel)
set_option maxRecDepth 20000 in
theorem ggL_law_L_pages_8 : GoodIn wsL_law wsL_pages_r8 := goodIn_r _ [172, 173, 174, 175, 176, 177, 178, 179, 180, 181, 182, 183, 184, 185, 186, 187, 188, 189, 190, 191, 192, 193, 194, 195] rfl (by decide +kernel)
set_option maxRecDepth 20000 in
theorem ggL_law_L_pages_9 : GoodIn wsL_law wsL_pages_r9 := goodIn_r _ [196, 197, 198, 199, 200, 201, 202, 203, 204, 205, 206, 207, 208, 209, 210, 211, 212, 213, 214, 215, 216, 217, 218, 219] rfl (by decide +kernel)
set_option maxRecDepth 20000 in
theorem ggL_law_L_pages_10 : GoodIn wsL_law wsL_pages_r10 := goodIn_r _ [220, 221, 222, 223, 224, 225, 226, 227, 228, 229, 230, 231, 232, 233, 234, 235, 236, 237, 238, 239, 240, 241, 242, 243] rfl (by decide +kernel)
set_option maxRecDepth 20000 in
theorem ggL_law_L_pages_11 : GoodIn wsL_law wsL_pages_r11 := goodIn_r _ [244, 245, 246, 247, 248, 249, 250, 251, 252, 253, 254, 255, 256, 257, 258, 259, 260, 261, 262, 263, 264, 265, 266, 267] rfl (by decide +kernel)
set_option maxRecDepth 20000 in
theorem ggL_law_L_pages_12 : GoodIn wsL_law wsL_pages_r12 := goodIn_r _ [268, 269, 270, 271, 272, 273, 274, 275, 276, 277, 278, 279, 280, 281, 282, 283, 284, 285, 286, 287, 288, 289, 290, 291] rfl (by decide +kernel)
set_option maxRecDepth 20000 in
theorem ggL_law_L_pages_13 : GoodIn wsL_law wsL_pages_r13 := goodIn_r _ [292, 293, 294, 295, 296, 297, 298, 299, 300, 301, 302, 303, 304, 305, 306, 307, 308, 309, 310, 311, 312, 313, 314, 315] rfl (by decide +kernel)
set_option maxRecDepth 20000 in
theorem ggL_law_L_pages_14 : GoodIn wsL_law wsL_pages_r14 := goodIn_r _ [316, 317, 318, 319, 320, 321, 322, 323, 324, 325, 326, 327, 328, 329, 330, 331, 332, 333, 334, 335, 336, 337, 338, 339] rfl (by decide +kernel)
set_option maxRecDepth 20000 in
theorem ggL_law_L_pages_15 : GoodIn wsL_law wsL_pages_r15 := goodIn_r _ [340, 341, 342, 343, 344, 345, 346, 347, 348, 349, 350, 351, 352, 353, 354, 355, 356, 357, 358, 359, 360, 361, 362, 363] rfl (by decide +kernel)
set_option maxRecDepth 20000 in
theorem ggL_law_L_pages_16 : GoodIn wsL_law wsL_pages_r16 := goodIn_r _ [364, 365, 366, 367, 368, 369, 370, 371, 372, 373, 374, 375, 376, 377, 378, 379, 380, 381, 382, 383, 384, 385] rfl (by decide +kernel)
set_option maxRecDepth 20000 in
theorem ggL_law_L_pages_17 : GoodIn wsL_law wsX20 := goodIn_r _ [470, 471, 472, 473, 474, 475, 476] rfl (by decide +kernel)
set_option maxRecDepth 20000 in
theorem ggL_law_L_pages_18 : GoodIn wsL_law wsX10 := goodIn_r _ [477, 478, 479, 480, 481, 482, 483, 484, 485, 486, 487, 488, 489, 490, 491, 492, 493] rfl (by decide +kernel)
set_option maxRecDepth 20000 in
theorem ggL_law_L_pages_19 : GoodIn wsL_law wsX00 := goodIn_r _ [494, 495, 496, 497] rfl (by decide +kernel)
set_option maxRecDepth 20000 in
theorem ggL_law_L_pages : GoodIn wsL_law wsL_pages := goodIn_ca (goodIn_ca (goodIn_ca ((goodIn_ca (goodIn_ca (goodIn_ca (goodIn_ca ggL_law_L_pages_1 (goodIn_app ggL_law_L_pages_2 (goodIn_app ggL_law_L_pages_3 (goodIn_app ggL_law_L_pages_4 (goodIn_app ggL_law_L_pages_5 (goodIn_app ggL_law_L_pages_6 (goodIn_app ggL_law_L_pages_7 (goodIn_app ggL_law_L_pages_8 (goodIn_app ggL_law_L_pages_9 (goodIn_app ggL_law_L_pages_10 (goodIn_app ggL_law_L_pages_11 (goodIn_app ggL_law_L_pages_12 (goodIn_app ggL_law_L_pages_13 (goodIn_app ggL_law_L_pages_14 (goodIn_app ggL_law_L_pages_15 ggL_law_L_pages_16))))))))))))))) ggL_law_L_pages_17) ggL_law_L_pages_18) ggL_law_L_pages_19)) (goodIn_sub (fun _ h => List.mem_append_left _ (List.mem_append_left _ (List.mem_append_right _ h))) (by decide +kernel))) (goodIn_sub (fun _ h => List.mem_append_left _ (List.mem_append_right _ h)) (by decide +kernel))) (goodIn_sub (fun _ h => List.mem_append_right _ h) (by decide +kernel))
set_option maxRecDepth 20000 in
theorem gL_law_L_pages : GoodIn wsL_law (va_wsS RL 173 yL_pages wsL_pages) := goodIn_app (goodIn_of _ (by decide +kernel)) ggL_law_L_pages
set_option maxRecDepth 20000 in
theorem ggL_law_L_texts_1 : GoodIn wsL_law (Cond.code yL_texts cL_texts 2 (some .boolean) :: wsL_texts_r1) := goodIn_r _ [388, 389, 390, 391, 392, 393, 394, 395, 396, 397, 398, 399, 400, 401, 402, 403, 404, 405, 406, 407, 408, 409, 0, 1, 2] rfl (by decide +kernel)
set_option maxRecDepth 20000 in
theorem ggL_law_L_texts_2 : GoodIn wsL_law wsL_texts_r2 := goodIn_r _ [410, 411, 412, 413, 6, 414, 9, 10, 11, 12, 13, 14, 15, 16, 17, 18, 19, 20, 21, 22, 23, 24, 25, 26] rfl (by decide +kernel)
set_option maxRecDepth 20000 in
theorem ggL_law_L_texts_3 : GoodIn wsL_law wsL_texts_r3 := goodIn_r _ [27, 28, 29, 30, 31, 32, 33, 34, 35, 36, 37, 38, 39, 40, 41, 42, 43, 44, 45, 46, 47, 48, 49, 50] rfl (by decide +kernel)
set_option maxRecDepth 20000 in
theorem ggL_law_L_texts_4 : GoodIn wsL_law wsL_texts_r4 := goodIn_r _ [51, 52, 53, 54, 55, 56, 57, 58, 59, 60, 415, 416, 417, 418, 200, 201, 202, 203, 76, 77, 173, 174, 419, 420] rfl (by decide +kernel)
set_option maxRecDepth 20000 in
theorem ggL_law_L_texts_5 : GoodIn wsL_law wsL_texts_r5 := goodIn_r _ [421, 422, 211, 212, 213, 214, 215, 216, 217, 218, 219, 220, 221, 222, 223, 224, 225, 226, 227, 228, 229, 230, 231, 232] rfl (by decide +kernel)
set_option maxRecDepth 20000 in
theorem ggL_law_L_texts_6 : GoodIn wsL_law wsL_texts_r6 := goodIn_r _ [233, 234, 235, 236, 237, 238, 239, 240, 241, 242, 243, 244, 245, 246, 247, 248, 249, 61, 62, 63, 64, 65, 66, 67] rfl (by decide +kernel)
set_option maxRecDepth 20000 in
theorem ggL_law_L_texts_7 : GoodIn wsL_law wsL_texts_r7 := goodIn_r _ [68, 69, 70, 71, 72, 73, 74, 75, 78, 79, 80, 81, 82, 83, 84, 85, 86, 87, 88, 89, 90, 91, 92, 93] rfl (by decide +kernel)
set_option maxRecDepth 20000 in
theorem ggL_law_L_texts_8 : GoodIn wsL_law wsL_texts_r8 := goodIn_r _ [94, 95, 96, 97, 98, 99, 100, 101, 102, 103, 104, 105, 106, 107, 108, 109, 110, 111, 112, 113, 114, 115, 116, 117] rfl (by decide +kernel)
set_option maxRecDepth 20000 in
theorem ggL_law_L_texts_9 : GoodIn wsL_law wsL_texts_r9 := goodIn_r _ [118, 119, 120, 121, 122, 123, 124, 125, 126, 127, 128, 129, 130, 131, 132, 133, 134, 135, 136, 137, 138, 139, 140, 141] rfl (by decide +kernel)
set_option maxRecDepth 20000 in
theorem ggL_law_L_texts_10 : GoodIn wsL_law wsL_texts_r10 := goodIn_r _ [142, 143, 144, 145, 146, 147, 148, 149, 150, 151, 152, 153, 154, 155, 156, 157, 158, 159, 160, 161, 162, 163, 164, 165] rfl (by decide +kernel)
set_option maxRecDepth 20000 in
theorem ggL_law_L_texts_11 : GoodIn wsL_law wsL_texts_r11 := goodIn_r _ [166, 167, 168, 169, 170, 171, 172, 175, 176, 177, 178, 179, 180, 181, 182, 183, 184, 185, 186, 187, 188, 189, 190, 191] rfl (by decide +kernel)
set_option maxRecDepth 20000 in
theorem ggL_law_L_texts_12 : GoodIn wsL_law wsL_texts_r12 := goodIn_r _ [192, 193, 194, 195, 196, 197, 198, 199, 204, 205, 206, 207, 208, 209, 210, 250, 251, 252, 253, 254, 255, 256, 257, 258] rfl (by decide +kernel)
set_option maxRecDepth 20000 in
theorem ggL_law_L_texts_13 : GoodIn wsL_law wsL_texts_r13 := goodIn_r _ [259, 260, 261, 262, 263, 264, 265, 266, 267, 268, 269, 270, 271, 272, 273, 274, 275, 276, 277, 278, 279, 280, 281, 282] rfl (by decide +kernel)
