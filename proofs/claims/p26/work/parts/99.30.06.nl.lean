set_option maxRecDepth 20000 in
theorem ggL_pages_X2_tidy : GoodIn wsL_pages wsX2_tidy := goodIn_ca (goodIn_r _ [187, 73, 74, 14, 78, 79, 80, 3, 81, 17, 16, 82, 83, 84, 85, 86, 87, 88, 13, 89, 29, 30, 31, 32, 33, 34, 35, 36, 37, 38, 39, 40, 41, 42, 43, 44, 45, 90, 91, 92, 93, 94, 95, 96, 97, 98, 99, 100, 188, 114, 115, 116, 117, 118, 119, 120, 121, 122, 123, 124, 125, 126, 127, 128, 129, 130, 131, 132, 133, 134, 135, 136, 137, 138, 139, 140, 141, 142, 143, 144, 145, 383, 384, 385, 386, 387, 388, 389, 390, 391, 392, 393, 394, 395, 396, 397, 398, 399, 400, 401, 402, 403, 404, 405, 406] rfl (by decide +kernel)) (goodIn_sub (fun _ h => List.mem_cons_of_mem _ (List.mem_append_left _ (List.mem_append_right _ h))) (by decide +kernel))
set_option maxRecDepth 20000 in
theorem gL_pages_X2_tidy : GoodIn wsL_pages (wsV RL 29 RX2 yX2_tidy wsX2_tidy) := goodIn_app (goodIn_of _ (by decide +kernel)) ggL_pages_X2_tidy
set_option maxRecDepth 20000 in
theorem ggL_pages_X2_undo : GoodIn wsL_pages wsX2_undo := goodIn_ca (goodIn_r _ [251, 170, 171, 17, 14, 16, 383, 384, 385, 386, 387, 388, 389] rfl (by decide +kernel)) (goodIn_sub (fun _ h => List.mem_cons_of_mem _ (List.mem_append_right _ h)) (by decide +kernel))
set_option maxRecDepth 20000 in
theorem gL_pages_X2_undo : GoodIn wsL_pages (wsV RL 42 RX2 yX2_undo wsX2_undo) := goodIn_app (goodIn_of _ (by decide +kernel)) ggL_pages_X2_undo
set_option maxRecDepth 20000 in
theorem ggL_pages_X2_set : GoodIn wsL_pages wsX2_set := goodIn_ca (goodIn_ca (goodIn_r _ [192, 71, 72, 73, 74, 14, 193, 75, 76, 3, 77, 194, 195, 196, 78, 79, 80, 81, 17, 16, 82, 83, 84, 85, 86, 87, 88, 13, 89, 29, 30, 31, 32, 33, 34, 35, 36, 37, 38, 39, 40, 41, 42, 43, 44, 45, 90, 91, 92, 93, 94, 95, 96, 97, 98, 99, 100, 383, 384, 385, 386, 387, 388, 389, 390, 391, 392, 393, 394, 395, 396, 397, 398, 399, 400, 401, 402, 403, 404, 405, 406] rfl (by decide +kernel)) (goodIn_sub (fun _ h => List.mem_cons_of_mem _ (List.mem_append_left _ (List.mem_append_left _ (List.mem_append_right _ h)))) (by decide +kernel))) (goodIn_sub (fun _ h => List.mem_cons_of_mem _ (List.mem_append_left _ (List.mem_append_right _ h))) (by decide +kernel))
set_option maxRecDepth 20000 in
theorem gL_pages_X2_set : GoodIn wsL_pages (wsV RL 32 RX2 yX2_set wsX2_set) := goodIn_app (goodIn_of _ (by decide +kernel)) ggL_pages_X2_set
theorem dL_pages_0 : decode cL_pages 0 = .ok (.new 10, 3) := by decide +kernel
theorem dL_pages_3 : decode cL_pages 3 = .ok (.dup, 1) := by decide +kernel
theorem dL_pages_4 : decode cL_pages 4 = .ok (.invokespecial 100, 3) := by decide +kernel
theorem dL_pages_7 : decode cL_pages 7 = .ok (.astore_n 0, 1) := by decide +kernel
theorem dL_pages_8 : decode cL_pages 8 = .ok (.aload_n 0, 1) := by decide +kernel
theorem dL_pages_9 : decode cL_pages 9 = .ok (.bipush 9, 2) := by decide +kernel
theorem dL_pages_11 : decode cL_pages 11 = .ok (.iconst 0, 1) := by decide +kernel
theorem dL_pages_12 : decode cL_pages 12 = .ok (.iconst 0, 1) := by decide +kernel
theorem dL_pages_13 : decode cL_pages 13 = .ok (.iconst 0, 1) := by decide +kernel
theorem dL_pages_14 : decode cL_pages 14 = .ok (.invokestatic 89, 3) := by decide +kernel
theorem dL_pages_17 : decode cL_pages 17 = .ok (.bipush (-13), 2) := by decide +kernel
theorem dL_pages_19 : decode cL_pages 19 = .ok (.if_icmp .ne 169, 3) := by decide +kernel
theorem dL_pages_22 : decode cL_pages 22 = .ok (.aload_n 0, 1) := by decide +kernel
theorem dL_pages_23 : decode cL_pages 23 = .ok (.iconst 1, 1) := by decide +kernel
theorem dL_pages_24 : decode cL_pages 24 = .ok (.invokevirtual 58, 3) := by decide +kernel
theorem dL_pages_27 : decode cL_pages 27 = .ok (.bipush 12, 2) := by decide +kernel
theorem dL_pages_29 : decode cL_pages 29 = .ok (.if_icmp .ne 159, 3) := by decide +kernel
theorem dL_pages_32 : decode cL_pages 32 = .ok (.aload_n 0, 1) := by decide +kernel
theorem dL_pages_33 : decode cL_pages 33 = .ok (.iconst 5, 1) := by decide +kernel
theorem dL_pages_34 : decode cL_pages 34 = .ok (.invokevirtual 58, 3) := by decide +kernel
theorem dL_pages_37 : decode cL_pages 37 = .ok (.bipush 96, 2) := by decide +kernel
theorem dL_pages_39 : decode cL_pages 39 = .ok (.if_icmp .ne 149, 3) := by decide +kernel
theorem dL_pages_42 : decode cL_pages 42 = .ok (.aload_n 0, 1) := by decide +kernel
theorem dL_pages_43 : decode cL_pages 43 = .ok (.bipush 10, 2) := by decide +kernel
theorem dL_pages_45 : decode cL_pages 45 = .ok (.invokevirtual 58, 3) := by decide +kernel
theorem dL_pages_48 : decode cL_pages 48 = .ok (.iconst (-1), 1) := by decide +kernel
theorem dL_pages_49 : decode cL_pages 49 = .ok (.if_icmp .ne 139, 3) := by decide +kernel
theorem dL_pages_52 : decode cL_pages 52 = .ok (.aload_n 0, 1) := by decide +kernel
theorem dL_pages_53 : decode cL_pages 53 = .ok (.invokevirtual 101, 3) := by decide +kernel
theorem dL_pages_56 : decode cL_pages 56 = .ok (.dconst 1, 1) := by decide +kernel
theorem dL_pages_57 : decode cL_pages 57 = .ok (.dcmp .l, 1) := by decide +kernel
theorem dL_pages_58 : decode cL_pages 58 = .ok (.ifCond .ne 130, 3) := by decide +kernel
theorem dL_pages_61 : decode cL_pages 61 = .ok (.aload_n 0, 1) := by decide +kernel
theorem dL_pages_62 : decode cL_pages 62 = .ok (.iconst 3, 1) := by decide +kernel
theorem dL_pages_63 : decode cL_pages 63 = .ok (.iconst 5, 1) := by decide +kernel
theorem dL_pages_64 : decode cL_pages 64 = .ok (.iconst 0, 1) := by decide +kernel
theorem dL_pages_65 : decode cL_pages 65 = .ok (.iconst 0, 1) := by decide +kernel
theorem dL_pages_66 : decode cL_pages 66 = .ok (.invokestatic 89, 3) := by decide +kernel
theorem dL_pages_69 : decode cL_pages 69 = .ok (.bipush (-13), 2) := by decide +kernel
theorem dL_pages_71 : decode cL_pages 71 = .ok (.if_icmp .ne 117, 3) := by decide +kernel
theorem dL_pages_74 : decode cL_pages 74 = .ok (.aload_n 0, 1) := by decide +kernel
theorem dL_pages_75 : decode cL_pages 75 = .ok (.iconst 4, 1) := by decide +kernel
theorem dL_pages_76 : decode cL_pages 76 = .ok (.iconst 0, 1) := by decide +kernel
theorem dL_pages_77 : decode cL_pages 77 = .ok (.iconst 0, 1) := by decide +kernel
theorem dL_pages_78 : decode cL_pages 78 = .ok (.iconst 0, 1) := by decide +kernel
theorem dL_pages_79 : decode cL_pages 79 = .ok (.invokestatic 89, 3) := by decide +kernel
theorem dL_pages_82 : decode cL_pages 82 = .ok (.bipush (-13), 2) := by decide +kernel
theorem dL_pages_84 : decode cL_pages 84 = .ok (.if_icmp .ne 104, 3) := by decide +kernel
theorem dL_pages_87 : decode cL_pages 87 = .ok (.aload_n 0, 1) := by decide +kernel
theorem dL_pages_88 : decode cL_pages 88 = .ok (.iconst 0, 1) := by decide +kernel
theorem dL_pages_89 : decode cL_pages 89 = .ok (.iconst 4, 1) := by decide +kernel
theorem dL_pages_90 : decode cL_pages 90 = .ok (.invokevirtual 55, 3) := by decide +kernel
theorem dL_pages_93 : decode cL_pages 93 = .ok (.ifCond .ne 95, 3) := by decide +kernel
theorem dL_pages_96 : decode cL_pages 96 = .ok (.aload_n 0, 1) := by decide +kernel
theorem dL_pages_97 : decode cL_pages 97 = .ok (.iconst 1, 1) := by decide +kernel
theorem dL_pages_98 : decode cL_pages 98 = .ok (.invokevirtual 70, 3) := by decide +kernel
theorem dL_pages_101 : decode cL_pages 101 = .ok (.ifCond .ne 87, 3) := by decide +kernel
theorem dL_pages_104 : decode cL_pages 104 = .ok (.aload_n 0, 1) := by decide +kernel
theorem dL_pages_105 : decode cL_pages 105 = .ok (.iconst 1, 1) := by decide +kernel
theorem dL_pages_106 : decode cL_pages 106 = .ok (.invokevirtual 67, 3) := by decide +kernel
theorem dL_pages_109 : decode cL_pages 109 = .ok (.ifCond .ne 79, 3) := by decide +kernel
theorem dL_pages_112 : decode cL_pages 112 = .ok (.aload_n 0, 1) := by decide +kernel
theorem dL_pages_113 : decode cL_pages 113 = .ok (.iconst 5, 1) := by decide +kernel
theorem dL_pages_114 : decode cL_pages 114 = .ok (.iconst 2, 1) := by decide +kernel
theorem dL_pages_115 : decode cL_pages 115 = .ok (.invokevirtual 9, 3) := by decide +kernel
theorem dL_pages_118 : decode cL_pages 118 = .ok (.ifCond .ne 70, 3) := by decide +kernel
theorem dL_pages_121 : decode cL_pages 121 = .ok (.aload_n 0, 1) := by decide +kernel
theorem dL_pages_122 : decode cL_pages 122 = .ok (.iconst 5, 1) := by decide +kernel
theorem dL_pages_123 : decode cL_pages 123 = .ok (.iconst 0, 1) := by decide +kernel
theorem dL_pages_124 : decode cL_pages 124 = .ok (.invokevirtual 45, 3) := by decide +kernel
theorem dL_pages_127 : decode cL_pages 127 = .ok (.ifCond .ne 61, 3) := by decide +kernel
theorem dL_pages_130 : decode cL_pages 130 = .ok (.aload_n 0, 1) := by decide +kernel
theorem dL_pages_131 : decode cL_pages 131 = .ok (.iconst 5, 1) := by decide +kernel
theorem dL_pages_132 : decode cL_pages 132 = .ok (.iconst 1, 1) := by decide +kernel
theorem dL_pages_133 : decode cL_pages 133 = .ok (.invokevirtual 45, 3) := by decide +kernel
theorem dL_pages_136 : decode cL_pages 136 = .ok (.ifCond .ne 52, 3) := by decide +kernel
theorem dL_pages_139 : decode cL_pages 139 = .ok (.aload_n 0, 1) := by decide +kernel
theorem dL_pages_140 : decode cL_pages 140 = .ok (.iconst 5, 1) := by decide +kernel
theorem dL_pages_141 : decode cL_pages 141 = .ok (.iconst 2, 1) := by decide +kernel
theorem dL_pages_142 : decode cL_pages 142 = .ok (.invokevirtual 45, 3) := by decide +kernel
theorem dL_pages_145 : decode cL_pages 145 = .ok (.iconst 2, 1) := by decide +kernel
theorem dL_pages_146 : decode cL_pages 146 = .ok (.if_icmp .ne 42, 3) := by decide +kernel
theorem dL_pages_149 : decode cL_pages 149 = .ok (.aload_n 0, 1) := by decide +kernel
theorem dL_pages_150 : decode cL_pages 150 = .ok (.iconst 0, 1) := by decide +kernel
theorem dL_pages_151 : decode cL_pages 151 = .ok (.iconst 0, 1) := by decide +kernel
theorem dL_pages_152 : decode cL_pages 152 = .ok (.invokevirtual 48, 3) := by decide +kernel
theorem dL_pages_155 : decode cL_pages 155 = .ok (.iconst 1, 1) := by decide +kernel
theorem dL_pages_156 : decode cL_pages 156 = .ok (.if_icmp .ne 32, 3) := by decide +kernel
theorem dL_pages_159 : decode cL_pages 159 = .ok (.aload_n 0, 1) := by decide +kernel
theorem dL_pages_160 : decode cL_pages 160 = .ok (.iconst 0, 1) := by decide +kernel
theorem dL_pages_161 : decode cL_pages 161 = .ok (.iconst 1, 1) := by decide +kernel
theorem dL_pages_162 : decode cL_pages 162 = .ok (.invokevirtual 48, 3) := by decide +kernel
theorem dL_pages_165 : decode cL_pages 165 = .ok (.iconst 2, 1) := by decide +kernel
theorem dL_pages_166 : decode cL_pages 166 = .ok (.if_icmp .ne 22, 3) := by decide +kernel
theorem dL_pages_169 : decode cL_pages 169 = .ok (.aload_n 0, 1) := by decide +kernel
theorem dL_pages_170 : decode cL_pages 170 = .ok (.iconst 2, 1) := by decide +kernel
theorem dL_pages_171 : decode cL_pages 171 = .ok (.iconst 0, 1) := by decide +kernel
theorem dL_pages_172 : decode cL_pages 172 = .ok (.invokevirtual 55, 3) := by decide +kernel
theorem dL_pages_175 : decode cL_pages 175 = .ok (.ifCond .ne 13, 3) := by decide +kernel
theorem dL_pages_178 : decode cL_pages 178 = .ok (.aload_n 0, 1) := by decide +kernel
theorem dL_pages_179 : decode cL_pages 179 = .ok (.iconst 2, 1) := by decide +kernel
theorem dL_pages_180 : decode cL_pages 180 = .ok (.iconst 2, 1) := by decide +kernel
theorem dL_pages_181 : decode cL_pages 181 = .ok (.invokevirtual 55, 3) := by decide +kernel
theorem dL_pages_184 : decode cL_pages 184 = .ok (.iconst 1, 1) := by decide +kernel
theorem dL_pages_185 : decode cL_pages 185 = .ok (.if_icmp .eq 5, 3) := by decide +kernel
theorem dL_pages_188 : decode cL_pages 188 = .ok (.iconst 0, 1) := by decide +kernel
theorem dL_pages_189 : decode cL_pages 189 = .ok (.ireturn, 1) := by decide +kernel
theorem dL_pages_190 : decode cL_pages 190 = .ok (.aload_n 0, 1) := by decide +kernel
theorem dL_pages_191 : decode cL_pages 191 = .ok (.iconst 0, 1) := by decide +kernel
theorem dL_pages_192 : decode cL_pages 192 = .ok (.bipush 8, 2) := by decide +kernel
theorem dL_pages_194 : decode cL_pages 194 = .ok (.iconst 0, 1) := by decide +kernel
theorem dL_pages_195 : decode cL_pages 195 = .ok (.invokevirtual 15, 3) := by decide +kernel
theorem dL_pages_198 : decode cL_pages 198 = .ok (.ifCond .ne 214, 3) := by decide +kernel
theorem dL_pages_201 : decode cL_pages 201 = .ok (.aload_n 0, 1) := by decide +kernel
theorem dL_pages_202 : decode cL_pages 202 = .ok (.iconst 1, 1) := by decide +kernel
theorem dL_pages_203 : decode cL_pages 203 = .ok (.iconst 0, 1) := by decide +kernel
theorem dL_pages_204 : decode cL_pages 204 = .ok (.invokevirtual 48, 3) := by decide +kernel
theorem dL_pages_207 : decode cL_pages 207 = .ok (.iconst 2, 1) := by decide +kernel
theorem dL_pages_208 : decode cL_pages 208 = .ok (.if_icmp .ne 204, 3) := by decide +kernel
theorem dL_pages_211 : decode cL_pages 211 = .ok (.aload_n 0, 1) := by decide +kernel
theorem dL_pages_212 : decode cL_pages 212 = .ok (.iconst 1, 1) := by decide +kernel
theorem dL_pages_213 : decode cL_pages 213 = .ok (.iconst 1, 1) := by decide +kernel
theorem dL_pages_214 : decode cL_pages 214 = .ok (.invokevirtual 48, 3) := by decide +kernel
theorem dL_pages_217 : decode cL_pages 217 = .ok (.ifCond .ne 195, 3) := by decide +kernel
theorem dL_pages_220 : decode cL_pages 220 = .ok (.aload_n 0, 1) := by decide +kernel
theorem dL_pages_221 : decode cL_pages 221 = .ok (.iconst 1, 1) := by decide +kernel
theorem dL_pages_222 : decode cL_pages 222 = .ok (.iconst 2, 1) := by decide +kernel
theorem dL_pages_223 : decode cL_pages 223 = .ok (.invokevirtual 48, 3) := by decide +kernel
theorem dL_pages_226 : decode cL_pages 226 = .ok (.bipush 8, 2) := by decide +kernel
theorem dL_pages_228 : decode cL_pages 228 = .ok (.if_icmp .ne 184, 3) := by decide +kernel
theorem dL_pages_231 : decode cL_pages 231 = .ok (.aload_n 0, 1) := by decide +kernel
theorem dL_pages_232 : decode cL_pages 232 = .ok (.iconst 1, 1) := by decide +kernel
theorem dL_pages_233 : decode cL_pages 233 = .ok (.bipush 6, 2) := by decide +kernel
theorem dL_pages_235 : decode cL_pages 235 = .ok (.invokevirtual 48, 3) := by decide +kernel
theorem dL_pages_238 : decode cL_pages 238 = .ok (.ifCond .ne 174, 3) := by decide +kernel
theorem dL_pages_241 : decode cL_pages 241 = .ok (.aload_n 0, 1) := by decide +kernel
theorem dL_pages_242 : decode cL_pages 242 = .ok (.iconst 0, 1) := by decide +kernel
theorem dL_pages_243 : decode cL_pages 243 = .ok (.iconst 2, 1) := by decide +kernel
theorem dL_pages_244 : decode cL_pages 244 = .ok (.invokevirtual 48, 3) := by decide +kernel
theorem dL_pages_247 : decode cL_pages 247 = .ok (.ifCond .ne 165, 3) := by decide +kernel
theorem dL_pages_250 : decode cL_pages 250 = .ok (.aload_n 0, 1) := by decide +kernel
theorem dL_pages_251 : decode cL_pages 251 = .ok (.iconst 0, 1) := by decide +kernel
theorem dL_pages_252 : decode cL_pages 252 = .ok (.iconst 3, 1) := by decide +kernel
theorem dL_pages_253 : decode cL_pages 253 = .ok (.invokevirtual 48, 3) := by decide +kernel
theorem dL_pages_256 : decode cL_pages 256 = .ok (.iconst 1, 1) := by decide +kernel
theorem dL_pages_257 : decode cL_pages 257 = .ok (.if_icmp .ne 155, 3) := by decide +kernel
theorem dL_pages_260 : decode cL_pages 260 = .ok (.aload_n 0, 1) := by decide +kernel
theorem dL_pages_261 : decode cL_pages 261 = .ok (.iconst 0, 1) := by decide +kernel
theorem dL_pages_262 : decode cL_pages 262 = .ok (.iconst 4, 1) := by decide +kernel
theorem dL_pages_263 : decode cL_pages 263 = .ok (.invokevirtual 48, 3) := by decide +kernel
theorem dL_pages_266 : decode cL_pages 266 = .ok (.bipush 7, 2) := by decide +kernel
theorem dL_pages_268 : decode cL_pages 268 = .ok (.if_icmp .ne 144, 3) := by decide +kernel
theorem dL_pages_271 : decode cL_pages 271 = .ok (.aload_n 0, 1) := by decide +kernel
theorem dL_pages_272 : decode cL_pages 272 = .ok (.iconst 0, 1) := by decide +kernel
theorem dL_pages_273 : decode cL_pages 273 = .ok (.iconst 0, 1) := by decide +kernel
theorem dL_pages_274 : decode cL_pages 274 = .ok (.iconst 0, 1) := by decide +kernel
theorem dL_pages_275 : decode cL_pages 275 = .ok (.invokevirtual 51, 3) := by decide +kernel
theorem dL_pages_278 : decode cL_pages 278 = .ok (.iconst 5, 1) := by decide +kernel
theorem dL_pages_279 : decode cL_pages 279 = .ok (.if_icmp .ne 133, 3) := by decide +kernel
theorem dL_pages_282 : decode cL_pages 282 = .ok (.aload_n 0, 1) := by decide +kernel
theorem dL_pages_283 : decode cL_pages 283 = .ok (.iconst 0, 1) := by decide +kernel
theorem dL_pages_284 : decode cL_pages 284 = .ok (.iconst 0, 1) := by decide +kernel
theorem dL_pages_285 : decode cL_pages 285 = .ok (.iconst 1, 1) := by decide +kernel
theorem dL_pages_286 : decode cL_pages 286 = .ok (.invokevirtual 51, 3) := by decide +kernel
theorem dL_pages_289 : decode cL_pages 289 = .ok (.iconst (-1), 1) := by decide +kernel
theorem dL_pages_290 : decode cL_pages 290 = .ok (.if_icmp .ne 122, 3) := by decide +kernel
theorem dL_pages_293 : decode cL_pages 293 = .ok (.aload_n 0, 1) := by decide +kernel
theorem dL_pages_294 : decode cL_pages 294 = .ok (.iconst 1, 1) := by decide +kernel
theorem dL_pages_295 : decode cL_pages 295 = .ok (.iconst 5, 1) := by decide +kernel
theorem dL_pages_296 : decode cL_pages 296 = .ok (.iconst 1, 1) := by decide +kernel
theorem dL_pages_297 : decode cL_pages 297 = .ok (.invokevirtual 51, 3) := by decide +kernel
theorem dL_pages_300 : decode cL_pages 300 = .ok (.iconst 5, 1) := by decide +kernel
theorem dL_pages_301 : decode cL_pages 301 = .ok (.if_icmp .ne 111, 3) := by decide +kernel
theorem dL_pages_304 : decode cL_pages 304 = .ok (.aload_n 0, 1) := by decide +kernel
theorem dL_pages_305 : decode cL_pages 305 = .ok (.iconst 0, 1) := by decide +kernel
theorem dL_pages_306 : decode cL_pages 306 = .ok (.iconst 0, 1) := by decide +kernel
theorem dL_pages_307 : decode cL_pages 307 = .ok (.invokevirtual 55, 3) := by decide +kernel
theorem dL_pages_310 : decode cL_pages 310 = .ok (.iconst (-1), 1) := by decide +kernel
theorem dL_pages_311 : decode cL_pages 311 = .ok (.if_icmp .ne 101, 3) := by decide +kernel
theorem dL_pages_314 : decode cL_pages 314 = .ok (.aload_n 0, 1) := by decide +kernel
theorem dL_pages_315 : decode cL_pages 315 = .ok (.iconst 0, 1) := by decide +kernel
theorem dL_pages_316 : decode cL_pages 316 = .ok (.iconst 1, 1) := by decide +kernel
theorem dL_pages_317 : decode cL_pages 317 = .ok (.invokevirtual 55, 3) := by decide +kernel
theorem dL_pages_320 : decode cL_pages 320 = .ok (.bipush 8, 2) := by decide +kernel
theorem dL_pages_322 : decode cL_pages 322 = .ok (.if_icmp .ne 90, 3) := by decide +kernel
theorem dL_pages_325 : decode cL_pages 325 = .ok (.aload_n 0, 1) := by decide +kernel
theorem dL_pages_326 : decode cL_pages 326 = .ok (.iconst 2, 1) := by decide +kernel
theorem dL_pages_327 : decode cL_pages 327 = .ok (.iconst 1, 1) := by decide +kernel
theorem dL_pages_328 : decode cL_pages 328 = .ok (.invokevirtual 55, 3) := by decide +kernel
theorem dL_pages_331 : decode cL_pages 331 = .ok (.iconst 1, 1) := by decide +kernel
theorem dL_pages_332 : decode cL_pages 332 = .ok (.if_icmp .ne 80, 3) := by decide +kernel
theorem dL_pages_335 : decode cL_pages 335 = .ok (.aload_n 0, 1) := by decide +kernel
theorem dL_pages_336 : decode cL_pages 336 = .ok (.iconst 2, 1) := by decide +kernel
theorem dL_pages_337 : decode cL_pages 337 = .ok (.iconst 2, 1) := by decide +kernel
theorem dL_pages_338 : decode cL_pages 338 = .ok (.invokevirtual 55, 3) := by decide +kernel
theorem dL_pages_341 : decode cL_pages 341 = .ok (.ifCond .ne 71, 3) := by decide +kernel
theorem dL_pages_344 : decode cL_pages 344 = .ok (.aload_n 0, 1) := by decide +kernel
theorem dL_pages_345 : decode cL_pages 345 = .ok (.iconst 0, 1) := by decide +kernel
theorem dL_pages_346 : decode cL_pages 346 = .ok (.invokevirtual 58, 3) := by decide +kernel
theorem dL_pages_349 : decode cL_pages 349 = .ok (.bipush 8, 2) := by decide +kernel
theorem dL_pages_351 : decode cL_pages 351 = .ok (.if_icmp .ne 61, 3) := by decide +kernel
theorem dL_pages_354 : decode cL_pages 354 = .ok (.aload_n 0, 1) := by decide +kernel
theorem dL_pages_355 : decode cL_pages 355 = .ok (.iconst 1, 1) := by decide +kernel
theorem dL_pages_356 : decode cL_pages 356 = .ok (.invokevirtual 58, 3) := by decide +kernel
theorem dL_pages_359 : decode cL_pages 359 = .ok (.bipush 10, 2) := by decide +kernel
theorem dL_pages_361 : decode cL_pages 361 = .ok (.if_icmp .ne 51, 3) := by decide +kernel
theorem dL_pages_364 : decode cL_pages 364 = .ok (.aload_n 0, 1) := by decide +kernel
theorem dL_pages_365 : decode cL_pages 365 = .ok (.iconst 2, 1) := by decide +kernel
theorem dL_pages_366 : decode cL_pages 366 = .ok (.invokevirtual 58, 3) := by decide +kernel
theorem dL_pages_369 : decode cL_pages 369 = .ok (.iconst 1, 1) := by decide +kernel
theorem dL_pages_370 : decode cL_pages 370 = .ok (.if_icmp .ne 42, 3) := by decide +kernel
theorem dL_pages_373 : decode cL_pages 373 = .ok (.aload_n 0, 1) := by decide +kernel
theorem dL_pages_374 : decode cL_pages 374 = .ok (.iconst 3, 1) := by decide +kernel
theorem dL_pages_375 : decode cL_pages 375 = .ok (.invokevirtual 58, 3) := by decide +kernel
theorem dL_pages_378 : decode cL_pages 378 = .ok (.iconst 1, 1) := by decide +kernel
theorem dL_pages_379 : decode cL_pages 379 = .ok (.if_icmp .ne 33, 3) := by decide +kernel
theorem dL_pages_382 : decode cL_pages 382 = .ok (.aload_n 0, 1) := by decide +kernel
theorem dL_pages_383 : decode cL_pages 383 = .ok (.iconst 4, 1) := by decide +kernel
theorem dL_pages_384 : decode cL_pages 384 = .ok (.invokevirtual 58, 3) := by decide +kernel
theorem dL_pages_387 : decode cL_pages 387 = .ok (.iconst 1, 1) := by decide +kernel
theorem dL_pages_388 : decode cL_pages 388 = .ok (.if_icmp .ne 24, 3) := by decide +kernel
theorem dL_pages_391 : decode cL_pages 391 = .ok (.aload_n 0, 1) := by decide +kernel
theorem dL_pages_392 : decode cL_pages 392 = .ok (.bipush 6, 2) := by decide +kernel
theorem dL_pages_394 : decode cL_pages 394 = .ok (.invokevirtual 58, 3) := by decide +kernel
theorem dL_pages_397 : decode cL_pages 397 = .ok (.bipush 9, 2) := by decide +kernel
theorem dL_pages_399 : decode cL_pages 399 = .ok (.if_icmp .ne 13, 3) := by decide +kernel
theorem dL_pages_402 : decode cL_pages 402 = .ok (.aload_n 0, 1) := by decide +kernel
theorem dL_pages_403 : decode cL_pages 403 = .ok (.bipush 10, 2) := by decide +kernel
theorem dL_pages_405 : decode cL_pages 405 = .ok (.invokevirtual 58, 3) := by decide +kernel
theorem dL_pages_408 : decode cL_pages 408 = .ok (.iconst (-1), 1) := by decide +kernel
theorem dL_pages_409 : decode cL_pages 409 = .ok (.if_icmp .eq 5, 3) := by decide +kernel
theorem dL_pages_412 : decode cL_pages 412 = .ok (.iconst 0, 1) := by decide +kernel
theorem dL_pages_413 : decode cL_pages 413 = .ok (.ireturn, 1) := by decide +kernel
theorem dL_pages_414 : decode cL_pages 414 = .ok (.aload_n 0, 1) := by decide +kernel
theorem dL_pages_415 : decode cL_pages 415 = .ok (.iconst 3, 1) := by decide +kernel
theorem dL_pages_416 : decode cL_pages 416 = .ok (.iconst 1, 1) := by decide +kernel
theorem dL_pages_417 : decode cL_pages 417 = .ok (.invokevirtual 9, 3) := by decide +kernel
theorem dL_pages_420 : decode cL_pages 420 = .ok (.ifCond .ne 241, 3) := by decide +kernel
theorem dL_pages_423 : decode cL_pages 423 = .ok (.aload_n 0, 1) := by decide +kernel
theorem dL_pages_424 : decode cL_pages 424 = .ok (.iconst 3, 1) := by decide +kernel
theorem dL_pages_425 : decode cL_pages 425 = .ok (.iconst 0, 1) := by decide +kernel
theorem dL_pages_426 : decode cL_pages 426 = .ok (.invokevirtual 45, 3) := by decide +kernel
theorem dL_pages_429 : decode cL_pages 429 = .ok (.iconst 2, 1) := by decide +kernel
theorem dL_pages_430 : decode cL_pages 430 = .ok (.if_icmp .ne 231, 3) := by decide +kernel
theorem dL_pages_433 : decode cL_pages 433 = .ok (.aload_n 0, 1) := by decide +kernel
theorem dL_pages_434 : decode cL_pages 434 = .ok (.bipush 10, 2) := by decide +kernel
theorem dL_pages_436 : decode cL_pages 436 = .ok (.invokevirtual 58, 3) := by decide +kernel
theorem dL_pages_439 : decode cL_pages 439 = .ok (.iconst 1, 1) := by decide +kernel
theorem dL_pages_440 : decode cL_pages 440 = .ok (.if_icmp .ne 221, 3) := by decide +kernel
theorem dL_pages_443 : decode cL_pages 443 = .ok (.aload_n 0, 1) := by decide +kernel
theorem dL_pages_444 : decode cL_pages 444 = .ok (.iconst 4, 1) := by decide +kernel
theorem dL_pages_445 : decode cL_pages 445 = .ok (.iconst 2, 1) := by decide +kernel
theorem dL_pages_446 : decode cL_pages 446 = .ok (.iconst 0, 1) := by decide +kernel
theorem dL_pages_447 : decode cL_pages 447 = .ok (.iconst 0, 1) := by decide +kernel
theorem dL_pages_448 : decode cL_pages 448 = .ok (.invokestatic 89, 3) := by decide +kernel
theorem dL_pages_451 : decode cL_pages 451 = .ok (.bipush (-13), 2) := by decide +kernel
theorem dL_pages_453 : decode cL_pages 453 = .ok (.if_icmp .ne 208, 3) := by decide +kernel
theorem dL_pages_456 : decode cL_pages 456 = .ok (.aload_n 0, 1) := by decide +kernel
theorem dL_pages_457 : decode cL_pages 457 = .ok (.iconst 1, 1) := by decide +kernel
theorem dL_pages_458 : decode cL_pages 458 = .ok (.invokevirtual 26, 3) := by decide +kernel
theorem dL_pages_461 : decode cL_pages 461 = .ok (.bipush 7, 2) := by decide +kernel
theorem dL_pages_463 : decode cL_pages 463 = .ok (.if_icmp .ne 198, 3) := by decide +kernel
theorem dL_pages_466 : decode cL_pages 466 = .ok (.aload_n 0, 1) := by decide +kernel
theorem dL_pages_467 : decode cL_pages 467 = .ok (.iconst 1, 1) := by decide +kernel
theorem dL_pages_468 : decode cL_pages 468 = .ok (.iconst 0, 1) := by decide +kernel
theorem dL_pages_469 : decode cL_pages 469 = .ok (.invokevirtual 48, 3) := by decide +kernel
theorem dL_pages_472 : decode cL_pages 472 = .ok (.ifCond .ne 189, 3) := by decide +kernel
theorem dL_pages_475 : decode cL_pages 475 = .ok (.aload_n 0, 1) := by decide +kernel
theorem dL_pages_476 : decode cL_pages 476 = .ok (.iconst 1, 1) := by decide +kernel
theorem dL_pages_477 : decode cL_pages 477 = .ok (.iconst 1, 1) := by decide +kernel
theorem dL_pages_478 : decode cL_pages 478 = .ok (.invokevirtual 48, 3) := by decide +kernel
theorem dL_pages_481 : decode cL_pages 481 = .ok (.iconst (-1), 1) := by decide +kernel
theorem dL_pages_482 : decode cL_pages 482 = .ok (.if_icmp .ne 179, 3) := by decide +kernel
theorem dL_pages_485 : decode cL_pages 485 = .ok (.aload_n 0, 1) := by decide +kernel
theorem dL_pages_486 : decode cL_pages 486 = .ok (.iconst 1, 1) := by decide +kernel
theorem dL_pages_487 : decode cL_pages 487 = .ok (.iconst 5, 1) := by decide +kernel
theorem dL_pages_488 : decode cL_pages 488 = .ok (.invokevirtual 48, 3) := by decide +kernel
theorem dL_pages_491 : decode cL_pages 491 = .ok (.iconst 1, 1) := by decide +kernel
theorem dL_pages_492 : decode cL_pages 492 = .ok (.if_icmp .ne 169, 3) := by decide +kernel
theorem dL_pages_495 : decode cL_pages 495 = .ok (.aload_n 0, 1) := by decide +kernel
theorem dL_pages_496 : decode cL_pages 496 = .ok (.iconst 1, 1) := by decide +kernel
theorem dL_pages_497 : decode cL_pages 497 = .ok (.iconst 4, 1) := by decide +kernel
theorem dL_pages_498 : decode cL_pages 498 = .ok (.invokevirtual 48, 3) := by decide +kernel
theorem dL_pages_501 : decode cL_pages 501 = .ok (.bipush 8, 2) := by decide +kernel
theorem dL_pages_503 : decode cL_pages 503 = .ok (.if_icmp .ne 158, 3) := by decide +kernel
theorem dL_pages_506 : decode cL_pages 506 = .ok (.aload_n 0, 1) := by decide +kernel
theorem dL_pages_507 : decode cL_pages 507 = .ok (.bipush 7, 2) := by decide +kernel
theorem dL_pages_509 : decode cL_pages 509 = .ok (.invokevirtual 58, 3) := by decide +kernel
theorem dL_pages_512 : decode cL_pages 512 = .ok (.bipush 7, 2) := by decide +kernel
theorem dL_pages_514 : decode cL_pages 514 = .ok (.if_icmp .ne 147, 3) := by decide +kernel
theorem dL_pages_517 : decode cL_pages 517 = .ok (.aload_n 0, 1) := by decide +kernel
theorem dL_pages_518 : decode cL_pages 518 = .ok (.bipush 8, 2) := by decide +kernel
theorem dL_pages_520 : decode cL_pages 520 = .ok (.invokevirtual 58, 3) := by decide +kernel
theorem dL_pages_523 : decode cL_pages 523 = .ok (.iconst 1, 1) := by decide +kernel
theorem dL_pages_524 : decode cL_pages 524 = .ok (.if_icmp .ne 137, 3) := by decide +kernel
theorem dL_pages_527 : decode cL_pages 527 = .ok (.aload_n 0, 1) := by decide +kernel
theorem dL_pages_528 : decode cL_pages 528 = .ok (.bipush 9, 2) := by decide +kernel
theorem dL_pages_530 : decode cL_pages 530 = .ok (.invokevirtual 58, 3) := by decide +kernel
theorem dL_pages_533 : decode cL_pages 533 = .ok (.iconst 1, 1) := by decide +kernel
theorem dL_pages_534 : decode cL_pages 534 = .ok (.if_icmp .ne 127, 3) := by decide +kernel
theorem dL_pages_537 : decode cL_pages 537 = .ok (.aload_n 0, 1) := by decide +kernel
theorem dL_pages_538 : decode cL_pages 538 = .ok (.iconst 0, 1) := by decide +kernel
theorem dL_pages_539 : decode cL_pages 539 = .ok (.iconst 0, 1) := by decide +kernel
theorem dL_pages_540 : decode cL_pages 540 = .ok (.invokevirtual 45, 3) := by decide +kernel
theorem dL_pages_543 : decode cL_pages 543 = .ok (.iconst 3, 1) := by decide +kernel
theorem dL_pages_544 : decode cL_pages 544 = .ok (.if_icmp .ne 117, 3) := by decide +kernel
theorem dL_pages_547 : decode cL_pages 547 = .ok (.aload_n 0, 1) := by decide +kernel
theorem dL_pages_548 : decode cL_pages 548 = .ok (.iconst 4, 1) := by decide +kernel
theorem dL_pages_549 : decode cL_pages 549 = .ok (.iconst 1, 1) := by decide +kernel
theorem dL_pages_550 : decode cL_pages 550 = .ok (.invokevirtual 45, 3) := by decide +kernel
theorem dL_pages_553 : decode cL_pages 553 = .ok (.iconst 3, 1) := by decide +kernel
theorem dL_pages_554 : decode cL_pages 554 = .ok (.if_icmp .ne 107, 3) := by decide +kernel
theorem dL_pages_557 : decode cL_pages 557 = .ok (.aload_n 0, 1) := by decide +kernel
theorem dL_pages_558 : decode cL_pages 558 = .ok (.iconst 0, 1) := by decide +kernel
theorem dL_pages_559 : decode cL_pages 559 = .ok (.iconst 4, 1) := by decide +kernel
theorem dL_pages_560 : decode cL_pages 560 = .ok (.invokevirtual 45, 3) := by decide +kernel
theorem dL_pages_563 : decode cL_pages 563 = .ok (.iconst 1, 1) := by decide +kernel
theorem dL_pages_564 : decode cL_pages 564 = .ok (.if_icmp .ne 97, 3) := by decide +kernel
theorem dL_pages_567 : decode cL_pages 567 = .ok (.aload_n 0, 1) := by decide +kernel
theorem dL_pages_568 : decode cL_pages 568 = .ok (.iconst 0, 1) := by decide +kernel
theorem dL_pages_569 : decode cL_pages 569 = .ok (.iconst 5, 1) := by decide +kernel
theorem dL_pages_570 : decode cL_pages 570 = .ok (.invokevirtual 45, 3) := by decide +kernel
theorem dL_pages_573 : decode cL_pages 573 = .ok (.iconst 1, 1) := by decide +kernel
theorem dL_pages_574 : decode cL_pages 574 = .ok (.if_icmp .ne 87, 3) := by decide +kernel
theorem dL_pages_577 : decode cL_pages 577 = .ok (.aload_n 0, 1) := by decide +kernel
theorem dL_pages_578 : decode cL_pages 578 = .ok (.iconst 3, 1) := by decide +kernel
theorem dL_pages_579 : decode cL_pages 579 = .ok (.iconst 4, 1) := by decide +kernel
theorem dL_pages_580 : decode cL_pages 580 = .ok (.invokevirtual 45, 3) := by decide +kernel
theorem dL_pages_583 : decode cL_pages 583 = .ok (.ifCond .ne 78, 3) := by decide +kernel
theorem dL_pages_586 : decode cL_pages 586 = .ok (.aload_n 0, 1) := by decide +kernel
theorem dL_pages_587 : decode cL_pages 587 = .ok (.iconst 0, 1) := by decide +kernel
theorem dL_pages_588 : decode cL_pages 588 = .ok (.iconst 3, 1) := by decide +kernel
theorem dL_pages_589 : decode cL_pages 589 = .ok (.invokevirtual 55, 3) := by decide +kernel
theorem dL_pages_592 : decode cL_pages 592 = .ok (.bipush 7, 2) := by decide +kernel
theorem dL_pages_594 : decode cL_pages 594 = .ok (.if_icmp .ne 67, 3) := by decide +kernel
theorem dL_pages_597 : decode cL_pages 597 = .ok (.aload_n 0, 1) := by decide +kernel
theorem dL_pages_598 : decode cL_pages 598 = .ok (.iconst 0, 1) := by decide +kernel
theorem dL_pages_599 : decode cL_pages 599 = .ok (.iconst 4, 1) := by decide +kernel
theorem dL_pages_600 : decode cL_pages 600 = .ok (.invokevirtual 55, 3) := by decide +kernel
theorem dL_pages_603 : decode cL_pages 603 = .ok (.sipush 187, 3) := by decide +kernel
theorem dL_pages_606 : decode cL_pages 606 = .ok (.if_icmp .ne 55, 3) := by decide +kernel
theorem dL_pages_609 : decode cL_pages 609 = .ok (.aload_n 0, 1) := by decide +kernel
theorem dL_pages_610 : decode cL_pages 610 = .ok (.iconst 4, 1) := by decide +kernel
theorem dL_pages_611 : decode cL_pages 611 = .ok (.iconst 0, 1) := by decide +kernel
theorem dL_pages_612 : decode cL_pages 612 = .ok (.invokevirtual 55, 3) := by decide +kernel
theorem dL_pages_615 : decode cL_pages 615 = .ok (.iconst 3, 1) := by decide +kernel
theorem dL_pages_616 : decode cL_pages 616 = .ok (.if_icmp .ne 45, 3) := by decide +kernel
theorem dL_pages_619 : decode cL_pages 619 = .ok (.aload_n 0, 1) := by decide +kernel
theorem dL_pages_620 : decode cL_pages 620 = .ok (.iconst 4, 1) := by decide +kernel
theorem dL_pages_621 : decode cL_pages 621 = .ok (.iconst 1, 1) := by decide +kernel
theorem dL_pages_622 : decode cL_pages 622 = .ok (.invokevirtual 55, 3) := by decide +kernel
theorem dL_pages_625 : decode cL_pages 625 = .ok (.bipush 7, 2) := by decide +kernel
theorem dL_pages_627 : decode cL_pages 627 = .ok (.if_icmp .ne 34, 3) := by decide +kernel
theorem dL_pages_630 : decode cL_pages 630 = .ok (.aload_n 0, 1) := by decide +kernel
theorem dL_pages_631 : decode cL_pages 631 = .ok (.iconst 4, 1) := by decide +kernel
theorem dL_pages_632 : decode cL_pages 632 = .ok (.iconst 4, 1) := by decide +kernel
theorem dL_pages_633 : decode cL_pages 633 = .ok (.invokevirtual 55, 3) := by decide +kernel
theorem dL_pages_636 : decode cL_pages 636 = .ok (.bipush 100, 2) := by decide +kernel
theorem dL_pages_638 : decode cL_pages 638 = .ok (.if_icmp .ne 23, 3) := by decide +kernel
theorem dL_pages_641 : decode cL_pages 641 = .ok (.aload_n 0, 1) := by decide +kernel
theorem dL_pages_642 : decode cL_pages 642 = .ok (.iconst 4, 1) := by decide +kernel
theorem dL_pages_643 : decode cL_pages 643 = .ok (.iconst 2, 1) := by decide +kernel
theorem dL_pages_644 : decode cL_pages 644 = .ok (.invokevirtual 55, 3) := by decide +kernel
theorem dL_pages_647 : decode cL_pages 647 = .ok (.ifCond .ne 14, 3) := by decide +kernel
theorem dL_pages_650 : decode cL_pages 650 = .ok (.aload_n 0, 1) := by decide +kernel
theorem dL_pages_651 : decode cL_pages 651 = .ok (.invokevirtual 101, 3) := by decide +kernel
theorem dL_pages_654 : decode cL_pages 654 = .ok (.ldc2_w 105, 3) := by decide +kernel
theorem dL_pages_657 : decode cL_pages 657 = .ok (.dcmp .l, 1) := by decide +kernel
theorem dL_pages_658 : decode cL_pages 658 = .ok (.ifCond .eq 5, 3) := by decide +kernel
theorem dL_pages_661 : decode cL_pages 661 = .ok (.iconst 0, 1) := by decide +kernel
theorem dL_pages_662 : decode cL_pages 662 = .ok (.ireturn, 1) := by decide +kernel
theorem dL_pages_663 : decode cL_pages 663 = .ok (.aload_n 0, 1) := by decide +kernel
theorem dL_pages_664 : decode cL_pages 664 = .ok (.iconst 0, 1) := by decide +kernel
theorem dL_pages_665 : decode cL_pages 665 = .ok (.iconst 0, 1) := by decide +kernel
theorem dL_pages_666 : decode cL_pages 666 = .ok (.iconst 0, 1) := by decide +kernel
theorem dL_pages_667 : decode cL_pages 667 = .ok (.invokevirtual 64, 3) := by decide +kernel
theorem dL_pages_670 : decode cL_pages 670 = .ok (.ifCond .ne 261, 3) := by decide +kernel
theorem dL_pages_673 : decode cL_pages 673 = .ok (.aload_n 0, 1) := by decide +kernel
theorem dL_pages_674 : decode cL_pages 674 = .ok (.iconst 0, 1) := by decide +kernel
theorem dL_pages_675 : decode cL_pages 675 = .ok (.iconst 0, 1) := by decide +kernel
theorem dL_pages_676 : decode cL_pages 676 = .ok (.iconst 1, 1) := by decide +kernel
theorem dL_pages_677 : decode cL_pages 677 = .ok (.invokevirtual 64, 3) := by decide +kernel
theorem dL_pages_680 : decode cL_pages 680 = .ok (.iconst 4, 1) := by decide +kernel
theorem dL_pages_681 : decode cL_pages 681 = .ok (.if_icmp .ne 250, 3) := by decide +kernel
theorem dL_pages_684 : decode cL_pages 684 = .ok (.aload_n 0, 1) := by decide +kernel
theorem dL_pages_685 : decode cL_pages 685 = .ok (.iconst 0, 1) := by decide +kernel
theorem dL_pages_686 : decode cL_pages 686 = .ok (.iconst 0, 1) := by decide +kernel
theorem dL_pages_687 : decode cL_pages 687 = .ok (.iconst 2, 1) := by decide +kernel
theorem dL_pages_688 : decode cL_pages 688 = .ok (.invokevirtual 64, 3) := by decide +kernel
theorem dL_pages_691 : decode cL_pages 691 = .ok (.ifCond .ne 240, 3) := by decide +kernel
theorem dL_pages_694 : decode cL_pages 694 = .ok (.aload_n 0, 1) := by decide +kernel
theorem dL_pages_695 : decode cL_pages 695 = .ok (.iconst 5, 1) := by decide +kernel
theorem dL_pages_696 : decode cL_pages 696 = .ok (.iconst 3, 1) := by decide +kernel
theorem dL_pages_697 : decode cL_pages 697 = .ok (.invokevirtual 23, 3) := by decide +kernel
theorem dL_pages_700 : decode cL_pages 700 = .ok (.ifCond .ne 231, 3) := by decide +kernel
theorem dL_pages_703 : decode cL_pages 703 = .ok (.aload_n 0, 1) := by decide +kernel
theorem dL_pages_704 : decode cL_pages 704 = .ok (.iconst 3, 1) := by decide +kernel
theorem dL_pages_705 : decode cL_pages 705 = .ok (.iconst 2, 1) := by decide +kernel
theorem dL_pages_706 : decode cL_pages 706 = .ok (.invokevirtual 55, 3) := by decide +kernel
theorem dL_pages_709 : decode cL_pages 709 = .ok (.iconst 1, 1) := by decide +kernel
theorem dL_pages_710 : decode cL_pages 710 = .ok (.if_icmp .ne 221, 3) := by decide +kernel
theorem dL_pages_713 : decode cL_pages 713 = .ok (.aload_n 0, 1) := by decide +kernel
theorem dL_pages_714 : decode cL_pages 714 = .ok (.iconst 0, 1) := by decide +kernel
theorem dL_pages_715 : decode cL_pages 715 = .ok (.iconst 2, 1) := by decide +kernel
theorem dL_pages_716 : decode cL_pages 716 = .ok (.invokevirtual 55, 3) := by decide +kernel
theorem dL_pages_719 : decode cL_pages 719 = .ok (.bipush 6, 2) := by decide +kernel
theorem dL_pages_721 : decode cL_pages 721 = .ok (.if_icmp .ne 210, 3) := by decide +kernel
theorem dL_pages_724 : decode cL_pages 724 = .ok (.aload_n 0, 1) := by decide +kernel
theorem dL_pages_725 : decode cL_pages 725 = .ok (.iconst 3, 1) := by decide +kernel
theorem dL_pages_726 : decode cL_pages 726 = .ok (.bipush 7, 2) := by decide +kernel
theorem dL_pages_728 : decode cL_pages 728 = .ok (.invokevirtual 48, 3) := by decide +kernel
theorem dL_pages_731 : decode cL_pages 731 = .ok (.iconst 2, 1) := by decide +kernel
theorem dL_pages_732 : decode cL_pages 732 = .ok (.if_icmp .ne 199, 3) := by decide +kernel
theorem dL_pages_735 : decode cL_pages 735 = .ok (.aload_n 0, 1) := by decide +kernel
theorem dL_pages_736 : decode cL_pages 736 = .ok (.invokestatic 107, 3) := by decide +kernel
theorem dL_pages_739 : decode cL_pages 739 = .ok (.ifCond .eq 192, 3) := by decide +kernel
theorem dL_pages_742 : decode cL_pages 742 = .ok (.aload_n 0, 1) := by decide +kernel
theorem dL_pages_743 : decode cL_pages 743 = .ok (.iconst 5, 1) := by decide +kernel
theorem dL_pages_744 : decode cL_pages 744 = .ok (.invokevirtual 19, 3) := by decide +kernel
theorem dL_pages_747 : decode cL_pages 747 = .ok (.iconst 3, 1) := by decide +kernel
theorem dL_pages_748 : decode cL_pages 748 = .ok (.if_icmp .ne 183, 3) := by decide +kernel
theorem dL_pages_751 : decode cL_pages 751 = .ok (.aload_n 0, 1) := by decide +kernel
theorem dL_pages_752 : decode cL_pages 752 = .ok (.iconst 5, 1) := by decide +kernel
theorem dL_pages_753 : decode cL_pages 753 = .ok (.iconst 0, 1) := by decide +kernel
theorem dL_pages_754 : decode cL_pages 754 = .ok (.invokevirtual 45, 3) := by decide +kernel
theorem dL_pages_757 : decode cL_pages 757 = .ok (.iconst (-1), 1) := by decide +kernel
theorem dL_pages_758 : decode cL_pages 758 = .ok (.if_icmp .ne 173, 3) := by decide +kernel
theorem dL_pages_761 : decode cL_pages 761 = .ok (.aload_n 0, 1) := by decide +kernel
theorem dL_pages_762 : decode cL_pages 762 = .ok (.iconst 5, 1) := by decide +kernel
theorem dL_pages_763 : decode cL_pages 763 = .ok (.iconst 2, 1) := by decide +kernel
theorem dL_pages_764 : decode cL_pages 764 = .ok (.invokevirtual 45, 3) := by decide +kernel
theorem dL_pages_767 : decode cL_pages 767 = .ok (.iconst (-1), 1) := by decide +kernel
theorem dL_pages_768 : decode cL_pages 768 = .ok (.if_icmp .ne 163, 3) := by decide +kernel
theorem dL_pages_771 : decode cL_pages 771 = .ok (.aload_n 0, 1) := by decide +kernel
theorem dL_pages_772 : decode cL_pages 772 = .ok (.iconst 5, 1) := by decide +kernel
theorem dL_pages_773 : decode cL_pages 773 = .ok (.iconst 3, 1) := by decide +kernel
theorem dL_pages_774 : decode cL_pages 774 = .ok (.invokevirtual 45, 3) := by decide +kernel
theorem dL_pages_777 : decode cL_pages 777 = .ok (.iconst 2, 1) := by decide +kernel
theorem dL_pages_778 : decode cL_pages 778 = .ok (.if_icmp .ne 153, 3) := by decide +kernel
theorem dL_pages_781 : decode cL_pages 781 = .ok (.aload_n 0, 1) := by decide +kernel
theorem dL_pages_782 : decode cL_pages 782 = .ok (.iconst 5, 1) := by decide +kernel
theorem dL_pages_783 : decode cL_pages 783 = .ok (.iconst 4, 1) := by decide +kernel
theorem dL_pages_784 : decode cL_pages 784 = .ok (.invokevirtual 45, 3) := by decide +kernel
theorem dL_pages_787 : decode cL_pages 787 = .ok (.iconst 1, 1) := by decide +kernel
theorem dL_pages_788 : decode cL_pages 788 = .ok (.if_icmp .ne 143, 3) := by decide +kernel
theorem dL_pages_791 : decode cL_pages 791 = .ok (.aload_n 0, 1) := by decide +kernel
theorem dL_pages_792 : decode cL_pages 792 = .ok (.iconst 5, 1) := by decide +kernel
theorem dL_pages_793 : decode cL_pages 793 = .ok (.iconst 5, 1) := by decide +kernel
theorem dL_pages_794 : decode cL_pages 794 = .ok (.invokevirtual 45, 3) := by decide +kernel
theorem dL_pages_797 : decode cL_pages 797 = .ok (.ifCond .ne 134, 3) := by decide +kernel
theorem dL_pages_800 : decode cL_pages 800 = .ok (.aload_n 0, 1) := by decide +kernel
theorem dL_pages_801 : decode cL_pages 801 = .ok (.iconst 5, 1) := by decide +kernel
theorem dL_pages_802 : decode cL_pages 802 = .ok (.invokevirtual 19, 3) := by decide +kernel
theorem dL_pages_805 : decode cL_pages 805 = .ok (.iconst (-1), 1) := by decide +kernel
theorem dL_pages_806 : decode cL_pages 806 = .ok (.if_icmp .ne 125, 3) := by decide +kernel
theorem dL_pages_809 : decode cL_pages 809 = .ok (.aload_n 0, 1) := by decide +kernel
theorem dL_pages_810 : decode cL_pages 810 = .ok (.iconst 3, 1) := by decide +kernel
theorem dL_pages_811 : decode cL_pages 811 = .ok (.iconst 5, 1) := by decide +kernel
theorem dL_pages_812 : decode cL_pages 812 = .ok (.iconst 1, 1) := by decide +kernel
theorem dL_pages_813 : decode cL_pages 813 = .ok (.iconst 0, 1) := by decide +kernel
theorem dL_pages_814 : decode cL_pages 814 = .ok (.invokestatic 89, 3) := by decide +kernel
theorem dL_pages_817 : decode cL_pages 817 = .ok (.bipush (-13), 2) := by decide +kernel
theorem dL_pages_819 : decode cL_pages 819 = .ok (.if_icmp .ne 112, 3) := by decide +kernel
theorem dL_pages_822 : decode cL_pages 822 = .ok (.aload_n 0, 1) := by decide +kernel
theorem dL_pages_823 : decode cL_pages 823 = .ok (.bipush 12, 2) := by decide +kernel
theorem dL_pages_825 : decode cL_pages 825 = .ok (.invokevirtual 29, 3) := by decide +kernel
theorem dL_pages_828 : decode cL_pages 828 = .ok (.ifCond .ne 103, 3) := by decide +kernel
theorem dL_pages_831 : decode cL_pages 831 = .ok (.aload_n 0, 1) := by decide +kernel
theorem dL_pages_832 : decode cL_pages 832 = .ok (.bipush 11, 2) := by decide +kernel
theorem dL_pages_834 : decode cL_pages 834 = .ok (.invokevirtual 58, 3) := by decide +kernel
theorem dL_pages_837 : decode cL_pages 837 = .ok (.bipush 6, 2) := by decide +kernel
theorem dL_pages_839 : decode cL_pages 839 = .ok (.if_icmp .ne 92, 3) := by decide +kernel
theorem dL_pages_842 : decode cL_pages 842 = .ok (.aload_n 0, 1) := by decide +kernel
theorem dL_pages_843 : decode cL_pages 843 = .ok (.iconst 3, 1) := by decide +kernel
theorem dL_pages_844 : decode cL_pages 844 = .ok (.bipush 7, 2) := by decide +kernel
theorem dL_pages_846 : decode cL_pages 846 = .ok (.invokevirtual 48, 3) := by decide +kernel
theorem dL_pages_849 : decode cL_pages 849 = .ok (.iconst 1, 1) := by decide +kernel
theorem dL_pages_850 : decode cL_pages 850 = .ok (.if_icmp .ne 81, 3) := by decide +kernel
theorem dL_pages_853 : decode cL_pages 853 = .ok (.aload_n 0, 1) := by decide +kernel
theorem dL_pages_854 : decode cL_pages 854 = .ok (.invokevirtual 42, 3) := by decide +kernel
theorem dL_pages_857 : decode cL_pages 857 = .ok (.iconst 5, 1) := by decide +kernel
theorem dL_pages_858 : decode cL_pages 858 = .ok (.if_icmp .ne 73, 3) := by decide +kernel
theorem dL_pages_861 : decode cL_pages 861 = .ok (.aload_n 0, 1) := by decide +kernel
theorem dL_pages_862 : decode cL_pages 862 = .ok (.invokevirtual 42, 3) := by decide +kernel
theorem dL_pages_865 : decode cL_pages 865 = .ok (.iconst 4, 1) := by decide +kernel
theorem dL_pages_866 : decode cL_pages 866 = .ok (.if_icmp .ne 65, 3) := by decide +kernel
theorem dL_pages_869 : decode cL_pages 869 = .ok (.aload_n 0, 1) := by decide +kernel
theorem dL_pages_870 : decode cL_pages 870 = .ok (.invokevirtual 42, 3) := by decide +kernel
theorem dL_pages_873 : decode cL_pages 873 = .ok (.iconst 3, 1) := by decide +kernel
theorem dL_pages_874 : decode cL_pages 874 = .ok (.if_icmp .ne 57, 3) := by decide +kernel
theorem dL_pages_877 : decode cL_pages 877 = .ok (.aload_n 0, 1) := by decide +kernel
theorem dL_pages_878 : decode cL_pages 878 = .ok (.iconst 5, 1) := by decide +kernel
theorem dL_pages_879 : decode cL_pages 879 = .ok (.iconst 2, 1) := by decide +kernel
theorem dL_pages_880 : decode cL_pages 880 = .ok (.invokevirtual 45, 3) := by decide +kernel
theorem dL_pages_883 : decode cL_pages 883 = .ok (.iconst 3, 1) := by decide +kernel
theorem dL_pages_884 : decode cL_pages 884 = .ok (.if_icmp .ne 47, 3) := by decide +kernel
theorem dL_pages_887 : decode cL_pages 887 = .ok (.aload_n 0, 1) := by decide +kernel
theorem dL_pages_888 : decode cL_pages 888 = .ok (.invokevirtual 42, 3) := by decide +kernel
theorem dL_pages_891 : decode cL_pages 891 = .ok (.iconst 2, 1) := by decide +kernel
theorem dL_pages_892 : decode cL_pages 892 = .ok (.if_icmp .ne 39, 3) := by decide +kernel
theorem dL_pages_895 : decode cL_pages 895 = .ok (.aload_n 0, 1) := by decide +kernel
theorem dL_pages_896 : decode cL_pages 896 = .ok (.iconst 5, 1) := by decide +kernel
theorem dL_pages_897 : decode cL_pages 897 = .ok (.iconst 2, 1) := by decide +kernel
theorem dL_pages_898 : decode cL_pages 898 = .ok (.invokevirtual 45, 3) := by decide +kernel
theorem dL_pages_901 : decode cL_pages 901 = .ok (.ifCond .ne 30, 3) := by decide +kernel
theorem dL_pages_904 : decode cL_pages 904 = .ok (.aload_n 0, 1) := by decide +kernel
theorem dL_pages_905 : decode cL_pages 905 = .ok (.invokevirtual 42, 3) := by decide +kernel
theorem dL_pages_908 : decode cL_pages 908 = .ok (.iconst 1, 1) := by decide +kernel
theorem dL_pages_909 : decode cL_pages 909 = .ok (.if_icmp .ne 22, 3) := by decide +kernel
theorem dL_pages_912 : decode cL_pages 912 = .ok (.aload_n 0, 1) := by decide +kernel
theorem dL_pages_913 : decode cL_pages 913 = .ok (.iconst 1, 1) := by decide +kernel
theorem dL_pages_914 : decode cL_pages 914 = .ok (.iconst 0, 1) := by decide +kernel
theorem dL_pages_915 : decode cL_pages 915 = .ok (.invokevirtual 48, 3) := by decide +kernel
theorem dL_pages_918 : decode cL_pages 918 = .ok (.iconst 2, 1) := by decide +kernel
theorem dL_pages_919 : decode cL_pages 919 = .ok (.if_icmp .ne 12, 3) := by decide +kernel
theorem dL_pages_922 : decode cL_pages 922 = .ok (.aload_n 0, 1) := by decide +kernel
theorem dL_pages_923 : decode cL_pages 923 = .ok (.bipush 8, 2) := by decide +kernel
theorem dL_pages_925 : decode cL_pages 925 = .ok (.invokevirtual 58, 3) := by decide +kernel
theorem dL_pages_928 : decode cL_pages 928 = .ok (.ifCond .eq 5, 3) := by decide +kernel
theorem dL_pages_931 : decode cL_pages 931 = .ok (.iconst 0, 1) := by decide +kernel
theorem dL_pages_932 : decode cL_pages 932 = .ok (.ireturn, 1) := by decide +kernel
theorem dL_pages_933 : decode cL_pages 933 = .ok (.new 10, 3) := by decide +kernel
theorem dL_pages_936 : decode cL_pages 936 = .ok (.dup, 1) := by decide +kernel
theorem dL_pages_937 : decode cL_pages 937 = .ok (.invokespecial 100, 3) := by decide +kernel
theorem dL_pages_940 : decode cL_pages 940 = .ok (.astore_n 1, 1) := by decide +kernel
theorem dL_pages_941 : decode cL_pages 941 = .ok (.aload_n 1, 1) := by decide +kernel
theorem dL_pages_942 : decode cL_pages 942 = .ok (.iconst 0, 1) := by decide +kernel
theorem dL_pages_943 : decode cL_pages 943 = .ok (.bipush 40, 2) := by decide +kernel
theorem dL_pages_945 : decode cL_pages 945 = .ok (.iconst 1, 1) := by decide +kernel
theorem dL_pages_946 : decode cL_pages 946 = .ok (.invokevirtual 15, 3) := by decide +kernel
theorem dL_pages_949 : decode cL_pages 949 = .ok (.ifCond .ne 176, 3) := by decide +kernel
theorem dL_pages_952 : decode cL_pages 952 = .ok (.aload_n 1, 1) := by decide +kernel
theorem dL_pages_953 : decode cL_pages 953 = .ok (.iconst 1, 1) := by decide +kernel
theorem dL_pages_954 : decode cL_pages 954 = .ok (.invokevirtual 58, 3) := by decide +kernel
theorem dL_pages_957 : decode cL_pages 957 = .ok (.bipush 7, 2) := by decide +kernel
theorem dL_pages_959 : decode cL_pages 959 = .ok (.if_icmp .ne 166, 3) := by decide +kernel
theorem dL_pages_962 : decode cL_pages 962 = .ok (.aload_n 1, 1) := by decide +kernel
theorem dL_pages_963 : decode cL_pages 963 = .ok (.iconst 3, 1) := by decide +kernel
theorem dL_pages_964 : decode cL_pages 964 = .ok (.invokevirtual 58, 3) := by decide +kernel
theorem dL_pages_967 : decode cL_pages 967 = .ok (.iconst 5, 1) := by decide +kernel
theorem dL_pages_968 : decode cL_pages 968 = .ok (.if_icmp .ne 157, 3) := by decide +kernel
theorem dL_pages_971 : decode cL_pages 971 = .ok (.aload_n 1, 1) := by decide +kernel
theorem dL_pages_972 : decode cL_pages 972 = .ok (.iconst 4, 1) := by decide +kernel
theorem dL_pages_973 : decode cL_pages 973 = .ok (.bipush 6, 2) := by decide +kernel
theorem dL_pages_975 : decode cL_pages 975 = .ok (.invokevirtual 48, 3) := by decide +kernel
theorem dL_pages_978 : decode cL_pages 978 = .ok (.iconst 4, 1) := by decide +kernel
theorem dL_pages_979 : decode cL_pages 979 = .ok (.if_icmp .ne 146, 3) := by decide +kernel
theorem dL_pages_982 : decode cL_pages 982 = .ok (.aload_n 1, 1) := by decide +kernel
theorem dL_pages_983 : decode cL_pages 983 = .ok (.iconst 0, 1) := by decide +kernel
theorem dL_pages_984 : decode cL_pages 984 = .ok (.bipush 40, 2) := by decide +kernel
theorem dL_pages_986 : decode cL_pages 986 = .ok (.iconst 1, 1) := by decide +kernel
theorem dL_pages_987 : decode cL_pages 987 = .ok (.invokevirtual 15, 3) := by decide +kernel
theorem dL_pages_990 : decode cL_pages 990 = .ok (.ifCond .ne 135, 3) := by decide +kernel
theorem dL_pages_993 : decode cL_pages 993 = .ok (.aload_n 1, 1) := by decide +kernel
theorem dL_pages_994 : decode cL_pages 994 = .ok (.iconst 1, 1) := by decide +kernel
theorem dL_pages_995 : decode cL_pages 995 = .ok (.invokevirtual 58, 3) := by decide +kernel
theorem dL_pages_998 : decode cL_pages 998 = .ok (.iconst 2, 1) := by decide +kernel
theorem dL_pages_999 : decode cL_pages 999 = .ok (.if_icmp .ne 126, 3) := by decide +kernel
theorem dL_pages_1002 : decode cL_pages 1002 = .ok (.aload_n 1, 1) := by decide +kernel
theorem dL_pages_1003 : decode cL_pages 1003 = .ok (.iconst 4, 1) := by decide +kernel
theorem dL_pages_1004 : decode cL_pages 1004 = .ok (.invokevirtual 58, 3) := by decide +kernel
theorem dL_pages_1007 : decode cL_pages 1007 = .ok (.bipush 40, 2) := by decide +kernel
theorem dL_pages_1009 : decode cL_pages 1009 = .ok (.if_icmp .ne 116, 3) := by decide +kernel
theorem dL_pages_1012 : decode cL_pages 1012 = .ok (.aload_n 1, 1) := by decide +kernel
theorem dL_pages_1013 : decode cL_pages 1013 = .ok (.bipush 10, 2) := by decide +kernel
theorem dL_pages_1015 : decode cL_pages 1015 = .ok (.invokevirtual 58, 3) := by decide +kernel
theorem dL_pages_1018 : decode cL_pages 1018 = .ok (.ifCond .ne 107, 3) := by decide +kernel
theorem dL_pages_1021 : decode cL_pages 1021 = .ok (.aload_n 1, 1) := by decide +kernel
theorem dL_pages_1022 : decode cL_pages 1022 = .ok (.iconst 0, 1) := by decide +kernel
theorem dL_pages_1023 : decode cL_pages 1023 = .ok (.iconst 2, 1) := by decide +kernel
theorem dL_pages_1024 : decode cL_pages 1024 = .ok (.invokevirtual 9, 3) := by decide +kernel
theorem dL_pages_1027 : decode cL_pages 1027 = .ok (.ifCond .ne 98, 3) := by decide +kernel
theorem dL_pages_1030 : decode cL_pages 1030 = .ok (.aload_n 1, 1) := by decide +kernel
theorem dL_pages_1031 : decode cL_pages 1031 = .ok (.iconst 1, 1) := by decide +kernel
theorem dL_pages_1032 : decode cL_pages 1032 = .ok (.invokevirtual 58, 3) := by decide +kernel
theorem dL_pages_1035 : decode cL_pages 1035 = .ok (.iconst 1, 1) := by decide +kernel
theorem dL_pages_1036 : decode cL_pages 1036 = .ok (.if_icmp .ne 89, 3) := by decide +kernel
theorem dL_pages_1039 : decode cL_pages 1039 = .ok (.aload_n 1, 1) := by decide +kernel
theorem dL_pages_1040 : decode cL_pages 1040 = .ok (.iconst 1, 1) := by decide +kernel
theorem dL_pages_1041 : decode cL_pages 1041 = .ok (.iconst 2, 1) := by decide +kernel
theorem dL_pages_1042 : decode cL_pages 1042 = .ok (.invokevirtual 9, 3) := by decide +kernel
theorem dL_pages_1045 : decode cL_pages 1045 = .ok (.ifCond .ne 80, 3) := by decide +kernel
theorem dL_pages_1048 : decode cL_pages 1048 = .ok (.aload_n 1, 1) := by decide +kernel
theorem dL_pages_1049 : decode cL_pages 1049 = .ok (.iconst 1, 1) := by decide +kernel
theorem dL_pages_1050 : decode cL_pages 1050 = .ok (.invokevirtual 58, 3) := by decide +kernel
theorem dL_pages_1053 : decode cL_pages 1053 = .ok (.iconst 2, 1) := by decide +kernel
theorem dL_pages_1054 : decode cL_pages 1054 = .ok (.if_icmp .ne 71, 3) := by decide +kernel
theorem dL_pages_1057 : decode cL_pages 1057 = .ok (.aload_n 1, 1) := by decide +kernel
theorem dL_pages_1058 : decode cL_pages 1058 = .ok (.bipush 8, 2) := by decide +kernel
theorem dL_pages_1060 : decode cL_pages 1060 = .ok (.invokevirtual 58, 3) := by decide +kernel
theorem dL_pages_1063 : decode cL_pages 1063 = .ok (.iconst 1, 1) := by decide +kernel
theorem dL_pages_1064 : decode cL_pages 1064 = .ok (.if_icmp .ne 61, 3) := by decide +kernel
theorem dL_pages_1067 : decode cL_pages 1067 = .ok (.aload_n 1, 1) := by decide +kernel
theorem dL_pages_1068 : decode cL_pages 1068 = .ok (.iconst 0, 1) := by decide +kernel
theorem dL_pages_1069 : decode cL_pages 1069 = .ok (.iconst 5, 1) := by decide +kernel
theorem dL_pages_1070 : decode cL_pages 1070 = .ok (.invokevirtual 48, 3) := by decide +kernel
theorem dL_pages_1073 : decode cL_pages 1073 = .ok (.iconst 1, 1) := by decide +kernel
theorem dL_pages_1074 : decode cL_pages 1074 = .ok (.if_icmp .ne 51, 3) := by decide +kernel
theorem dL_pages_1077 : decode cL_pages 1077 = .ok (.aload_n 1, 1) := by decide +kernel
theorem dL_pages_1078 : decode cL_pages 1078 = .ok (.iconst 1, 1) := by decide +kernel
theorem dL_pages_1079 : decode cL_pages 1079 = .ok (.iconst 4, 1) := by decide +kernel
theorem dL_pages_1080 : decode cL_pages 1080 = .ok (.invokevirtual 32, 3) := by decide +kernel
theorem dL_pages_1083 : decode cL_pages 1083 = .ok (.iconst 2, 1) := by decide +kernel
theorem dL_pages_1084 : decode cL_pages 1084 = .ok (.if_icmp .ne 41, 3) := by decide +kernel
theorem dL_pages_1087 : decode cL_pages 1087 = .ok (.aload_n 1, 1) := by decide +kernel
theorem dL_pages_1088 : decode cL_pages 1088 = .ok (.iconst 4, 1) := by decide +kernel
theorem dL_pages_1089 : decode cL_pages 1089 = .ok (.invokevirtual 29, 3) := by decide +kernel
theorem dL_pages_1092 : decode cL_pages 1092 = .ok (.iconst 2, 1) := by decide +kernel
theorem dL_pages_1093 : decode cL_pages 1093 = .ok (.if_icmp .ne 32, 3) := by decide +kernel
theorem dL_pages_1096 : decode cL_pages 1096 = .ok (.aload_n 1, 1) := by decide +kernel
theorem dL_pages_1097 : decode cL_pages 1097 = .ok (.iconst 1, 1) := by decide +kernel
theorem dL_pages_1098 : decode cL_pages 1098 = .ok (.invokevirtual 58, 3) := by decide +kernel
theorem dL_pages_1101 : decode cL_pages 1101 = .ok (.iconst 4, 1) := by decide +kernel
theorem dL_pages_1102 : decode cL_pages 1102 = .ok (.if_icmp .ne 23, 3) := by decide +kernel
theorem dL_pages_1105 : decode cL_pages 1105 = .ok (.aload_n 1, 1) := by decide +kernel
theorem dL_pages_1106 : decode cL_pages 1106 = .ok (.bipush 7, 2) := by decide +kernel
theorem dL_pages_1108 : decode cL_pages 1108 = .ok (.invokevirtual 58, 3) := by decide +kernel
theorem dL_pages_1111 : decode cL_pages 1111 = .ok (.ifCond .ne 14, 3) := by decide +kernel
theorem dL_pages_1114 : decode cL_pages 1114 = .ok (.aload_n 1, 1) := by decide +kernel
theorem dL_pages_1115 : decode cL_pages 1115 = .ok (.invokestatic 107, 3) := by decide +kernel
theorem dL_pages_1118 : decode cL_pages 1118 = .ok (.ifCond .eq 7, 3) := by decide +kernel
theorem dL_pages_1121 : decode cL_pages 1121 = .ok (.iconst 1, 1) := by decide +kernel
theorem dL_pages_1122 : decode cL_pages 1122 = .ok (.goto 4, 3) := by decide +kernel
theorem dL_pages_1125 : decode cL_pages 1125 = .ok (.iconst 0, 1) := by decide +kernel
theorem dL_pages_1126 : decode cL_pages 1126 = .ok (.ireturn, 1) := by decide +kernel
