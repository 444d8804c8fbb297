set_option maxRecDepth 20000 in
theorem ggL_law_L_texts_14 : GoodIn wsL_law wsL_texts_r14 := goodIn_r _ [283, 284, 285, 286, 287, 288, 289, 290, 291, 292, 293, 294, 295, 296, 297, 298, 299, 300, 301, 302, 303, 304, 305, 306] rfl (by decide +kernel)
set_option maxRecDepth 20000 in
theorem ggL_law_L_texts_15 : GoodIn wsL_law wsL_texts_r15 := goodIn_r _ [307, 308, 309, 310, 311, 312, 313, 314, 315, 316, 317, 318, 319, 320, 321, 322, 323, 324, 325, 326, 327, 328, 329, 330] rfl (by decide +kernel)
set_option maxRecDepth 20000 in
theorem ggL_law_L_texts_16 : GoodIn wsL_law wsL_texts_r16 := goodIn_r _ [331, 332, 333, 334, 335, 336, 337, 338, 339, 340, 341, 342, 343, 344, 345, 346, 347, 348, 349, 350, 351, 352, 353, 354] rfl (by decide +kernel)
set_option maxRecDepth 20000 in
theorem ggL_law_L_texts_17 : GoodIn wsL_law wsL_texts_r17 := goodIn_r _ [355, 356, 357, 358, 359, 360, 361, 362, 363, 364, 365, 366, 367, 368, 369, 423, 424, 425, 426] rfl (by decide +kernel)
set_option maxRecDepth 20000 in
theorem ggL_law_L_texts_18 : GoodIn wsL_law wsX20 := goodIn_r _ [470, 471, 472, 473, 474, 475, 476] rfl (by decide +kernel)
set_option maxRecDepth 20000 in
theorem ggL_law_L_texts_19 : GoodIn wsL_law wsX10 := goodIn_r _ [477, 478, 479, 480, 481, 482, 483, 484, 485, 486, 487, 488, 489, 490, 491, 492, 493] rfl (by decide +kernel)
set_option maxRecDepth 20000 in
theorem ggL_law_L_texts_20 : GoodIn wsL_law wsX00 := goodIn_r _ [494, 495, 496, 497] rfl (by decide +kernel)
set_option maxRecDepth 20000 in
theorem ggL_law_L_texts : GoodIn wsL_law wsL_texts := goodIn_ca (goodIn_ca (goodIn_ca ((goodIn_ca (goodIn_ca (goodIn_ca (goodIn_ca ggL_law_L_texts_1 (goodIn_app ggL_law_L_texts_2 (goodIn_app ggL_law_L_texts_3 (goodIn_app ggL_law_L_texts_4 (goodIn_app ggL_law_L_texts_5 (goodIn_app ggL_law_L_texts_6 (goodIn_app ggL_law_L_texts_7 (goodIn_app ggL_law_L_texts_8 (goodIn_app ggL_law_L_texts_9 (goodIn_app ggL_law_L_texts_10 (goodIn_app ggL_law_L_texts_11 (goodIn_app ggL_law_L_texts_12 (goodIn_app ggL_law_L_texts_13 (goodIn_app ggL_law_L_texts_14 (goodIn_app ggL_law_L_texts_15 (goodIn_app ggL_law_L_texts_16 ggL_law_L_texts_17)))))))))))))))) ggL_law_L_texts_18) ggL_law_L_texts_19) ggL_law_L_texts_20)) (goodIn_sub (fun _ h => List.mem_append_left _ (List.mem_append_right _ h)) (by decide +kernel))) (goodIn_sub (fun _ h => List.mem_append_right _ h) (by decide +kernel))) (goodIn_sub (fun _ h => List.mem_append_left _ (List.mem_append_left _ (List.mem_append_right _ h))) (by decide +kernel))
set_option maxRecDepth 20000 in
theorem gL_law_L_texts : GoodIn wsL_law (va_wsS RL 177 yL_texts wsL_texts) := goodIn_app (goodIn_of _ (by decide +kernel)) ggL_law_L_texts
set_option maxRecDepth 20000 in
theorem ggL_law_X2_init : GoodIn wsL_law wsX2_init := goodIn_r _ [11, 12, 13, 14, 15, 16, 17, 18, 19, 20, 21, 22, 23, 24, 25, 26, 27, 28, 29, 30, 31, 32, 33, 34, 35, 36, 37, 38, 39, 40, 41, 42, 43, 44, 45, 46, 47, 48, 49, 50, 51, 52, 53, 54, 55, 56, 57, 58, 59, 60, 477, 478, 479, 480, 481, 482, 483, 484, 485, 486, 487, 488, 489, 490, 491, 492, 493, 470, 471, 472, 473, 474, 475, 476, 494, 495, 496, 497] rfl (by decide +kernel)
set_option maxRecDepth 20000 in
theorem gL_law_X2_init : GoodIn wsL_law (wsX2_init) := ggL_law_X2_init
set_option maxRecDepth 20000 in
theorem ggL_law_L_drawn : GoodIn wsL_law wsL_drawn := goodIn_r _ [429, 430] rfl (by decide +kernel)
set_option maxRecDepth 20000 in
theorem gL_law_L_drawn : GoodIn wsL_law (va_wsS RL 180 yL_drawn wsL_drawn) := goodIn_app (goodIn_of _ (by decide +kernel)) ggL_law_L_drawn
set_option maxRecDepth 20000 in
theorem ggL_law_L_part : GoodIn wsL_law wsL_part := goodIn_r _ [433, 434] rfl (by decide +kernel)
set_option maxRecDepth 20000 in
theorem gL_law_L_part : GoodIn wsL_law (va_wsS RL 184 yL_part wsL_part) := goodIn_app (goodIn_of _ (by decide +kernel)) ggL_law_L_part
set_option maxRecDepth 20000 in
theorem ggL_law_L_seen_1 : GoodIn wsL_law (Cond.code yL_seen cL_seen 4 (some .long) :: wsL_seen_r1) := goodIn_r _ [380, 381, 382, 310, 311, 312, 2, 313, 76, 77, 21, 18, 78, 79, 80, 314, 315, 316, 17, 317, 41, 48, 40, 318, 319] rfl (by decide +kernel)
set_option maxRecDepth 20000 in
theorem ggL_law_L_seen_2 : GoodIn wsL_law wsL_seen_r2 := goodIn_r _ [320, 321, 322, 323, 324, 44, 325, 326, 327, 328, 35, 108, 109, 110, 111, 45, 329, 330, 331, 332, 42, 333, 334, 335] rfl (by decide +kernel)
set_option maxRecDepth 20000 in
theorem ggL_law_L_seen_3 : GoodIn wsL_law wsL_seen_r3 := goodIn_r _ [336, 337, 338, 98, 339, 96, 97, 99, 121, 122, 123, 124, 125, 126, 127, 128, 47, 43, 255, 256, 257, 258, 74, 75] rfl (by decide +kernel)
set_option maxRecDepth 20000 in
theorem ggL_law_L_seen_4 : GoodIn wsL_law wsL_seen_r4 := goodIn_r _ [259, 260, 261, 262, 33, 34, 36, 37, 263, 158, 159, 160, 161, 162, 163, 164, 264, 265, 266, 267, 268, 269, 270, 271] rfl (by decide +kernel)
set_option maxRecDepth 20000 in
theorem ggL_law_L_seen_5 : GoodIn wsL_law wsL_seen_r5 := goodIn_r _ [39, 272, 182, 183, 184, 273, 274, 275, 276, 277, 278, 279, 280, 133, 134, 135, 136, 38, 281, 282, 283, 284, 285, 286] rfl (by decide +kernel)
set_option maxRecDepth 20000 in
theorem ggL_law_L_seen_6 : GoodIn wsL_law wsL_seen_r6 := goodIn_r _ [287, 288, 289, 290, 291, 292, 293, 294, 295, 296, 297, 298, 299, 300, 301, 46, 302, 303, 304, 305, 306, 307, 308, 309] rfl (by decide +kernel)
set_option maxRecDepth 20000 in
theorem ggL_law_L_seen_7 : GoodIn wsL_law wsL_seen_r7 := goodIn_r _ [340, 341, 342, 343, 196] rfl (by decide +kernel)
set_option maxRecDepth 20000 in
theorem ggL_law_L_seen_8 : GoodIn wsL_law wsX20 := goodIn_r _ [470, 471, 472, 473, 474, 475, 476] rfl (by decide +kernel)
set_option maxRecDepth 20000 in
theorem ggL_law_L_seen_9 : GoodIn wsL_law wsX10 := goodIn_r _ [477, 478, 479, 480, 481, 482, 483, 484, 485, 486, 487, 488, 489, 490, 491, 492, 493] rfl (by decide +kernel)
set_option maxRecDepth 20000 in
theorem ggL_law_L_seen : GoodIn wsL_law wsL_seen := goodIn_ca (goodIn_ca ((goodIn_ca (goodIn_ca (goodIn_ca ggL_law_L_seen_1 (goodIn_app ggL_law_L_seen_2 (goodIn_app ggL_law_L_seen_3 (goodIn_app ggL_law_L_seen_4 (goodIn_app ggL_law_L_seen_5 (goodIn_app ggL_law_L_seen_6 ggL_law_L_seen_7)))))) ggL_law_L_seen_8) ggL_law_L_seen_9)) (goodIn_sub (fun _ h => List.mem_append_left _ (List.mem_append_right _ h)) (by decide +kernel))) (goodIn_sub (fun _ h => List.mem_append_left _ (List.mem_append_left _ (List.mem_append_right _ h))) (by decide +kernel))
set_option maxRecDepth 20000 in
theorem gL_law_L_seen : GoodIn wsL_law (va_wsS RL 92 yL_seen wsL_seen) := goodIn_app (goodIn_of _ (by decide +kernel)) ggL_law_L_seen
set_option maxRecDepth 20000 in
theorem ggL_law_X2_count : GoodIn wsL_law wsX2_count := goodIn_ca (goodIn_r _ [313, 76, 77, 21, 18, 78, 79, 2, 80, 314, 315, 316, 17, 317, 41, 48, 40, 318, 319, 320, 321, 322, 323, 324, 44, 325, 326, 327, 328, 35, 108, 109, 110, 111, 45, 329, 330, 331, 332, 42, 333, 334, 335, 336, 337, 338, 98, 339, 96, 97, 99, 121, 122, 123, 124, 125, 126, 127, 128, 47, 43, 470, 471, 472, 473, 474, 475, 476, 477, 478, 479, 480, 481, 482, 483, 484, 485, 486, 487, 488, 489, 490, 491, 492, 493] rfl (by decide +kernel)) (goodIn_sub (fun _ h => List.mem_append_left _ (List.mem_append_right _ h)) (by decide +kernel))
set_option maxRecDepth 20000 in
theorem gL_law_X2_count : GoodIn wsL_law (wsV RL 58 RX2 yX2_count wsX2_count) := goodIn_app (goodIn_of _ (by decide +kernel)) ggL_law_X2_count
set_option maxRecDepth 20000 in
theorem ggL_law_L_told_1 : GoodIn wsL_law (Cond.codeWith yL_told cL_told 6 (some .int) [(0, 9, 10, 79), (0, 9, 15, 81), (0, 9, 20, 83)] :: wsL_told_r1) := goodIn_r _ [63, 64, 65, 66, 67, 68, 6, 69, 70, 71, 72, 2, 73, 74, 75, 76, 77, 18, 78, 79, 80, 81, 82, 83, 84] rfl (by decide +kernel)
set_option maxRecDepth 20000 in
theorem ggL_law_L_told_2 : GoodIn wsL_law wsL_told_r2 := goodIn_r _ [21, 20, 85, 86, 87, 88, 89, 90, 91, 17, 92, 33, 34, 35, 36, 37, 38, 39, 40, 41, 42, 43, 44, 45] rfl (by decide +kernel)
set_option maxRecDepth 20000 in
theorem ggL_law_L_told_3 : GoodIn wsL_law wsL_told_r3 := goodIn_r _ [46, 47, 48, 49, 93, 94, 95, 96, 97, 98, 99, 100, 101, 102, 103, 104, 105, 106, 107, 108, 109, 110, 111, 112] rfl (by decide +kernel)
set_option maxRecDepth 20000 in
theorem ggL_law_L_told_4 : GoodIn wsL_law wsL_told_r4 := goodIn_r _ [113, 114, 115, 116, 117, 118, 119, 120, 121, 122, 123, 124, 125, 126, 127, 128, 129, 130, 131, 132, 133, 134, 135, 136] rfl (by decide +kernel)
set_option maxRecDepth 20000 in
theorem ggL_law_L_told_5 : GoodIn wsL_law wsL_told_r5 := goodIn_r _ [137, 138, 139, 140, 141, 142, 143, 144, 145, 146, 147, 148, 149, 150, 151, 152, 153, 154, 155, 156, 157, 158, 159, 160] rfl (by decide +kernel)
set_option maxRecDepth 20000 in
theorem ggL_law_L_told_6 : GoodIn wsL_law wsL_told_r6 := goodIn_r _ [161, 162, 163, 164, 165, 166, 167, 168, 169, 170, 171, 172, 173, 174, 175, 176, 177, 178, 179, 180, 181, 182, 183, 184] rfl (by decide +kernel)
set_option maxRecDepth 20000 in
theorem ggL_law_L_told_7 : GoodIn wsL_law wsL_told_r7 := goodIn_r _ [185, 186, 187, 188, 189, 190, 191, 192, 193, 194, 195, 196, 197, 198, 199, 200, 201, 202, 203, 24, 23, 204, 205, 206] rfl (by decide +kernel)
set_option maxRecDepth 20000 in
theorem ggL_law_L_told_8 : GoodIn wsL_law wsL_told_r8 := goodIn_r _ [207, 28, 208, 209, 210, 211, 212, 213, 214, 215, 216, 217, 27, 218, 57, 219, 220, 221, 222, 58, 223, 224, 225, 226] rfl (by decide +kernel)
set_option maxRecDepth 20000 in
theorem ggL_law_L_told_9 : GoodIn wsL_law wsL_told_r9 := goodIn_r _ [59, 60, 227, 228, 229, 230, 231, 232, 233, 234, 235, 236, 237, 238, 239, 240, 241, 242, 243, 244, 245, 246, 247, 248] rfl (by decide +kernel)
set_option maxRecDepth 20000 in
theorem ggL_law_L_told_10 : GoodIn wsL_law wsL_told_r10 := goodIn_r _ [249, 250, 251, 252, 253, 254, 255, 256, 257, 258, 259, 260, 261, 262, 263, 264, 265, 266, 267, 268, 269, 270, 271, 272] rfl (by decide +kernel)
set_option maxRecDepth 20000 in
theorem ggL_law_L_told_11 : GoodIn wsL_law wsL_told_r11 := goodIn_r _ [273, 274, 275, 276, 277, 278, 279, 280, 281, 282, 283, 284, 285, 286, 287, 288, 289, 290, 291, 292, 293, 294, 295, 296] rfl (by decide +kernel)
set_option maxRecDepth 20000 in
theorem ggL_law_L_told_12 : GoodIn wsL_law wsL_told_r12 := goodIn_r _ [297, 298, 299, 300, 301, 302, 303, 304, 305, 306, 307, 308, 309, 310, 311, 312, 313, 314, 315, 316, 317, 318, 319, 320] rfl (by decide +kernel)
set_option maxRecDepth 20000 in
theorem ggL_law_L_told_13 : GoodIn wsL_law wsL_told_r13 := goodIn_r _ [321, 322, 323, 324, 325, 326, 327, 328, 329, 330, 331, 332, 333, 334, 335, 336, 337, 338, 339, 340, 341, 342, 343, 344] rfl (by decide +kernel)
set_option maxRecDepth 20000 in
theorem ggL_law_L_told_14 : GoodIn wsL_law wsL_told_r14 := goodIn_r _ [345, 346, 347, 348, 349, 350, 351, 19, 352, 353, 354, 355, 356, 357, 358, 359, 360, 361, 362, 363, 364, 365, 366, 367] rfl (by decide +kernel)
set_option maxRecDepth 20000 in
theorem ggL_law_L_told_15 : GoodIn wsL_law wsL_told_r15 := goodIn_r _ [368, 369] rfl (by decide +kernel)
set_option maxRecDepth 20000 in
theorem ggL_law_L_told_16 : GoodIn wsL_law wsX20 := goodIn_r _ [470, 471, 472, 473, 474, 475, 476] rfl (by decide +kernel)
set_option maxRecDepth 20000 in
theorem ggL_law_L_told_17 : GoodIn wsL_law wsX10 := goodIn_r _ [477, 478, 479, 480, 481, 482, 483, 484, 485, 486, 487, 488, 489, 490, 491, 492, 493] rfl (by decide +kernel)
set_option maxRecDepth 20000 in
theorem ggL_law_L_told_18 : GoodIn wsL_law wsX00 := goodIn_r _ [494, 495, 496, 497] rfl (by decide +kernel)
set_option maxRecDepth 20000 in
theorem ggL_law_L_told : GoodIn wsL_law wsL_told := goodIn_ca (goodIn_ca (goodIn_ca ((goodIn_ca (goodIn_ca (goodIn_ca (goodIn_ca ggL_law_L_told_1 (goodIn_app ggL_law_L_told_2 (goodIn_app ggL_law_L_told_3 (goodIn_app ggL_law_L_told_4 (goodIn_app ggL_law_L_told_5 (goodIn_app ggL_law_L_told_6 (goodIn_app ggL_law_L_told_7 (goodIn_app ggL_law_L_told_8 (goodIn_app ggL_law_L_told_9 (goodIn_app ggL_law_L_told_10 (goodIn_app ggL_law_L_told_11 (goodIn_app ggL_law_L_told_12 (goodIn_app ggL_law_L_told_13 (goodIn_app ggL_law_L_told_14 ggL_law_L_told_15)))))))))))))) ggL_law_L_told_16) ggL_law_L_told_17) ggL_law_L_told_18)) (goodIn_sub (fun _ h => List.mem_append_left _ (List.mem_append_left _ (List.mem_append_right _ h))) (by decide +kernel))) (goodIn_sub (fun _ h => List.mem_append_left _ (List.mem_append_right _ h)) (by decide +kernel))) (goodIn_sub (fun _ h => List.mem_append_right _ h) (by decide +kernel))
set_option maxRecDepth 20000 in
theorem gL_law_L_told : GoodIn wsL_law (va_wsS RL 89 yL_told wsL_told) := goodIn_app (goodIn_of _ (by decide +kernel)) ggL_law_L_told
set_option maxRecDepth 20000 in
theorem ggL_law_X2_digest_1 : GoodIn wsL_law (Cond.code yX2_digest cX2_digest 4 (some .long) :: wsX2_digest_r1) := goodIn_r _ [438, 439, 18, 196, 24, 23, 440, 311, 312, 2, 313, 76, 77, 21, 78, 79, 80, 314, 315, 316, 17, 317, 41, 48, 40] rfl (by decide +kernel)
set_option maxRecDepth 20000 in
theorem ggL_law_X2_digest_2 : GoodIn wsL_law wsX2_digest_r2 := goodIn_r _ [318, 319, 320, 321, 322, 323, 324, 44, 325, 326, 327, 328, 35, 108, 109, 110, 111, 45, 329, 330, 331, 332, 42, 333] rfl (by decide +kernel)
set_option maxRecDepth 20000 in
theorem ggL_law_X2_digest_3 : GoodIn wsL_law wsX2_digest_r3 := goodIn_r _ [334, 335, 336, 337, 338, 98, 339, 96, 97, 99, 121, 122, 123, 124, 125, 126, 127, 128, 47, 43, 441, 442, 443, 444] rfl (by decide +kernel)
set_option maxRecDepth 20000 in
theorem ggL_law_X2_digest_4 : GoodIn wsL_law wsX2_digest_r4 := goodIn_r _ [445, 446, 447, 448, 259, 260, 261, 262, 33, 34, 36, 37, 263, 158, 159, 160, 161, 162, 163, 164, 449, 450, 451, 452] rfl (by decide +kernel)
set_option maxRecDepth 20000 in
theorem ggL_law_X2_digest_5 : GoodIn wsL_law wsX2_digest_r5 := goodIn_r _ [292, 268, 269, 270, 271, 39, 272, 182, 183, 184, 273, 274, 275, 276, 277, 278, 279, 280, 133, 134, 135, 136, 38, 281] rfl (by decide +kernel)
set_option maxRecDepth 20000 in
theorem ggL_law_X2_digest_6 : GoodIn wsL_law wsX2_digest_r6 := goodIn_r _ [282, 283, 284, 285, 286, 287, 453, 454, 455, 456, 298, 299, 300, 301, 46, 302, 303, 304, 305, 306, 307, 308, 309, 457] rfl (by decide +kernel)
set_option maxRecDepth 20000 in
theorem ggL_law_X2_digest_7 : GoodIn wsL_law wsX2_digest_r7 := goodIn_r _ [458, 459, 460, 348, 349, 350, 351, 19, 89, 90, 91, 92, 49, 93, 94, 95, 100, 101, 102, 103, 352, 113, 114, 115] rfl (by decide +kernel)
set_option maxRecDepth 20000 in
theorem ggL_law_X2_digest_8 : GoodIn wsL_law wsX2_digest_r8 := goodIn_r _ [116, 117, 118, 119, 120, 129, 130, 131, 132, 137, 138, 139, 140, 141, 142, 143, 144, 145, 146, 147, 148, 353, 354, 355] rfl (by decide +kernel)
set_option maxRecDepth 20000 in
theorem ggL_law_X2_digest_9 : GoodIn wsL_law wsX2_digest_r9 := goodIn_r _ [356, 185, 157, 357, 461, 359, 360, 361, 362, 363, 364, 365, 175, 176, 462, 367, 368, 369, 463, 371, 372, 373, 374, 464] rfl (by decide +kernel)
set_option maxRecDepth 20000 in
theorem ggL_law_X2_digest_10 : GoodIn wsL_law wsX2_digest_r10 := goodIn_r _ [465, 466, 467, 468, 469] rfl (by decide +kernel)
set_option maxRecDepth 20000 in
theorem ggL_law_X2_digest_11 : GoodIn wsL_law wsX20 := goodIn_r _ [470, 471, 472, 473, 474, 475, 476] rfl (by decide +kernel)
set_option maxRecDepth 20000 in
theorem ggL_law_X2_digest_12 : GoodIn wsL_law wsX10 := goodIn_r _ [477, 478, 479, 480, 481, 482, 483, 484, 485, 486, 487, 488, 489, 490, 491, 492, 493] rfl (by decide +kernel)
set_option maxRecDepth 20000 in
theorem ggL_law_X2_digest : GoodIn wsL_law wsX2_digest := goodIn_ca ((goodIn_ca (goodIn_ca (goodIn_ca ggL_law_X2_digest_1 (goodIn_app ggL_law_X2_digest_2 (goodIn_app ggL_law_X2_digest_3 (goodIn_app ggL_law_X2_digest_4 (goodIn_app ggL_law_X2_digest_5 (goodIn_app ggL_law_X2_digest_6 (goodIn_app ggL_law_X2_digest_7 (goodIn_app ggL_law_X2_digest_8 (goodIn_app ggL_law_X2_digest_9 ggL_law_X2_digest_10))))))))) ggL_law_X2_digest_11) ggL_law_X2_digest_12)) (goodIn_sub (fun _ h => List.mem_append_left _ (List.mem_append_right _ h)) (by decide +kernel))
set_option maxRecDepth 20000 in
theorem gL_law_X2_digest : GoodIn wsL_law (wsV RL 187 RX2 yX2_digest wsX2_digest) := goodIn_app (goodIn_of _ (by decide +kernel)) ggL_law_X2_digest
