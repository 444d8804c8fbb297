set_option maxRecDepth 20000 in
theorem ggL_pages_X2_block : GoodIn wsL_pages wsX2_block := goodIn_ca (goodIn_ca (goodIn_r _ [264, 71, 72, 73, 74, 14, 75, 76, 3, 77, 265, 266, 267, 13, 268, 35, 37, 36, 38, 269, 179, 180, 181, 270, 271, 272, 273, 39, 274, 275, 276, 277, 30, 130, 131, 132, 133, 34, 29, 278, 279, 280, 281, 282, 283, 284, 383, 384, 385, 386, 387, 388, 389, 390, 391, 392, 393, 394, 395, 396, 397, 398, 399, 400, 401, 402, 403, 404, 405, 406] rfl (by decide +kernel)) (goodIn_sub (fun _ h => List.mem_cons_of_mem _ (List.mem_append_left _ (List.mem_append_left _ (List.mem_append_right _ h)))) (by decide +kernel))) (goodIn_sub (fun _ h => List.mem_cons_of_mem _ (List.mem_append_left _ (List.mem_append_right _ h))) (by decide +kernel))
set_option maxRecDepth 20000 in
theorem gL_pages_X2_block : GoodIn wsL_pages (wsV RL 48 RX2 yX2_block wsX2_block) := goodIn_app (goodIn_of _ (by decide +kernel)) ggL_pages_X2_block
set_option maxRecDepth 20000 in
theorem ggL_pages_X2_writeRow_1 : GoodIn wsL_pages (Cond.code yX2_writeRow cX2_writeRow 4 (some .int) :: wsX2_writeRow_r1) := goodIn_r _ [149, 71, 72, 73, 74, 14, 75, 76, 3, 77, 78, 79, 80, 81, 17, 16, 82, 83, 84, 85, 86, 87, 88, 13, 89] rfl (by decide +kernel)
set_option maxRecDepth 20000 in
theorem ggL_pages_X2_writeRow_2 : GoodIn wsL_pages wsX2_writeRow_r2 := goodIn_r _ [29, 30, 31, 32, 33, 34, 35, 36, 37, 38, 39, 40, 41, 42, 43, 44, 45, 90, 91, 92, 93, 94, 95, 96] rfl (by decide +kernel)
set_option maxRecDepth 20000 in
theorem ggL_pages_X2_writeRow_3 : GoodIn wsL_pages wsX2_writeRow_r3 := goodIn_r _ [97, 98, 99, 100, 101, 102, 103, 104, 105, 106, 107, 108, 109, 110, 111, 112, 113, 114, 115, 116, 117, 118, 119, 120] rfl (by decide +kernel)
set_option maxRecDepth 20000 in
theorem ggL_pages_X2_writeRow_4 : GoodIn wsL_pages wsX2_writeRow_r4 := goodIn_r _ [121, 122, 123, 124, 125, 126, 127, 128, 129, 130, 131, 132, 133, 134, 135, 136, 137, 138, 139, 140, 141, 142, 143, 144] rfl (by decide +kernel)
set_option maxRecDepth 20000 in
theorem ggL_pages_X2_writeRow_5 : GoodIn wsL_pages wsX2_writeRow_r5 := goodIn_r _ [145] rfl (by decide +kernel)
set_option maxRecDepth 20000 in
theorem ggL_pages_X2_writeRow_6 : GoodIn wsL_pages wsX20 := goodIn_r _ [383, 384, 385, 386, 387, 388, 389] rfl (by decide +kernel)
set_option maxRecDepth 20000 in
theorem ggL_pages_X2_writeRow_7 : GoodIn wsL_pages wsX10 := goodIn_r _ [390, 391, 392, 393, 394, 395, 396, 397, 398, 399, 400, 401, 402, 403, 404, 405, 406] rfl (by decide +kernel)
set_option maxRecDepth 20000 in
theorem ggL_pages_X2_writeRow : GoodIn wsL_pages wsX2_writeRow := goodIn_ca (goodIn_ca ((goodIn_ca (goodIn_ca (goodIn_ca ggL_pages_X2_writeRow_1 (goodIn_app ggL_pages_X2_writeRow_2 (goodIn_app ggL_pages_X2_writeRow_3 (goodIn_app ggL_pages_X2_writeRow_4 ggL_pages_X2_writeRow_5)))) ggL_pages_X2_writeRow_6) ggL_pages_X2_writeRow_7)) (goodIn_sub (fun _ h => List.mem_cons_of_mem _ (List.mem_append_left _ (List.mem_append_left _ (List.mem_append_right _ h)))) (by decide +kernel))) (goodIn_sub (fun _ h => List.mem_cons_of_mem _ (List.mem_append_left _ (List.mem_append_right _ h))) (by decide +kernel))
set_option maxRecDepth 20000 in
theorem gL_pages_X2_writeRow : GoodIn wsL_pages (wsV RL 15 RX2 yX2_writeRow wsX2_writeRow) := goodIn_app (goodIn_of _ (by decide +kernel)) ggL_pages_X2_writeRow
set_option maxRecDepth 20000 in
theorem ggL_pages_X2_slot : GoodIn wsL_pages wsX2_slot := goodIn_ca (goodIn_r _ [288, 71, 72, 14, 289, 75, 76, 3, 77, 290, 131, 132, 13, 133, 34, 29, 383, 384, 385, 386, 387, 388, 389, 390, 391, 392, 393, 394, 395, 396, 397, 398, 399, 400, 401, 402, 403, 404, 405, 406] rfl (by decide +kernel)) (goodIn_sub (fun _ h => List.mem_cons_of_mem _ (List.mem_append_left _ (List.mem_append_left _ (List.mem_append_right _ h)))) (by decide +kernel))
set_option maxRecDepth 20000 in
theorem gL_pages_X2_slot : GoodIn wsL_pages (wsV RL 51 RX2 yX2_slot wsX2_slot) := goodIn_app (goodIn_of _ (by decide +kernel)) ggL_pages_X2_slot
set_option maxRecDepth 20000 in
theorem ggL_pages_X2_collect : GoodIn wsL_pages wsX2_collect := goodIn_ca (goodIn_ca (goodIn_r _ [177, 71, 72, 170, 171, 14, 75, 76, 3, 77, 178, 179, 180, 13, 181, 35, 36, 78, 79, 80, 81, 17, 16, 82, 83, 84, 85, 86, 87, 88, 89, 29, 30, 31, 32, 33, 34, 37, 38, 39, 40, 41, 42, 43, 44, 45, 90, 91, 92, 93, 94, 95, 96, 97, 98, 99, 100, 182, 106, 107, 108, 183, 127, 128, 129, 130, 131, 132, 133, 134, 135, 136, 137, 138, 139, 140, 141, 142, 143, 144, 145, 383, 384, 385, 386, 387, 388, 389, 390, 391, 392, 393, 394, 395, 396, 397, 398, 399, 400, 401, 402, 403, 404, 405, 406] rfl (by decide +kernel)) (goodIn_sub (fun _ h => List.mem_cons_of_mem _ (List.mem_append_left _ (List.mem_append_left _ (List.mem_append_right _ h)))) (by decide +kernel))) (goodIn_sub (fun _ h => List.mem_cons_of_mem _ (List.mem_append_right _ h)) (by decide +kernel))
set_option maxRecDepth 20000 in
theorem gL_pages_X2_collect : GoodIn wsL_pages (wsV RL 26 RX2 yX2_collect wsX2_collect) := goodIn_app (goodIn_of _ (by decide +kernel)) ggL_pages_X2_collect
set_option maxRecDepth 20000 in
theorem ggL_pages_X2_ifWritten_1 : GoodIn wsL_pages (Cond.code yX2_ifWritten cX2_ifWritten 4 (some .int) :: wsX2_ifWritten_r1) := goodIn_r _ [344, 71, 72, 73, 74, 75, 76, 3, 77, 345, 346, 347, 348, 15, 14, 86, 87, 88, 13, 89, 29, 30, 31, 32, 33] rfl (by decide +kernel)
set_option maxRecDepth 20000 in
theorem ggL_pages_X2_ifWritten_2 : GoodIn wsL_pages wsX2_ifWritten_r2 := goodIn_r _ [34, 35, 36, 37, 38, 39, 40, 41, 42, 43, 44, 45, 90, 91, 92, 93, 94, 95, 96, 97, 98, 99, 100, 349] rfl (by decide +kernel)
set_option maxRecDepth 20000 in
theorem ggL_pages_X2_ifWritten_3 : GoodIn wsL_pages wsX2_ifWritten_r3 := goodIn_r _ [110, 111, 112, 113, 114, 115, 116, 117, 118, 119, 120, 121, 122, 123, 124, 125, 126, 127, 128, 129, 130, 131, 132, 133] rfl (by decide +kernel)
set_option maxRecDepth 20000 in
theorem ggL_pages_X2_ifWritten_4 : GoodIn wsL_pages wsX2_ifWritten_r4 := goodIn_r _ [134, 135, 136, 137, 138, 139, 140, 141, 142, 143, 144, 145, 350, 351, 352, 353, 182, 106, 107, 108, 154, 155, 156, 157] rfl (by decide +kernel)
set_option maxRecDepth 20000 in
theorem ggL_pages_X2_ifWritten_5 : GoodIn wsL_pages wsX2_ifWritten_r5 := goodIn_r _ [158, 159, 160, 161, 354, 327, 328, 329, 315, 316, 317] rfl (by decide +kernel)
set_option maxRecDepth 20000 in
theorem ggL_pages_X2_ifWritten_6 : GoodIn wsL_pages wsX20 := goodIn_r _ [383, 384, 385, 386, 387, 388, 389] rfl (by decide +kernel)
set_option maxRecDepth 20000 in
theorem ggL_pages_X2_ifWritten_7 : GoodIn wsL_pages wsX10 := goodIn_r _ [390, 391, 392, 393, 394, 395, 396, 397, 398, 399, 400, 401, 402, 403, 404, 405, 406] rfl (by decide +kernel)
set_option maxRecDepth 20000 in
theorem ggL_pages_X2_ifWritten : GoodIn wsL_pages wsX2_ifWritten := goodIn_ca (goodIn_ca ((goodIn_ca (goodIn_ca (goodIn_ca ggL_pages_X2_ifWritten_1 (goodIn_app ggL_pages_X2_ifWritten_2 (goodIn_app ggL_pages_X2_ifWritten_3 (goodIn_app ggL_pages_X2_ifWritten_4 ggL_pages_X2_ifWritten_5)))) ggL_pages_X2_ifWritten_6) ggL_pages_X2_ifWritten_7)) (goodIn_sub (fun _ h => List.mem_cons_of_mem _ (List.mem_append_left _ (List.mem_append_left _ (List.mem_append_right _ h)))) (by decide +kernel))) (goodIn_sub (fun _ h => List.mem_cons_of_mem _ (List.mem_append_left _ (List.mem_append_right _ h))) (by decide +kernel))
set_option maxRecDepth 20000 in
theorem gL_pages_X2_ifWritten : GoodIn wsL_pages (wsV RL 64 RX2 yX2_ifWritten wsX2_ifWritten) := goodIn_app (goodIn_of _ (by decide +kernel)) ggL_pages_X2_ifWritten
set_option maxRecDepth 20000 in
theorem ggL_pages_X2_hint : GoodIn wsL_pages wsX2_hint := goodIn_ca (goodIn_ca (goodIn_ca (goodIn_r _ [169, 71, 72, 73, 74, 170, 171, 14, 172, 75, 76, 3, 77, 173, 159, 160, 13, 161, 29, 78, 79, 80, 81, 17, 16, 82, 83, 84, 85, 86, 87, 88, 89, 30, 31, 32, 33, 34, 35, 36, 37, 38, 39, 40, 41, 42, 43, 44, 45, 90, 91, 92, 93, 94, 95, 96, 97, 98, 99, 100, 383, 384, 385, 386, 387, 388, 389, 390, 391, 392, 393, 394, 395, 396, 397, 398, 399, 400, 401, 402, 403, 404, 405, 406] rfl (by decide +kernel)) (goodIn_sub (fun _ h => List.mem_cons_of_mem _ (List.mem_append_left _ (List.mem_append_left _ (List.mem_append_right _ h)))) (by decide +kernel))) (goodIn_sub (fun _ h => List.mem_cons_of_mem _ (List.mem_append_left _ (List.mem_append_right _ h))) (by decide +kernel))) (goodIn_sub (fun _ h => List.mem_cons_of_mem _ (List.mem_append_right _ h)) (by decide +kernel))
set_option maxRecDepth 20000 in
theorem gL_pages_X2_hint : GoodIn wsL_pages (wsV RL 23 RX2 yX2_hint wsX2_hint) := goodIn_app (goodIn_of _ (by decide +kernel)) ggL_pages_X2_hint
set_option maxRecDepth 20000 in
theorem ggL_pages_L_refused_1 : GoodIn wsL_pages (Cond.code yL_refused cL_refused 4 (some .boolean) :: wsL_refused_r1) := goodIn_r _ [374, 375, 376, 59, 377, 378, 379, 307, 308, 309, 3, 310, 73, 74, 17, 14, 75, 76, 77, 311, 312, 313, 13, 314, 37] rfl (by decide +kernel)
set_option maxRecDepth 20000 in
theorem ggL_pages_L_refused_2 : GoodIn wsL_pages wsL_refused_r2 := goodIn_r _ [44, 36, 315, 316, 317, 318, 319, 320, 321, 40, 322, 323, 324, 325, 31, 105, 106, 107, 108, 41, 326, 327, 328, 329] rfl (by decide +kernel)
set_option maxRecDepth 20000 in
theorem ggL_pages_L_refused_3 : GoodIn wsL_pages wsL_refused_r3 := goodIn_r _ [38, 330, 331, 332, 333, 334, 335, 95, 336, 93, 94, 96, 118, 119, 120, 121, 122, 123, 124, 125, 43, 39, 252, 253] rfl (by decide +kernel)
set_option maxRecDepth 20000 in
theorem ggL_pages_L_refused_4 : GoodIn wsL_pages wsL_refused_r4 := goodIn_r _ [254, 255, 71, 72, 256, 257, 258, 259, 29, 30, 32, 33, 260, 155, 156, 157, 158, 159, 160, 161, 261, 262, 263, 264] rfl (by decide +kernel)
set_option maxRecDepth 20000 in
theorem ggL_pages_L_refused_5 : GoodIn wsL_pages wsL_refused_r5 := goodIn_r _ [265, 266, 267, 268, 35, 269, 179, 180, 181, 270, 271, 272, 273, 274, 275, 276, 277, 130, 131, 132, 133, 34, 278, 279] rfl (by decide +kernel)
set_option maxRecDepth 20000 in
theorem ggL_pages_L_refused_6 : GoodIn wsL_pages wsL_refused_r6 := goodIn_r _ [280, 281, 282, 283, 284, 285, 286, 287, 288, 289, 290, 291, 292, 293, 294, 295, 296, 297, 298, 42, 299, 300, 301, 302] rfl (by decide +kernel)
set_option maxRecDepth 20000 in
theorem ggL_pages_L_refused_7 : GoodIn wsL_pages wsL_refused_r7 := goodIn_r _ [303, 304, 305, 306, 337, 338, 339, 340, 193, 380, 381, 382, 57, 58, 60, 61, 62, 63, 64, 65, 66, 67, 68, 69] rfl (by decide +kernel)
set_option maxRecDepth 20000 in
theorem ggL_pages_L_refused_8 : GoodIn wsL_pages wsL_refused_r8 := goodIn_r _ [70, 78, 79, 80, 81, 16, 82, 83, 84, 85, 86, 87, 88, 89, 45, 90, 91, 92, 97, 98, 99, 100, 101, 102] rfl (by decide +kernel)
set_option maxRecDepth 20000 in
theorem ggL_pages_L_refused_9 : GoodIn wsL_pages wsL_refused_r9 := goodIn_r _ [103, 104, 109, 110, 111, 112, 113, 114, 115, 116, 117, 126, 127, 128, 129, 134, 135, 136, 137, 138, 139, 140, 141, 142] rfl (by decide +kernel)
set_option maxRecDepth 20000 in
theorem ggL_pages_L_refused_10 : GoodIn wsL_pages wsL_refused_r10 := goodIn_r _ [143, 144, 145, 146, 147, 148, 149, 150, 151, 152, 153, 154, 162, 163, 164, 165, 166, 167, 168, 169, 170, 171, 172, 173] rfl (by decide +kernel)
set_option maxRecDepth 20000 in
theorem ggL_pages_L_refused_11 : GoodIn wsL_pages wsL_refused_r11 := goodIn_r _ [174, 175, 176, 177, 178, 182, 183, 184, 185, 186, 187, 188, 189, 190, 191, 192, 194, 195, 196, 197, 198, 199, 200, 20] rfl (by decide +kernel)
set_option maxRecDepth 20000 in
theorem ggL_pages_L_refused_12 : GoodIn wsL_pages wsL_refused_r12 := goodIn_r _ [19, 201, 202, 203, 204, 24, 205, 206, 207, 208, 209, 210, 211, 212, 213, 214, 23, 215, 53, 216, 217, 218, 219, 54] rfl (by decide +kernel)
set_option maxRecDepth 20000 in
theorem ggL_pages_L_refused_13 : GoodIn wsL_pages wsL_refused_r13 := goodIn_r _ [220, 221, 222, 223, 55, 56, 224, 225, 226, 227, 228, 229, 230, 231, 232, 233, 234, 235, 236, 237, 238, 239, 240, 241] rfl (by decide +kernel)
set_option maxRecDepth 20000 in
theorem ggL_pages_L_refused_14 : GoodIn wsL_pages wsL_refused_r14 := goodIn_r _ [242, 243, 244, 245, 246, 247, 248, 249, 250, 251, 341, 342, 343, 344, 345, 346, 347, 348, 15, 349, 350, 351, 352, 353] rfl (by decide +kernel)
set_option maxRecDepth 20000 in
theorem ggL_pages_L_refused_15 : GoodIn wsL_pages wsL_refused_r15 := goodIn_r _ [354, 355, 356, 357, 358, 359, 360, 361, 362, 363, 364, 365, 366] rfl (by decide +kernel)
set_option maxRecDepth 20000 in
theorem ggL_pages_L_refused_16 : GoodIn wsL_pages wsX20 := goodIn_r _ [383, 384, 385, 386, 387, 388, 389] rfl (by decide +kernel)
set_option maxRecDepth 20000 in
theorem ggL_pages_L_refused_17 : GoodIn wsL_pages wsX10 := goodIn_r _ [390, 391, 392, 393, 394, 395, 396, 397, 398, 399, 400, 401, 402, 403, 404, 405, 406] rfl (by decide +kernel)
set_option maxRecDepth 20000 in
theorem ggL_pages_L_refused_18 : GoodIn wsL_pages wsX00 := goodIn_r _ [407, 408, 409, 410] rfl (by decide +kernel)
set_option maxRecDepth 20000 in
theorem ggL_pages_L_refused : GoodIn wsL_pages wsL_refused := goodIn_ca (goodIn_ca (goodIn_ca ((goodIn_ca (goodIn_ca (goodIn_ca (goodIn_ca ggL_pages_L_refused_1 (goodIn_app ggL_pages_L_refused_2 (goodIn_app ggL_pages_L_refused_3 (goodIn_app ggL_pages_L_refused_4 (goodIn_app ggL_pages_L_refused_5 (goodIn_app ggL_pages_L_refused_6 (goodIn_app ggL_pages_L_refused_7 (goodIn_app ggL_pages_L_refused_8 (goodIn_app ggL_pages_L_refused_9 (goodIn_app ggL_pages_L_refused_10 (goodIn_app ggL_pages_L_refused_11 (goodIn_app ggL_pages_L_refused_12 (goodIn_app ggL_pages_L_refused_13 (goodIn_app ggL_pages_L_refused_14 ggL_pages_L_refused_15)))))))))))))) ggL_pages_L_refused_16) ggL_pages_L_refused_17) ggL_pages_L_refused_18)) (goodIn_sub (fun _ h => List.mem_cons_of_mem _ (List.mem_append_left _ (List.mem_append_right _ h))) (by decide +kernel))) (goodIn_sub (fun _ h => List.mem_cons_of_mem _ (List.mem_append_left _ (List.mem_append_left _ (List.mem_append_right _ h)))) (by decide +kernel))) (goodIn_sub (fun _ h => List.mem_cons_of_mem _ (List.mem_append_right _ h)) (by decide +kernel))
set_option maxRecDepth 20000 in
theorem gL_pages_L_refused : GoodIn wsL_pages (va_wsS RL 107 yL_refused wsL_refused) := goodIn_app (goodIn_of _ (by decide +kernel)) ggL_pages_L_refused
set_option maxRecDepth 20000 in
theorem ggL_pages_X2_trim : GoodIn wsL_pages wsX2_trim := goodIn_ca (goodIn_r _ [153, 71, 72, 14, 75, 76, 3, 77, 78, 79, 80, 81, 17, 16, 82, 83, 84, 85, 86, 87, 88, 13, 89, 29, 30, 31, 32, 33, 34, 35, 36, 37, 38, 39, 40, 41, 42, 43, 44, 45, 90, 91, 92, 93, 94, 95, 96, 97, 98, 99, 100, 154, 155, 156, 157, 158, 159, 160, 161, 162, 163, 164, 165, 383, 384, 385, 386, 387, 388, 389, 390, 391, 392, 393, 394, 395, 396, 397, 398, 399, 400, 401, 402, 403, 404, 405, 406] rfl (by decide +kernel)) (goodIn_sub (fun _ h => List.mem_cons_of_mem _ (List.mem_append_left _ (List.mem_append_left _ (List.mem_append_right _ h)))) (by decide +kernel))
set_option maxRecDepth 20000 in
theorem gL_pages_X2_trim : GoodIn wsL_pages (wsV RL 19 RX2 yX2_trim wsX2_trim) := goodIn_app (goodIn_of _ (by decide +kernel)) ggL_pages_X2_trim
