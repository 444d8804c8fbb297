set_option maxRecDepth 20000 in
theorem ggL_pages_X2_init : GoodIn wsL_pages wsX2_init := goodIn_r _ [7, 8, 9, 10, 11, 12, 13, 14, 15, 16, 17, 18, 19, 20, 21, 22, 23, 24, 25, 26, 27, 28, 29, 30, 31, 32, 33, 34, 35, 36, 37, 38, 39, 40, 41, 42, 43, 44, 45, 46, 47, 48, 49, 50, 51, 52, 53, 54, 55, 56, 390, 391, 392, 393, 394, 395, 396, 397, 398, 399, 400, 401, 402, 403, 404, 405, 406, 383, 384, 385, 386, 387, 388, 389, 407, 408, 409, 410] rfl (by decide +kernel)
set_option maxRecDepth 20000 in
theorem gL_pages_X2_init : GoodIn wsL_pages (wsX2_init) := ggL_pages_X2_init
set_option maxRecDepth 20000 in
theorem ggL_pages_L_told_1 : GoodIn wsL_pages (Cond.codeWith yL_told cL_told 6 (some .int) [(0, 9, 10, 79), (0, 9, 15, 81), (0, 9, 20, 83)] :: wsL_told_r1) := goodIn_r _ [60, 61, 62, 63, 64, 65, 59, 66, 67, 68, 69, 3, 70, 71, 72, 73, 74, 14, 75, 76, 77, 78, 79, 80, 81] rfl (by decide +kernel)
set_option maxRecDepth 20000 in
theorem ggL_pages_L_told_2 : GoodIn wsL_pages wsL_told_r2 := goodIn_r _ [17, 16, 82, 83, 84, 85, 86, 87, 88, 13, 89, 29, 30, 31, 32, 33, 34, 35, 36, 37, 38, 39, 40, 41] rfl (by decide +kernel)
set_option maxRecDepth 20000 in
theorem ggL_pages_L_told_3 : GoodIn wsL_pages wsL_told_r3 := goodIn_r _ [42, 43, 44, 45, 90, 91, 92, 93, 94, 95, 96, 97, 98, 99, 100, 101, 102, 103, 104, 105, 106, 107, 108, 109] rfl (by decide +kernel)
set_option maxRecDepth 20000 in
theorem ggL_pages_L_told_4 : GoodIn wsL_pages wsL_told_r4 := goodIn_r _ [110, 111, 112, 113, 114, 115, 116, 117, 118, 119, 120, 121, 122, 123, 124, 125, 126, 127, 128, 129, 130, 131, 132, 133] rfl (by decide +kernel)
set_option maxRecDepth 20000 in
theorem ggL_pages_L_told_5 : GoodIn wsL_pages wsL_told_r5 := goodIn_r _ [134, 135, 136, 137, 138, 139, 140, 141, 142, 143, 144, 145, 146, 147, 148, 149, 150, 151, 152, 153, 154, 155, 156, 157] rfl (by decide +kernel)
set_option maxRecDepth 20000 in
theorem ggL_pages_L_told_6 : GoodIn wsL_pages wsL_told_r6 := goodIn_r _ [158, 159, 160, 161, 162, 163, 164, 165, 166, 167, 168, 169, 170, 171, 172, 173, 174, 175, 176, 177, 178, 179, 180, 181] rfl (by decide +kernel)
set_option maxRecDepth 20000 in
theorem ggL_pages_L_told_7 : GoodIn wsL_pages wsL_told_r7 := goodIn_r _ [182, 183, 184, 185, 186, 187, 188, 189, 190, 191, 192, 193, 194, 195, 196, 197, 198, 199, 200, 20, 19, 201, 202, 203] rfl (by decide +kernel)
set_option maxRecDepth 20000 in
theorem ggL_pages_L_told_8 : GoodIn wsL_pages wsL_told_r8 := goodIn_r _ [204, 24, 205, 206, 207, 208, 209, 210, 211, 212, 213, 214, 23, 215, 53, 216, 217, 218, 219, 54, 220, 221, 222, 223] rfl (by decide +kernel)
set_option maxRecDepth 20000 in
theorem ggL_pages_L_told_9 : GoodIn wsL_pages wsL_told_r9 := goodIn_r _ [55, 56, 224, 225, 226, 227, 228, 229, 230, 231, 232, 233, 234, 235, 236, 237, 238, 239, 240, 241, 242, 243, 244, 245] rfl (by decide +kernel)
set_option maxRecDepth 20000 in
theorem ggL_pages_L_told_10 : GoodIn wsL_pages wsL_told_r10 := goodIn_r _ [246, 247, 248, 249, 250, 251, 252, 253, 254, 255, 256, 257, 258, 259, 260, 261, 262, 263, 264, 265, 266, 267, 268, 269] rfl (by decide +kernel)
set_option maxRecDepth 20000 in
theorem ggL_pages_L_told_11 : GoodIn wsL_pages wsL_told_r11 := goodIn_r _ [270, 271, 272, 273, 274, 275, 276, 277, 278, 279, 280, 281, 282, 283, 284, 285, 286, 287, 288, 289, 290, 291, 292, 293] rfl (by decide +kernel)
set_option maxRecDepth 20000 in
theorem ggL_pages_L_told_12 : GoodIn wsL_pages wsL_told_r12 := goodIn_r _ [294, 295, 296, 297, 298, 299, 300, 301, 302, 303, 304, 305, 306, 307, 308, 309, 310, 311, 312, 313, 314, 315, 316, 317] rfl (by decide +kernel)
set_option maxRecDepth 20000 in
theorem ggL_pages_L_told_13 : GoodIn wsL_pages wsL_told_r13 := goodIn_r _ [318, 319, 320, 321, 322, 323, 324, 325, 326, 327, 328, 329, 330, 331, 332, 333, 334, 335, 336, 337, 338, 339, 340, 341] rfl (by decide +kernel)
set_option maxRecDepth 20000 in
theorem ggL_pages_L_told_14 : GoodIn wsL_pages wsL_told_r14 := goodIn_r _ [342, 343, 344, 345, 346, 347, 348, 15, 349, 350, 351, 352, 353, 354, 355, 356, 357, 358, 359, 360, 361, 362, 363, 364] rfl (by decide +kernel)
set_option maxRecDepth 20000 in
theorem ggL_pages_L_told_15 : GoodIn wsL_pages wsL_told_r15 := goodIn_r _ [365, 366] rfl (by decide +kernel)
set_option maxRecDepth 20000 in
theorem ggL_pages_L_told_16 : GoodIn wsL_pages wsX20 := goodIn_r _ [383, 384, 385, 386, 387, 388, 389] rfl (by decide +kernel)
set_option maxRecDepth 20000 in
theorem ggL_pages_L_told_17 : GoodIn wsL_pages wsX10 := goodIn_r _ [390, 391, 392, 393, 394, 395, 396, 397, 398, 399, 400, 401, 402, 403, 404, 405, 406] rfl (by decide +kernel)
set_option maxRecDepth 20000 in
theorem ggL_pages_L_told_18 : GoodIn wsL_pages wsX00 := goodIn_r _ [407, 408, 409, 410] rfl (by decide +kernel)
set_option maxRecDepth 20000 in
theorem ggL_pages_L_told : GoodIn wsL_pages wsL_told := goodIn_ca (goodIn_ca (goodIn_ca ((goodIn_ca (goodIn_ca (goodIn_ca (goodIn_ca ggL_pages_L_told_1 (goodIn_app ggL_pages_L_told_2 (goodIn_app ggL_pages_L_told_3 (goodIn_app ggL_pages_L_told_4 (goodIn_app ggL_pages_L_told_5 (goodIn_app ggL_pages_L_told_6 (goodIn_app ggL_pages_L_told_7 (goodIn_app ggL_pages_L_told_8 (goodIn_app ggL_pages_L_told_9 (goodIn_app ggL_pages_L_told_10 (goodIn_app ggL_pages_L_told_11 (goodIn_app ggL_pages_L_told_12 (goodIn_app ggL_pages_L_told_13 (goodIn_app ggL_pages_L_told_14 ggL_pages_L_told_15)))))))))))))) ggL_pages_L_told_16) ggL_pages_L_told_17) ggL_pages_L_told_18)) (goodIn_sub (fun _ h => List.mem_cons_of_mem _ (List.mem_append_left _ (List.mem_append_left _ (List.mem_append_right _ h)))) (by decide +kernel))) (goodIn_sub (fun _ h => List.mem_cons_of_mem _ (List.mem_append_left _ (List.mem_append_right _ h))) (by decide +kernel))) (goodIn_sub (fun _ h => List.mem_cons_of_mem _ (List.mem_append_right _ h)) (by decide +kernel))
set_option maxRecDepth 20000 in
theorem gL_pages_L_told : GoodIn wsL_pages (va_wsS RL 89 yL_told wsL_told) := goodIn_app (goodIn_of _ (by decide +kernel)) ggL_pages_L_told
set_option maxRecDepth 20000 in
theorem ggL_pages_X2_count : GoodIn wsL_pages wsX2_count := goodIn_ca (goodIn_r _ [310, 73, 74, 17, 14, 75, 76, 3, 77, 311, 312, 313, 13, 314, 37, 44, 36, 315, 316, 317, 318, 319, 320, 321, 40, 322, 323, 324, 325, 31, 105, 106, 107, 108, 41, 326, 327, 328, 329, 38, 330, 331, 332, 333, 334, 335, 95, 336, 93, 94, 96, 118, 119, 120, 121, 122, 123, 124, 125, 43, 39, 383, 384, 385, 386, 387, 388, 389, 390, 391, 392, 393, 394, 395, 396, 397, 398, 399, 400, 401, 402, 403, 404, 405, 406] rfl (by decide +kernel)) (goodIn_sub (fun _ h => List.mem_cons_of_mem _ (List.mem_append_left _ (List.mem_append_right _ h))) (by decide +kernel))
set_option maxRecDepth 20000 in
theorem gL_pages_X2_count : GoodIn wsL_pages (wsV RL 58 RX2 yX2_count wsX2_count) := goodIn_app (goodIn_of _ (by decide +kernel)) ggL_pages_X2_count
set_option maxRecDepth 20000 in
theorem ggL_pages_X2_amplification : GoodIn wsL_pages wsX2_amplification := goodIn_r _ [370, 14, 371, 323, 324, 13, 325, 31, 315, 316, 317, 182, 106, 107, 108, 41, 383, 384, 385, 386, 387, 388, 389, 390, 391, 392, 393, 394, 395, 396, 397, 398, 399, 400, 401, 402, 403, 404, 405, 406] rfl (by decide +kernel)
set_option maxRecDepth 20000 in
theorem gL_pages_X2_amplification : GoodIn wsL_pages (wsV RL 101 RX2 yX2_amplification wsX2_amplification) := goodIn_app (goodIn_of _ (by decide +kernel)) ggL_pages_X2_amplification
set_option maxRecDepth 20000 in
theorem ggL_pages_X2_stream : GoodIn wsL_pages wsX2_stream := goodIn_ca (goodIn_ca (goodIn_r _ [294, 71, 72, 73, 74, 14, 75, 76, 3, 77, 295, 296, 297, 13, 298, 40, 41, 42, 299, 300, 301, 302, 30, 158, 159, 160, 161, 29, 303, 304, 305, 306, 383, 384, 385, 386, 387, 388, 389, 390, 391, 392, 393, 394, 395, 396, 397, 398, 399, 400, 401, 402, 403, 404, 405, 406] rfl (by decide +kernel)) (goodIn_sub (fun _ h => List.mem_cons_of_mem _ (List.mem_append_left _ (List.mem_append_left _ (List.mem_append_right _ h)))) (by decide +kernel))) (goodIn_sub (fun _ h => List.mem_cons_of_mem _ (List.mem_append_left _ (List.mem_append_right _ h))) (by decide +kernel))
set_option maxRecDepth 20000 in
theorem gL_pages_X2_stream : GoodIn wsL_pages (wsV RL 55 RX2 yX2_stream wsX2_stream) := goodIn_app (goodIn_of _ (by decide +kernel)) ggL_pages_X2_stream
set_option maxRecDepth 20000 in
theorem ggL_pages_X2_bestRule : GoodIn wsL_pages wsX2_bestRule := goodIn_ca (goodIn_r _ [366, 73, 74, 359, 360, 361, 3, 362, 15, 14, 193, 172, 86, 87, 88, 13, 89, 29, 30, 31, 32, 33, 34, 35, 36, 37, 38, 39, 40, 41, 42, 43, 44, 45, 90, 91, 92, 93, 94, 95, 96, 97, 98, 99, 100, 173, 159, 160, 161, 349, 110, 111, 112, 113, 114, 115, 116, 117, 118, 119, 120, 121, 122, 123, 124, 125, 126, 127, 128, 129, 130, 131, 132, 133, 134, 135, 136, 137, 138, 139, 140, 141, 142, 143, 144, 145, 182, 106, 107, 108, 383, 384, 385, 386, 387, 388, 389, 390, 391, 392, 393, 394, 395, 396, 397, 398, 399, 400, 401, 402, 403, 404, 405, 406] rfl (by decide +kernel)) (goodIn_sub (fun _ h => List.mem_cons_of_mem _ (List.mem_append_left _ (List.mem_append_right _ h))) (by decide +kernel))
set_option maxRecDepth 20000 in
theorem gL_pages_X2_bestRule : GoodIn wsL_pages (wsV RL 70 RX2 yX2_bestRule wsX2_bestRule) := goodIn_app (goodIn_of _ (by decide +kernel)) ggL_pages_X2_bestRule
set_option maxRecDepth 20000 in
theorem ggL_pages_X2_ifRewritten : GoodIn wsL_pages wsX2_ifRewritten := goodIn_ca (goodIn_r _ [358, 73, 74, 14, 193, 359, 360, 361, 3, 362, 15, 172, 86, 87, 88, 13, 89, 29, 30, 31, 32, 33, 34, 35, 36, 37, 38, 39, 40, 41, 42, 43, 44, 45, 90, 91, 92, 93, 94, 95, 96, 97, 98, 99, 100, 173, 159, 160, 161, 349, 110, 111, 112, 113, 114, 115, 116, 117, 118, 119, 120, 121, 122, 123, 124, 125, 126, 127, 128, 129, 130, 131, 132, 133, 134, 135, 136, 137, 138, 139, 140, 141, 142, 143, 144, 145, 182, 106, 107, 108, 383, 384, 385, 386, 387, 388, 389, 390, 391, 392, 393, 394, 395, 396, 397, 398, 399, 400, 401, 402, 403, 404, 405, 406] rfl (by decide +kernel)) (goodIn_sub (fun _ h => List.mem_cons_of_mem _ (List.mem_append_left _ (List.mem_append_right _ h))) (by decide +kernel))
set_option maxRecDepth 20000 in
theorem gL_pages_X2_ifRewritten : GoodIn wsL_pages (wsV RL 67 RX2 yX2_ifRewritten wsX2_ifRewritten) := goodIn_app (goodIn_of _ (by decide +kernel)) ggL_pages_X2_ifRewritten
set_option maxRecDepth 20000 in
theorem ggL_pages_X2_write_1 : GoodIn wsL_pages (Cond.code yX2_write cX2_write 3 (some .int) :: wsX2_write_r1) := goodIn_r _ [70, 71, 72, 73, 74, 14, 75, 76, 3, 77, 78, 79, 80, 81, 17, 16, 82, 83, 84, 85, 86, 87, 88, 13, 89] rfl (by decide +kernel)
set_option maxRecDepth 20000 in
theorem ggL_pages_X2_write_2 : GoodIn wsL_pages wsX2_write_r2 := goodIn_r _ [29, 30, 31, 32, 33, 34, 35, 36, 37, 38, 39, 40, 41, 42, 43, 44, 45, 90, 91, 92, 93, 94, 95, 96] rfl (by decide +kernel)
set_option maxRecDepth 20000 in
theorem ggL_pages_X2_write_3 : GoodIn wsL_pages wsX2_write_r3 := goodIn_r _ [97, 98, 99, 100, 101, 102, 103, 104, 105, 106, 107, 108, 109, 110, 111, 112, 113, 114, 115, 116, 117, 118, 119, 120] rfl (by decide +kernel)
set_option maxRecDepth 20000 in
theorem ggL_pages_X2_write_4 : GoodIn wsL_pages wsX2_write_r4 := goodIn_r _ [121, 122, 123, 124, 125, 126, 127, 128, 129, 130, 131, 132, 133, 134, 135, 136, 137, 138, 139, 140, 141, 142, 143, 144] rfl (by decide +kernel)
set_option maxRecDepth 20000 in
theorem ggL_pages_X2_write_5 : GoodIn wsL_pages wsX2_write_r5 := goodIn_r _ [145] rfl (by decide +kernel)
set_option maxRecDepth 20000 in
theorem ggL_pages_X2_write_6 : GoodIn wsL_pages wsX20 := goodIn_r _ [383, 384, 385, 386, 387, 388, 389] rfl (by decide +kernel)
set_option maxRecDepth 20000 in
theorem ggL_pages_X2_write_7 : GoodIn wsL_pages wsX10 := goodIn_r _ [390, 391, 392, 393, 394, 395, 396, 397, 398, 399, 400, 401, 402, 403, 404, 405, 406] rfl (by decide +kernel)
set_option maxRecDepth 20000 in
theorem ggL_pages_X2_write : GoodIn wsL_pages wsX2_write := goodIn_ca (goodIn_ca ((goodIn_ca (goodIn_ca (goodIn_ca ggL_pages_X2_write_1 (goodIn_app ggL_pages_X2_write_2 (goodIn_app ggL_pages_X2_write_3 (goodIn_app ggL_pages_X2_write_4 ggL_pages_X2_write_5)))) ggL_pages_X2_write_6) ggL_pages_X2_write_7)) (goodIn_sub (fun _ h => List.mem_cons_of_mem _ (List.mem_append_left _ (List.mem_append_left _ (List.mem_append_right _ h)))) (by decide +kernel))) (goodIn_sub (fun _ h => List.mem_cons_of_mem _ (List.mem_append_left _ (List.mem_append_right _ h))) (by decide +kernel))
set_option maxRecDepth 20000 in
theorem gL_pages_X2_write : GoodIn wsL_pages (wsV RL 9 RX2 yX2_write wsX2_write) := goodIn_app (goodIn_of _ (by decide +kernel)) ggL_pages_X2_write
set_option maxRecDepth 20000 in
theorem ggL_pages_X2_page : GoodIn wsL_pages wsX2_page := goodIn_ca (goodIn_ca (goodIn_r _ [255, 71, 72, 73, 74, 14, 75, 76, 3, 77, 256, 257, 258, 13, 259, 29, 30, 31, 32, 33, 260, 155, 156, 157, 158, 159, 160, 161, 383, 384, 385, 386, 387, 388, 389, 390, 391, 392, 393, 394, 395, 396, 397, 398, 399, 400, 401, 402, 403, 404, 405, 406] rfl (by decide +kernel)) (goodIn_sub (fun _ h => List.mem_cons_of_mem _ (List.mem_append_left _ (List.mem_append_left _ (List.mem_append_right _ h)))) (by decide +kernel))) (goodIn_sub (fun _ h => List.mem_cons_of_mem _ (List.mem_append_left _ (List.mem_append_right _ h))) (by decide +kernel))
set_option maxRecDepth 20000 in
theorem gL_pages_X2_page : GoodIn wsL_pages (wsV RL 45 RX2 yX2_page wsX2_page) := goodIn_app (goodIn_of _ (by decide +kernel)) ggL_pages_X2_page
