set_option maxRecDepth 20000 in
theorem ggL_types_X2_append : GoodIn wsL_types wsX2_append := goodIn_ca (goodIn_ca (goodIn_r _ [6, 7, 8, 9, 10, 11, 12, 13, 14, 15, 16, 17, 18, 19] rfl (by decide +kernel)) (goodIn_sub (fun _ h => List.mem_cons_of_mem _ (List.mem_append_left _ (List.mem_append_right _ h))) (by decide +kernel))) (goodIn_sub (fun _ h => List.mem_cons_of_mem _ (List.mem_append_right _ h)) (by decide +kernel))
set_option maxRecDepth 20000 in
theorem gL_types_X2_append : GoodIn wsL_types (wsV RL 35 RX2 yX2_append wsX2_append) := goodIn_app (goodIn_of _ (by decide +kernel)) ggL_types_X2_append
theorem dL_types_0 : decode cL_types 0 = .ok (.iconst 1, 1) := by decide +kernel
theorem dL_types_1 : decode cL_types 1 = .ok (.istore_n 3, 1) := by decide +kernel
theorem dL_types_2 : decode cL_types 2 = .ok (.bipush 56, 2) := by decide +kernel
theorem dL_types_4 : decode cL_types 4 = .ok (.istore 4, 2) := by decide +kernel
theorem dL_types_6 : decode cL_types 6 = .ok (.iload 4, 2) := by decide +kernel
theorem dL_types_8 : decode cL_types 8 = .ok (.ifCond .lt 44, 3) := by decide +kernel
theorem dL_types_11 : decode cL_types 11 = .ok (.lload_n 1, 1) := by decide +kernel
theorem dL_types_12 : decode cL_types 12 = .ok (.iload 4, 2) := by decide +kernel
theorem dL_types_14 : decode cL_types 14 = .ok (.lshr, 1) := by decide +kernel
theorem dL_types_15 : decode cL_types 15 = .ok (.ldc2_w 111, 3) := by decide +kernel
theorem dL_types_18 : decode cL_types 18 = .ok (.land, 1) := by decide +kernel
theorem dL_types_19 : decode cL_types 19 = .ok (.l2i, 1) := by decide +kernel
theorem dL_types_20 : decode cL_types 20 = .ok (.istore 5, 2) := by decide +kernel
theorem dL_types_22 : decode cL_types 22 = .ok (.iload_n 3, 1) := by decide +kernel
theorem dL_types_23 : decode cL_types 23 = .ok (.ifCond .eq 21, 3) := by decide +kernel
theorem dL_types_26 : decode cL_types 26 = .ok (.iload 5, 2) := by decide +kernel
theorem dL_types_28 : decode cL_types 28 = .ok (.ifCond .eq 12, 3) := by decide +kernel
theorem dL_types_31 : decode cL_types 31 = .ok (.aload_n 0, 1) := by decide +kernel
theorem dL_types_32 : decode cL_types 32 = .ok (.iload 5, 2) := by decide +kernel
theorem dL_types_34 : decode cL_types 34 = .ok (.invokevirtual 35, 3) := by decide +kernel
theorem dL_types_37 : decode cL_types 37 = .ok (.ifCond .le 7, 3) := by decide +kernel
theorem dL_types_40 : decode cL_types 40 = .ok (.iconst 1, 1) := by decide +kernel
theorem dL_types_41 : decode cL_types 41 = .ok (.goto 4, 3) := by decide +kernel
theorem dL_types_44 : decode cL_types 44 = .ok (.iconst 0, 1) := by decide +kernel
theorem dL_types_45 : decode cL_types 45 = .ok (.istore_n 3, 1) := by decide +kernel
theorem dL_types_46 : decode cL_types 46 = .ok (.iinc 4 (-8), 3) := by decide +kernel
theorem dL_types_49 : decode cL_types 49 = .ok (.goto (-43), 3) := by decide +kernel
theorem dL_types_52 : decode cL_types 52 = .ok (.iload_n 3, 1) := by decide +kernel
theorem dL_types_53 : decode cL_types 53 = .ok (.ireturn, 1) := by decide +kernel
set_option maxRecDepth 20000 in
theorem ggL_errorOf_X2_init : GoodIn wsL_errorOf wsX2_init := goodIn_r _ [6, 7, 8, 9, 10, 11, 12, 13, 14, 15, 16, 17, 18, 19, 20, 21, 22, 23, 24, 25, 26, 27, 28, 29, 30, 31, 32, 33, 34, 35, 36, 37, 38, 39, 40, 41, 42, 43, 44, 45, 46, 47, 48, 49, 50, 51, 52, 53, 54, 55, 119, 120, 121, 122, 123, 124, 125, 126, 127, 128, 129, 130, 131, 132, 133, 134, 135, 112, 113, 114, 115, 116, 117, 118, 136, 137, 138, 139] rfl (by decide +kernel)
set_option maxRecDepth 20000 in
theorem gL_errorOf_X2_init : GoodIn wsL_errorOf (wsX2_init) := ggL_errorOf_X2_init
set_option maxRecDepth 20000 in
theorem ggL_errorOf_L_types : GoodIn wsL_errorOf wsL_types := goodIn_ca (goodIn_ca (goodIn_r _ [59, 60, 61, 62, 63, 3, 64, 65, 66, 67, 68, 19, 18, 112, 113, 114, 115, 116, 117, 118] rfl (by decide +kernel)) (goodIn_sub (fun _ h => List.mem_cons_of_mem _ (List.mem_append_left _ (List.mem_append_right _ h))) (by decide +kernel))) (goodIn_sub (fun _ h => List.mem_cons_of_mem _ (List.mem_append_right _ h)) (by decide +kernel))
set_option maxRecDepth 20000 in
theorem gL_errorOf_L_types : GoodIn wsL_errorOf (va_wsS RL 113 yL_types wsL_types) := goodIn_app (goodIn_of _ (by decide +kernel)) ggL_errorOf_L_types
set_option maxRecDepth 20000 in
theorem ggL_errorOf_X2_firstError : GoodIn wsL_errorOf wsX2_firstError := goodIn_r _ [72, 73, 74, 75, 3, 76, 23, 19, 18, 77, 78, 79, 22, 80, 52, 81, 82, 83, 84, 53, 85, 86, 87, 88, 54, 55, 89, 90, 91, 92, 93, 94, 95, 96, 97, 98, 99, 100, 101, 102, 103, 104, 105, 106, 107, 108, 109, 110, 111, 112, 113, 114, 115, 116, 117, 118, 136, 137, 138, 139] rfl (by decide +kernel)
set_option maxRecDepth 20000 in
theorem gL_errorOf_X2_firstError : GoodIn wsL_errorOf (wsV RL 117 RX2 yX2_firstError wsX2_firstError) := goodIn_app (goodIn_of _ (by decide +kernel)) ggL_errorOf_X2_firstError
theorem dL_errorOf_0 : decode cL_errorOf 0 = .ok (.new 10, 3) := by decide +kernel
theorem dL_errorOf_3 : decode cL_errorOf 3 = .ok (.dup, 1) := by decide +kernel
theorem dL_errorOf_4 : decode cL_errorOf 4 = .ok (.invokespecial 100, 3) := by decide +kernel
theorem dL_errorOf_7 : decode cL_errorOf 7 = .ok (.astore_n 2, 1) := by decide +kernel
theorem dL_errorOf_8 : decode cL_errorOf 8 = .ok (.aload_n 2, 1) := by decide +kernel
theorem dL_errorOf_9 : decode cL_errorOf 9 = .ok (.lload_n 0, 1) := by decide +kernel
theorem dL_errorOf_10 : decode cL_errorOf 10 = .ok (.invokestatic 113, 3) := by decide +kernel
theorem dL_errorOf_13 : decode cL_errorOf 13 = .ok (.ifCond .eq 10, 3) := by decide +kernel
theorem dL_errorOf_16 : decode cL_errorOf 16 = .ok (.aload_n 2, 1) := by decide +kernel
theorem dL_errorOf_17 : decode cL_errorOf 17 = .ok (.invokevirtual 117, 3) := by decide +kernel
theorem dL_errorOf_20 : decode cL_errorOf 20 = .ok (.goto 5, 3) := by decide +kernel
theorem dL_errorOf_23 : decode cL_errorOf 23 = .ok (.bipush (-99), 2) := by decide +kernel
theorem dL_errorOf_25 : decode cL_errorOf 25 = .ok (.ireturn, 1) := by decide +kernel
set_option maxRecDepth 20000 in
theorem ggL_texts_L_errorOf_1 : GoodIn wsL_texts (Cond.code yL_errorOf cL_errorOf 3 (some .int) :: wsL_errorOf_r1) := goodIn_r _ [30, 22, 23, 24, 31, 32, 33, 34, 35, 36, 37, 38, 39, 40, 41, 42, 43, 44, 45, 46, 47, 48, 49, 50, 51] rfl (by decide +kernel)
set_option maxRecDepth 20000 in
theorem ggL_texts_L_errorOf_2 : GoodIn wsL_texts wsL_errorOf_r2 := goodIn_r _ [52, 53, 54, 55, 56, 57, 58, 59, 60, 61, 62, 63, 64, 65, 66, 67, 68, 69, 70, 71, 72, 73, 74, 75] rfl (by decide +kernel)
set_option maxRecDepth 20000 in
theorem ggL_texts_L_errorOf_3 : GoodIn wsL_texts wsL_errorOf_r3 := goodIn_r _ [76, 77, 78, 79, 80, 81, 82, 83, 84, 29, 85, 86, 87, 88, 89, 90, 91, 92, 93, 94, 95, 96, 97, 98] rfl (by decide +kernel)
set_option maxRecDepth 20000 in
theorem ggL_texts_L_errorOf_4 : GoodIn wsL_texts wsL_errorOf_r4 := goodIn_r _ [99, 100, 101, 102, 103, 104, 105, 106, 107, 108, 109, 110, 111, 112, 113, 114, 115, 116, 117, 118, 119, 120, 121, 122] rfl (by decide +kernel)
set_option maxRecDepth 20000 in
theorem ggL_texts_L_errorOf_5 : GoodIn wsL_texts wsL_errorOf_r5 := goodIn_r _ [123, 124, 125, 126, 127, 128, 129, 130, 131, 132, 133, 134, 135, 136, 137] rfl (by decide +kernel)
set_option maxRecDepth 20000 in
theorem ggL_texts_L_errorOf_6 : GoodIn wsL_texts wsX20 := goodIn_r _ [404, 405, 406, 407, 408, 409, 410] rfl (by decide +kernel)
set_option maxRecDepth 20000 in
theorem ggL_texts_L_errorOf_7 : GoodIn wsL_texts wsX10 := goodIn_r _ [411, 412, 413, 414, 415, 416, 417, 418, 419, 420, 421, 422, 423, 424, 425, 426, 427] rfl (by decide +kernel)
set_option maxRecDepth 20000 in
theorem ggL_texts_L_errorOf_8 : GoodIn wsL_texts wsX00 := goodIn_r _ [428, 429, 430, 431] rfl (by decide +kernel)
set_option maxRecDepth 20000 in
theorem ggL_texts_L_errorOf : GoodIn wsL_texts wsL_errorOf := goodIn_ca (goodIn_ca ((goodIn_ca (goodIn_ca (goodIn_ca (goodIn_ca ggL_texts_L_errorOf_1 (goodIn_app ggL_texts_L_errorOf_2 (goodIn_app ggL_texts_L_errorOf_3 (goodIn_app ggL_texts_L_errorOf_4 ggL_texts_L_errorOf_5)))) ggL_texts_L_errorOf_6) ggL_texts_L_errorOf_7) ggL_texts_L_errorOf_8)) (goodIn_sub (fun _ h => List.mem_cons_of_mem _ (List.mem_append_left _ (List.mem_append_left _ (List.mem_append_right _ h)))) (by decide +kernel))) (goodIn_sub (fun _ h => List.mem_cons_of_mem _ (List.mem_append_left _ (List.mem_append_right _ h))) (by decide +kernel))
set_option maxRecDepth 20000 in
theorem gL_texts_L_errorOf : GoodIn wsL_texts (va_wsS RL 120 yL_errorOf wsL_errorOf) := goodIn_app (goodIn_of _ (by decide +kernel)) ggL_texts_L_errorOf
set_option maxRecDepth 20000 in
theorem ggL_texts_X2_init : GoodIn wsL_texts wsX2_init := goodIn_r _ [33, 34, 35, 36, 37, 38, 39, 40, 41, 42, 43, 44, 45, 46, 47, 48, 49, 50, 51, 52, 53, 54, 55, 56, 57, 58, 59, 60, 61, 62, 63, 64, 65, 66, 67, 68, 69, 70, 71, 72, 73, 74, 75, 76, 77, 78, 79, 80, 81, 82, 411, 412, 413, 414, 415, 416, 417, 418, 419, 420, 421, 422, 423, 424, 425, 426, 427, 404, 405, 406, 407, 408, 409, 410, 428, 429, 430, 431] rfl (by decide +kernel)
set_option maxRecDepth 20000 in
theorem gL_texts_X2_init : GoodIn wsL_texts (wsX2_init) := ggL_texts_X2_init
set_option maxRecDepth 20000 in
theorem ggL_texts_L_told_1 : GoodIn wsL_texts (Cond.codeWith yL_told cL_told 6 (some .int) [(0, 9, 10, 79), (0, 9, 15, 81), (0, 9, 20, 83)] :: wsL_told_r1) := goodIn_r _ [140, 141, 142, 143, 144, 145, 29, 146, 147, 148, 149, 24, 150, 151, 152, 91, 92, 40, 153, 154, 155, 156, 157, 158, 159] rfl (by decide +kernel)
set_option maxRecDepth 20000 in
theorem ggL_texts_L_told_2 : GoodIn wsL_texts wsL_told_r2 := goodIn_r _ [43, 42, 160, 161, 162, 163, 164, 165, 166, 39, 167, 55, 56, 57, 58, 59, 60, 61, 62, 63, 64, 65, 66, 67] rfl (by decide +kernel)
set_option maxRecDepth 20000 in
theorem ggL_texts_L_told_3 : GoodIn wsL_texts wsL_told_r3 := goodIn_r _ [68, 69, 70, 71, 168, 169, 170, 171, 172, 173, 174, 175, 176, 177, 178, 179, 180, 181, 182, 183, 184, 185, 186, 187] rfl (by decide +kernel)
set_option maxRecDepth 20000 in
theorem ggL_texts_L_told_4 : GoodIn wsL_texts wsL_told_r4 := goodIn_r _ [188, 189, 190, 191, 192, 193, 194, 195, 196, 197, 198, 199, 200, 201, 202, 203, 204, 205, 206, 207, 208, 209, 210, 211] rfl (by decide +kernel)
set_option maxRecDepth 20000 in
theorem ggL_texts_L_told_5 : GoodIn wsL_texts wsL_told_r5 := goodIn_r _ [212, 213, 214, 215, 216, 217, 218, 219, 220, 221, 222, 223, 224, 225, 226, 227, 228, 229, 230, 231, 232, 233, 234, 235] rfl (by decide +kernel)
set_option maxRecDepth 20000 in
theorem ggL_texts_L_told_6 : GoodIn wsL_texts wsL_told_r6 := goodIn_r _ [236, 237, 238, 239, 240, 241, 242, 243, 244, 245, 246, 247, 93, 94, 248, 249, 250, 251, 252, 253, 254, 255, 256, 257] rfl (by decide +kernel)
set_option maxRecDepth 20000 in
theorem ggL_texts_L_told_7 : GoodIn wsL_texts wsL_told_r7 := goodIn_r _ [258, 259, 260, 261, 262, 263, 264, 265, 266, 267, 268, 269, 270, 271, 272, 87, 88, 89, 90, 46, 45, 273, 274, 275] rfl (by decide +kernel)
set_option maxRecDepth 20000 in
theorem ggL_texts_L_told_8 : GoodIn wsL_texts wsL_told_r8 := goodIn_r _ [276, 50, 277, 278, 279, 99, 100, 101, 102, 103, 104, 105, 49, 106, 79, 107, 108, 109, 110, 80, 111, 112, 113, 114] rfl (by decide +kernel)
set_option maxRecDepth 20000 in
theorem ggL_texts_L_told_9 : GoodIn wsL_texts wsL_told_r9 := goodIn_r _ [81, 82, 115, 116, 117, 118, 119, 120, 121, 122, 123, 124, 125, 126, 127, 128, 129, 130, 131, 132, 133, 134, 135, 136] rfl (by decide +kernel)
set_option maxRecDepth 20000 in
theorem ggL_texts_L_told_10 : GoodIn wsL_texts wsL_told_r10 := goodIn_r _ [137, 280, 281, 282, 283, 284, 285, 286, 287, 288, 289, 290, 291, 292, 293, 294, 295, 296, 297, 298, 299, 300, 301, 302] rfl (by decide +kernel)
set_option maxRecDepth 20000 in
theorem ggL_texts_L_told_11 : GoodIn wsL_texts wsL_told_r11 := goodIn_r _ [303, 304, 305, 306, 307, 308, 309, 310, 311, 312, 313, 314, 315, 316, 317, 318, 319, 320, 321, 322, 323, 324, 325, 326] rfl (by decide +kernel)
set_option maxRecDepth 20000 in
theorem ggL_texts_L_told_12 : GoodIn wsL_texts wsL_told_r12 := goodIn_r _ [327, 328, 329, 330, 331, 332, 333, 334, 335, 336, 337, 338, 339, 340, 341, 342, 343, 344, 345, 346, 347, 348, 349, 350] rfl (by decide +kernel)
set_option maxRecDepth 20000 in
theorem ggL_texts_L_told_13 : GoodIn wsL_texts wsL_told_r13 := goodIn_r _ [351, 352, 353, 354, 355, 356, 357, 358, 359, 360, 361, 362, 363, 364, 365, 366, 367, 368, 369, 370, 371, 372, 373, 374] rfl (by decide +kernel)
set_option maxRecDepth 20000 in
theorem ggL_texts_L_told_14 : GoodIn wsL_texts wsL_told_r14 := goodIn_r _ [375, 376, 377, 378, 379, 380, 381, 41, 382, 383, 384, 385, 386, 387, 388, 389, 390, 391, 392, 393, 394, 395, 396, 397] rfl (by decide +kernel)
set_option maxRecDepth 20000 in
theorem ggL_texts_L_told_15 : GoodIn wsL_texts wsL_told_r15 := goodIn_r _ [398, 399] rfl (by decide +kernel)
set_option maxRecDepth 20000 in
theorem ggL_texts_L_told_16 : GoodIn wsL_texts wsX20 := goodIn_r _ [404, 405, 406, 407, 408, 409, 410] rfl (by decide +kernel)
set_option maxRecDepth 20000 in
theorem ggL_texts_L_told_17 : GoodIn wsL_texts wsX10 := goodIn_r _ [411, 412, 413, 414, 415, 416, 417, 418, 419, 420, 421, 422, 423, 424, 425, 426, 427] rfl (by decide +kernel)
set_option maxRecDepth 20000 in
theorem ggL_texts_L_told_18 : GoodIn wsL_texts wsX00 := goodIn_r _ [428, 429, 430, 431] rfl (by decide +kernel)
set_option maxRecDepth 20000 in
theorem ggL_texts_L_told : GoodIn wsL_texts wsL_told := goodIn_ca (goodIn_ca (goodIn_ca ((goodIn_ca (goodIn_ca (goodIn_ca (goodIn_ca ggL_texts_L_told_1 (goodIn_app ggL_texts_L_told_2 (goodIn_app ggL_texts_L_told_3 (goodIn_app ggL_texts_L_told_4 (goodIn_app ggL_texts_L_told_5 (goodIn_app ggL_texts_L_told_6 (goodIn_app ggL_texts_L_told_7 (goodIn_app ggL_texts_L_told_8 (goodIn_app ggL_texts_L_told_9 (goodIn_app ggL_texts_L_told_10 (goodIn_app ggL_texts_L_told_11 (goodIn_app ggL_texts_L_told_12 (goodIn_app ggL_texts_L_told_13 (goodIn_app ggL_texts_L_told_14 ggL_texts_L_told_15)))))))))))))) ggL_texts_L_told_16) ggL_texts_L_told_17) ggL_texts_L_told_18)) (goodIn_sub (fun _ h => List.mem_cons_of_mem _ (List.mem_append_right _ h)) (by decide +kernel))) (goodIn_sub (fun _ h => List.mem_cons_of_mem _ (List.mem_append_left _ (List.mem_append_left _ (List.mem_append_right _ h)))) (by decide +kernel))) (goodIn_sub (fun _ h => List.mem_cons_of_mem _ (List.mem_append_left _ (List.mem_append_right _ h))) (by decide +kernel))
set_option maxRecDepth 20000 in
theorem gL_texts_L_told : GoodIn wsL_texts (va_wsS RL 89 yL_told wsL_told) := goodIn_app (goodIn_of _ (by decide +kernel)) ggL_texts_L_told
set_option maxRecDepth 20000 in
theorem ggL_texts_L_types : GoodIn wsL_texts wsL_types := goodIn_ca (goodIn_ca (goodIn_r _ [85, 86, 87, 88, 89, 24, 90, 91, 92, 93, 94, 46, 45, 404, 405, 406, 407, 408, 409, 410] rfl (by decide +kernel)) (goodIn_sub (fun _ h => List.mem_cons_of_mem _ (List.mem_append_left _ (List.mem_append_left _ (List.mem_append_right _ h)))) (by decide +kernel))) (goodIn_sub (fun _ h => List.mem_cons_of_mem _ (List.mem_append_left _ (List.mem_append_right _ h))) (by decide +kernel))
set_option maxRecDepth 20000 in
theorem gL_texts_L_types : GoodIn wsL_texts (va_wsS RL 113 yL_types wsL_types) := goodIn_app (goodIn_of _ (by decide +kernel)) ggL_texts_L_types
set_option maxRecDepth 20000 in
theorem ggL_texts_X2_writeAll_1 : GoodIn wsL_texts (Cond.code yX2_writeAll cX2_writeAll 3 (some .int) :: wsX2_writeAll_r1) := goodIn_r _ [276, 91, 92, 46, 50, 45, 40, 277, 278, 279, 99, 100, 101, 24, 102, 103, 104, 105, 49, 106, 79, 107, 108, 109, 110] rfl (by decide +kernel)
set_option maxRecDepth 20000 in
theorem ggL_texts_X2_writeAll_2 : GoodIn wsL_texts wsX2_writeAll_r2 := goodIn_r _ [80, 111, 112, 113, 114, 81, 82, 115, 116, 117, 118, 119, 120, 121, 122, 123, 124, 125, 126, 127, 128, 129, 130, 131] rfl (by decide +kernel)
set_option maxRecDepth 20000 in
theorem ggL_texts_X2_writeAll_3 : GoodIn wsL_texts wsX2_writeAll_r3 := goodIn_r _ [132, 133, 134, 135, 136, 137, 280, 156, 157, 158, 159, 43, 42, 160, 161, 162, 163, 164, 165, 166, 39, 167, 55, 56] rfl (by decide +kernel)
set_option maxRecDepth 20000 in
theorem ggL_texts_X2_writeAll_4 : GoodIn wsL_texts wsX2_writeAll_r4 := goodIn_r _ [57, 58, 59, 60, 61, 62, 63, 64, 65, 66, 67, 68, 69, 70, 71, 168, 169, 170, 171, 172, 173, 174, 175, 176] rfl (by decide +kernel)
set_option maxRecDepth 20000 in
theorem ggL_texts_X2_writeAll_5 : GoodIn wsL_texts wsX2_writeAll_r5 := goodIn_r _ [177, 178, 179, 180, 181, 182, 183, 184, 185, 186, 187, 188, 189, 190, 191, 192, 193, 194, 195, 196, 197, 198, 199, 200] rfl (by decide +kernel)
set_option maxRecDepth 20000 in
theorem ggL_texts_X2_writeAll_6 : GoodIn wsL_texts wsX2_writeAll_r6 := goodIn_r _ [201, 202, 203, 204, 205, 206, 207, 208, 209, 210, 211, 212, 213, 214, 215, 216, 217, 218, 219, 220, 221, 222, 223] rfl (by decide +kernel)
set_option maxRecDepth 20000 in
theorem ggL_texts_X2_writeAll_7 : GoodIn wsL_texts wsX20 := goodIn_r _ [404, 405, 406, 407, 408, 409, 410] rfl (by decide +kernel)
set_option maxRecDepth 20000 in
theorem ggL_texts_X2_writeAll_8 : GoodIn wsL_texts wsX00 := goodIn_r _ [428, 429, 430, 431] rfl (by decide +kernel)
set_option maxRecDepth 20000 in
theorem ggL_texts_X2_writeAll_9 : GoodIn wsL_texts wsX10 := goodIn_r _ [411, 412, 413, 414, 415, 416, 417, 418, 419, 420, 421, 422, 423, 424, 425, 426, 427] rfl (by decide +kernel)
set_option maxRecDepth 20000 in
theorem ggL_texts_X2_writeAll : GoodIn wsL_texts wsX2_writeAll := goodIn_ca ((goodIn_ca (goodIn_ca (goodIn_ca (goodIn_ca ggL_texts_X2_writeAll_1 (goodIn_app ggL_texts_X2_writeAll_2 (goodIn_app ggL_texts_X2_writeAll_3 (goodIn_app ggL_texts_X2_writeAll_4 (goodIn_app ggL_texts_X2_writeAll_5 ggL_texts_X2_writeAll_6))))) ggL_texts_X2_writeAll_7) ggL_texts_X2_writeAll_8) ggL_texts_X2_writeAll_9)) (goodIn_sub (fun _ h => List.mem_cons_of_mem _ (List.mem_append_left _ (List.mem_append_left _ (List.mem_append_right _ h)))) (by decide +kernel))
set_option maxRecDepth 20000 in
theorem gL_texts_X2_writeAll : GoodIn wsL_texts (wsV RL 38 RX2 yX2_writeAll wsX2_writeAll) := goodIn_app (goodIn_of _ (by decide +kernel)) ggL_texts_X2_writeAll
set_option maxRecDepth 20000 in
theorem ggL_texts_X2_count : GoodIn wsL_texts wsX2_count := goodIn_ca (goodIn_r _ [343, 91, 92, 43, 40, 153, 154, 24, 155, 344, 345, 346, 39, 347, 63, 70, 62, 348, 349, 350, 351, 352, 353, 354, 66, 355, 356, 357, 358, 57, 183, 184, 185, 186, 67, 359, 360, 361, 362, 64, 363, 364, 365, 366, 367, 368, 173, 369, 171, 172, 174, 196, 197, 198, 199, 200, 201, 202, 203, 69, 65, 404, 405, 406, 407, 408, 409, 410, 411, 412, 413, 414, 415, 416, 417, 418, 419, 420, 421, 422, 423, 424, 425, 426, 427] rfl (by decide +kernel)) (goodIn_sub (fun _ h => List.mem_cons_of_mem _ (List.mem_append_left _ (List.mem_append_left _ (List.mem_append_right _ h)))) (by decide +kernel))
set_option maxRecDepth 20000 in
theorem gL_texts_X2_count : GoodIn wsL_texts (wsV RL 58 RX2 yX2_count wsX2_count) := goodIn_app (goodIn_of _ (by decide +kernel)) ggL_texts_X2_count
set_option maxRecDepth 20000 in
theorem ggL_texts_X2_clearBuffer : GoodIn wsL_texts wsX2_clearBuffer := goodIn_r _ [403, 46, 404, 405, 406, 407, 408, 409, 410] rfl (by decide +kernel)
set_option maxRecDepth 20000 in
theorem gL_texts_X2_clearBuffer : GoodIn wsL_texts (wsV RL 170 RX2 yX2_clearBuffer wsX2_clearBuffer) := goodIn_app (goodIn_of _ (by decide +kernel)) ggL_texts_X2_clearBuffer
