set_option maxRecDepth 20000 in
theorem ggL_seen_X2_count : GoodIn wsL_seen wsX2_count := goodIn_ca (goodIn_r _ [7, 8, 9, 10, 11, 12, 13, 6, 14, 15, 16, 17, 18, 19, 20, 21, 22, 23, 24, 25, 26, 27, 28, 29, 30, 31, 32, 33, 34, 35, 36, 37, 38, 39, 40, 41, 42, 43, 44, 45, 46, 47, 48, 49, 50, 51, 52, 53, 54, 55, 56, 57, 58, 59, 60, 61, 62, 63, 64, 65, 66, 150, 151, 152, 153, 154, 155, 156, 157, 158, 159, 160, 161, 162, 163, 164, 165, 166, 167, 168, 169, 170, 171, 172, 173] (by decide +kernel) (by decide +kernel)) (goodIn_sub (fun _ h => List.mem_cons_of_mem _ (List.mem_append_left _ (List.mem_append_right _ h))) (by decide +kernel))
set_option maxRecDepth 20000 in
theorem gL_seen_X2_count : GoodIn wsL_seen (wsV RL 58 RX2 yX2_count wsX2_count) := goodIn_app (goodIn_of _ (by decide +kernel)) ggL_seen_X2_count
set_option maxRecDepth 20000 in
theorem ggL_seen_X2_page : GoodIn wsL_seen wsX2_page := goodIn_ca (goodIn_ca (goodIn_r _ [70, 71, 72, 8, 9, 11, 12, 13, 6, 14, 73, 74, 75, 18, 76, 77, 78, 35, 79, 80, 81, 82, 83, 84, 85, 86, 87, 88, 150, 151, 152, 153, 154, 155, 156, 157, 158, 159, 160, 161, 162, 163, 164, 165, 166, 167, 168, 169, 170, 171, 172, 173] (by decide +kernel) (by decide +kernel)) (goodIn_sub (fun _ h => List.mem_cons_of_mem _ (List.mem_append_right _ h)) (by decide +kernel))) (goodIn_sub (fun _ h => List.mem_cons_of_mem _ (List.mem_append_left _ (List.mem_append_right _ h))) (by decide +kernel))
set_option maxRecDepth 20000 in
theorem gL_seen_X2_page : GoodIn wsL_seen (wsV RL 45 RX2 yX2_page wsX2_page) := goodIn_app (goodIn_of _ (by decide +kernel)) ggL_seen_X2_page
set_option maxRecDepth 20000 in
theorem ggL_seen_X2_block : GoodIn wsL_seen wsX2_block := goodIn_ca (goodIn_ca (goodIn_r _ [92, 71, 72, 8, 9, 11, 12, 13, 6, 14, 93, 94, 95, 18, 96, 97, 20, 22, 45, 98, 99, 100, 101, 102, 103, 104, 105, 66, 106, 107, 108, 109, 78, 110, 111, 112, 113, 114, 77, 115, 116, 117, 118, 119, 120, 121, 150, 151, 152, 153, 154, 155, 156, 157, 158, 159, 160, 161, 162, 163, 164, 165, 166, 167, 168, 169, 170, 171, 172, 173] (by decide +kernel) (by decide +kernel)) (goodIn_sub (fun _ h => List.mem_cons_of_mem _ (List.mem_append_right _ h)) (by decide +kernel))) (goodIn_sub (fun _ h => List.mem_cons_of_mem _ (List.mem_append_left _ (List.mem_append_right _ h))) (by decide +kernel))
set_option maxRecDepth 20000 in
theorem gL_seen_X2_block : GoodIn wsL_seen (wsV RL 48 RX2 yX2_block wsX2_block) := goodIn_app (goodIn_of _ (by decide +kernel)) ggL_seen_X2_block
set_option maxRecDepth 20000 in
theorem ggL_seen_X2_slot : GoodIn wsL_seen wsX2_slot := goodIn_ca (goodIn_r _ [125, 71, 72, 11, 126, 12, 13, 6, 14, 127, 111, 112, 18, 113, 114, 77, 150, 151, 152, 153, 154, 155, 156, 157, 158, 159, 160, 161, 162, 163, 164, 165, 166, 167, 168, 169, 170, 171, 172, 173] (by decide +kernel) (by decide +kernel)) (goodIn_sub (fun _ h => List.mem_cons_of_mem _ (List.mem_append_right _ h)) (by decide +kernel))
set_option maxRecDepth 20000 in
theorem gL_seen_X2_slot : GoodIn wsL_seen (wsV RL 51 RX2 yX2_slot wsX2_slot) := goodIn_app (goodIn_of _ (by decide +kernel)) ggL_seen_X2_slot
set_option maxRecDepth 20000 in
theorem ggL_seen_X2_stream : GoodIn wsL_seen wsX2_stream := goodIn_ca (goodIn_ca (goodIn_r _ [131, 71, 72, 8, 9, 11, 12, 13, 6, 14, 132, 133, 134, 18, 135, 30, 40, 136, 137, 138, 139, 140, 78, 85, 86, 87, 88, 77, 141, 142, 143, 144, 150, 151, 152, 153, 154, 155, 156, 157, 158, 159, 160, 161, 162, 163, 164, 165, 166, 167, 168, 169, 170, 171, 172, 173] (by decide +kernel) (by decide +kernel)) (goodIn_sub (fun _ h => List.mem_cons_of_mem _ (List.mem_append_right _ h)) (by decide +kernel))) (goodIn_sub (fun _ h => List.mem_cons_of_mem _ (List.mem_append_left _ (List.mem_append_right _ h))) (by decide +kernel))
set_option maxRecDepth 20000 in
theorem gL_seen_X2_stream : GoodIn wsL_seen (wsV RL 55 RX2 yX2_stream wsX2_stream) := goodIn_app (goodIn_of _ (by decide +kernel)) ggL_seen_X2_stream
set_option maxRecDepth 20000 in
theorem ggL_seen_X2_setting : GoodIn wsL_seen wsX2_setting := goodIn_ca (goodIn_r _ [148, 71, 72, 11, 149, 12, 13, 6, 14, 150, 151, 152, 153, 154, 155, 156, 157, 158, 159, 160, 161, 162, 163, 164, 165, 166, 167, 168, 169, 170, 171, 172, 173] (by decide +kernel) (by decide +kernel)) (goodIn_sub (fun _ h => List.mem_cons_of_mem _ (List.mem_append_right _ h)) (by decide +kernel))
set_option maxRecDepth 20000 in
theorem gL_seen_X2_setting : GoodIn wsL_seen (wsV RL 61 RX2 yX2_setting wsX2_setting) := goodIn_app (goodIn_of _ (by decide +kernel)) ggL_seen_X2_setting
theorem dL_seen_0 : decode cL_seen 0 = .ok (.ldc2_w 85, 3) := by decide +kernel
theorem dL_seen_3 : decode cL_seen 3 = .ok (.lstore_n 1, 1) := by decide +kernel
theorem dL_seen_4 : decode cL_seen 4 = .ok (.iconst 0, 1) := by decide +kernel
theorem dL_seen_5 : decode cL_seen 5 = .ok (.istore_n 3, 1) := by decide +kernel
theorem dL_seen_6 : decode cL_seen 6 = .ok (.iload_n 3, 1) := by decide +kernel
theorem dL_seen_7 : decode cL_seen 7 = .ok (.bipush 11, 2) := by decide +kernel
theorem dL_seen_9 : decode cL_seen 9 = .ok (.if_icmp .ge 22, 3) := by decide +kernel
theorem dL_seen_12 : decode cL_seen 12 = .ok (.ldc2_w 87, 3) := by decide +kernel
theorem dL_seen_15 : decode cL_seen 15 = .ok (.lload_n 1, 1) := by decide +kernel
theorem dL_seen_16 : decode cL_seen 16 = .ok (.lmul, 1) := by decide +kernel
theorem dL_seen_17 : decode cL_seen 17 = .ok (.aload_n 0, 1) := by decide +kernel
theorem dL_seen_18 : decode cL_seen 18 = .ok (.iload_n 3, 1) := by decide +kernel
theorem dL_seen_19 : decode cL_seen 19 = .ok (.invokevirtual 58, 3) := by decide +kernel
theorem dL_seen_22 : decode cL_seen 22 = .ok (.i2l, 1) := by decide +kernel
theorem dL_seen_23 : decode cL_seen 23 = .ok (.ladd, 1) := by decide +kernel
theorem dL_seen_24 : decode cL_seen 24 = .ok (.lstore_n 1, 1) := by decide +kernel
theorem dL_seen_25 : decode cL_seen 25 = .ok (.iinc 3 1, 3) := by decide +kernel
theorem dL_seen_28 : decode cL_seen 28 = .ok (.goto (-22), 3) := by decide +kernel
theorem dL_seen_31 : decode cL_seen 31 = .ok (.iconst 0, 1) := by decide +kernel
theorem dL_seen_32 : decode cL_seen 32 = .ok (.istore_n 3, 1) := by decide +kernel
theorem dL_seen_33 : decode cL_seen 33 = .ok (.iload_n 3, 1) := by decide +kernel
theorem dL_seen_34 : decode cL_seen 34 = .ok (.sipush 240, 3) := by decide +kernel
theorem dL_seen_37 : decode cL_seen 37 = .ok (.if_icmp .ge 29, 3) := by decide +kernel
theorem dL_seen_40 : decode cL_seen 40 = .ok (.ldc2_w 87, 3) := by decide +kernel
theorem dL_seen_43 : decode cL_seen 43 = .ok (.lload_n 1, 1) := by decide +kernel
theorem dL_seen_44 : decode cL_seen 44 = .ok (.lmul, 1) := by decide +kernel
theorem dL_seen_45 : decode cL_seen 45 = .ok (.aload_n 0, 1) := by decide +kernel
theorem dL_seen_46 : decode cL_seen 46 = .ok (.iload_n 3, 1) := by decide +kernel
theorem dL_seen_47 : decode cL_seen 47 = .ok (.bipush 6, 2) := by decide +kernel
theorem dL_seen_49 : decode cL_seen 49 = .ok (.idiv, 1) := by decide +kernel
theorem dL_seen_50 : decode cL_seen 50 = .ok (.iload_n 3, 1) := by decide +kernel
theorem dL_seen_51 : decode cL_seen 51 = .ok (.bipush 6, 2) := by decide +kernel
theorem dL_seen_53 : decode cL_seen 53 = .ok (.irem, 1) := by decide +kernel
theorem dL_seen_54 : decode cL_seen 54 = .ok (.invokevirtual 45, 3) := by decide +kernel
theorem dL_seen_57 : decode cL_seen 57 = .ok (.i2l, 1) := by decide +kernel
theorem dL_seen_58 : decode cL_seen 58 = .ok (.ladd, 1) := by decide +kernel
theorem dL_seen_59 : decode cL_seen 59 = .ok (.lstore_n 1, 1) := by decide +kernel
theorem dL_seen_60 : decode cL_seen 60 = .ok (.iinc 3 1, 3) := by decide +kernel
theorem dL_seen_63 : decode cL_seen 63 = .ok (.goto (-30), 3) := by decide +kernel
theorem dL_seen_66 : decode cL_seen 66 = .ok (.iconst 0, 1) := by decide +kernel
theorem dL_seen_67 : decode cL_seen 67 = .ok (.istore_n 3, 1) := by decide +kernel
theorem dL_seen_68 : decode cL_seen 68 = .ok (.iload_n 3, 1) := by decide +kernel
theorem dL_seen_69 : decode cL_seen 69 = .ok (.bipush 96, 2) := by decide +kernel
theorem dL_seen_71 : decode cL_seen 71 = .ok (.if_icmp .ge 48, 3) := by decide +kernel
theorem dL_seen_74 : decode cL_seen 74 = .ok (.ldc2_w 87, 3) := by decide +kernel
theorem dL_seen_77 : decode cL_seen 77 = .ok (.ldc2_w 87, 3) := by decide +kernel
theorem dL_seen_80 : decode cL_seen 80 = .ok (.lload_n 1, 1) := by decide +kernel
theorem dL_seen_81 : decode cL_seen 81 = .ok (.lmul, 1) := by decide +kernel
theorem dL_seen_82 : decode cL_seen 82 = .ok (.aload_n 0, 1) := by decide +kernel
theorem dL_seen_83 : decode cL_seen 83 = .ok (.iload_n 3, 1) := by decide +kernel
theorem dL_seen_84 : decode cL_seen 84 = .ok (.bipush 8, 2) := by decide +kernel
theorem dL_seen_86 : decode cL_seen 86 = .ok (.idiv, 1) := by decide +kernel
theorem dL_seen_87 : decode cL_seen 87 = .ok (.iload_n 3, 1) := by decide +kernel
theorem dL_seen_88 : decode cL_seen 88 = .ok (.bipush 8, 2) := by decide +kernel
theorem dL_seen_90 : decode cL_seen 90 = .ok (.irem, 1) := by decide +kernel
theorem dL_seen_91 : decode cL_seen 91 = .ok (.invokevirtual 48, 3) := by decide +kernel
theorem dL_seen_94 : decode cL_seen 94 = .ok (.i2l, 1) := by decide +kernel
theorem dL_seen_95 : decode cL_seen 95 = .ok (.ladd, 1) := by decide +kernel
theorem dL_seen_96 : decode cL_seen 96 = .ok (.lmul, 1) := by decide +kernel
theorem dL_seen_97 : decode cL_seen 97 = .ok (.aload_n 0, 1) := by decide +kernel
theorem dL_seen_98 : decode cL_seen 98 = .ok (.iload_n 3, 1) := by decide +kernel
theorem dL_seen_99 : decode cL_seen 99 = .ok (.bipush 8, 2) := by decide +kernel
theorem dL_seen_101 : decode cL_seen 101 = .ok (.idiv, 1) := by decide +kernel
theorem dL_seen_102 : decode cL_seen 102 = .ok (.iload_n 3, 1) := by decide +kernel
theorem dL_seen_103 : decode cL_seen 103 = .ok (.bipush 8, 2) := by decide +kernel
theorem dL_seen_105 : decode cL_seen 105 = .ok (.irem, 1) := by decide +kernel
theorem dL_seen_106 : decode cL_seen 106 = .ok (.iconst 0, 1) := by decide +kernel
theorem dL_seen_107 : decode cL_seen 107 = .ok (.invokevirtual 51, 3) := by decide +kernel
theorem dL_seen_110 : decode cL_seen 110 = .ok (.i2l, 1) := by decide +kernel
theorem dL_seen_111 : decode cL_seen 111 = .ok (.ladd, 1) := by decide +kernel
theorem dL_seen_112 : decode cL_seen 112 = .ok (.lstore_n 1, 1) := by decide +kernel
theorem dL_seen_113 : decode cL_seen 113 = .ok (.iinc 3 1, 3) := by decide +kernel
theorem dL_seen_116 : decode cL_seen 116 = .ok (.goto (-48), 3) := by decide +kernel
theorem dL_seen_119 : decode cL_seen 119 = .ok (.iconst 0, 1) := by decide +kernel
theorem dL_seen_120 : decode cL_seen 120 = .ok (.istore_n 3, 1) := by decide +kernel
theorem dL_seen_121 : decode cL_seen 121 = .ok (.iload_n 3, 1) := by decide +kernel
theorem dL_seen_122 : decode cL_seen 122 = .ok (.bipush 25, 2) := by decide +kernel
theorem dL_seen_124 : decode cL_seen 124 = .ok (.if_icmp .ge 27, 3) := by decide +kernel
theorem dL_seen_127 : decode cL_seen 127 = .ok (.ldc2_w 87, 3) := by decide +kernel
theorem dL_seen_130 : decode cL_seen 130 = .ok (.lload_n 1, 1) := by decide +kernel
theorem dL_seen_131 : decode cL_seen 131 = .ok (.lmul, 1) := by decide +kernel
theorem dL_seen_132 : decode cL_seen 132 = .ok (.aload_n 0, 1) := by decide +kernel
theorem dL_seen_133 : decode cL_seen 133 = .ok (.iload_n 3, 1) := by decide +kernel
theorem dL_seen_134 : decode cL_seen 134 = .ok (.iconst 5, 1) := by decide +kernel
theorem dL_seen_135 : decode cL_seen 135 = .ok (.idiv, 1) := by decide +kernel
theorem dL_seen_136 : decode cL_seen 136 = .ok (.iload_n 3, 1) := by decide +kernel
theorem dL_seen_137 : decode cL_seen 137 = .ok (.iconst 5, 1) := by decide +kernel
theorem dL_seen_138 : decode cL_seen 138 = .ok (.irem, 1) := by decide +kernel
theorem dL_seen_139 : decode cL_seen 139 = .ok (.invokevirtual 55, 3) := by decide +kernel
theorem dL_seen_142 : decode cL_seen 142 = .ok (.i2l, 1) := by decide +kernel
theorem dL_seen_143 : decode cL_seen 143 = .ok (.ladd, 1) := by decide +kernel
theorem dL_seen_144 : decode cL_seen 144 = .ok (.lstore_n 1, 1) := by decide +kernel
theorem dL_seen_145 : decode cL_seen 145 = .ok (.iinc 3 1, 3) := by decide +kernel
theorem dL_seen_148 : decode cL_seen 148 = .ok (.goto (-27), 3) := by decide +kernel
theorem dL_seen_151 : decode cL_seen 151 = .ok (.ldc2_w 87, 3) := by decide +kernel
theorem dL_seen_154 : decode cL_seen 154 = .ok (.ldc2_w 87, 3) := by decide +kernel
theorem dL_seen_157 : decode cL_seen 157 = .ok (.lload_n 1, 1) := by decide +kernel
theorem dL_seen_158 : decode cL_seen 158 = .ok (.lmul, 1) := by decide +kernel
theorem dL_seen_159 : decode cL_seen 159 = .ok (.aload_n 0, 1) := by decide +kernel
theorem dL_seen_160 : decode cL_seen 160 = .ok (.iconst 0, 1) := by decide +kernel
theorem dL_seen_161 : decode cL_seen 161 = .ok (.invokevirtual 61, 3) := by decide +kernel
theorem dL_seen_164 : decode cL_seen 164 = .ok (.i2l, 1) := by decide +kernel
theorem dL_seen_165 : decode cL_seen 165 = .ok (.ladd, 1) := by decide +kernel
theorem dL_seen_166 : decode cL_seen 166 = .ok (.lmul, 1) := by decide +kernel
theorem dL_seen_167 : decode cL_seen 167 = .ok (.aload_n 0, 1) := by decide +kernel
theorem dL_seen_168 : decode cL_seen 168 = .ok (.iconst 1, 1) := by decide +kernel
theorem dL_seen_169 : decode cL_seen 169 = .ok (.invokevirtual 61, 3) := by decide +kernel
theorem dL_seen_172 : decode cL_seen 172 = .ok (.i2l, 1) := by decide +kernel
theorem dL_seen_173 : decode cL_seen 173 = .ok (.ladd, 1) := by decide +kernel
theorem dL_seen_174 : decode cL_seen 174 = .ok (.lreturn, 1) := by decide +kernel
set_option maxRecDepth 20000 in
theorem ggL_refusesAny_L_told_1 : GoodIn wsL_refusesAny (Cond.codeWith yL_told cL_told 6 (some .int) [(0, 9, 10, 79), (0, 9, 15, 81), (0, 9, 20, 83)] :: wsL_told_r1) := goodIn_r _ [4, 5, 6, 7, 8, 9, 3, 10, 11, 12, 13, 14, 15, 16, 17, 18, 19, 20, 21, 22, 23, 24, 25, 26, 27] (by decide +kernel) (by decide +kernel)
set_option maxRecDepth 20000 in
theorem ggL_refusesAny_L_told_2 : GoodIn wsL_refusesAny wsL_told_r2 := goodIn_r _ [28, 29, 30, 31, 32, 33, 34, 35, 36, 37, 38, 39, 40, 41, 42, 43, 44, 45, 46, 47, 48, 49, 50, 51] (by decide +kernel) (by decide +kernel)
set_option maxRecDepth 20000 in
theorem ggL_refusesAny_L_told_3 : GoodIn wsL_refusesAny wsL_told_r3 := goodIn_r _ [52, 53, 54, 55, 56, 57, 58, 59, 60, 61, 62, 63, 64, 65, 66, 67, 68, 69, 70, 71, 72, 73, 74, 75] (by decide +kernel) (by decide +kernel)
set_option maxRecDepth 20000 in
theorem ggL_refusesAny_L_told_4 : GoodIn wsL_refusesAny wsL_told_r4 := goodIn_r _ [76, 77, 78, 79, 80, 81, 82, 83, 84, 85, 86, 87, 88, 89, 90, 91, 92, 93, 94, 95, 96, 97, 98, 99] (by decide +kernel) (by decide +kernel)
set_option maxRecDepth 20000 in
theorem ggL_refusesAny_L_told_5 : GoodIn wsL_refusesAny wsL_told_r5 := goodIn_r _ [100, 101, 102, 103, 104, 105, 106, 107, 108, 109, 110, 111, 112, 113, 114, 115, 116, 117, 118, 119, 120, 121, 122, 123] (by decide +kernel) (by decide +kernel)
set_option maxRecDepth 20000 in
theorem ggL_refusesAny_L_told_6 : GoodIn wsL_refusesAny wsL_told_r6 := goodIn_r _ [124, 125, 126, 127, 128, 129, 130, 131, 132, 133, 134, 135, 136, 137, 138, 139, 140, 141, 142, 143, 144, 145, 146, 147] (by decide +kernel) (by decide +kernel)
set_option maxRecDepth 20000 in
theorem ggL_refusesAny_L_told_7 : GoodIn wsL_refusesAny wsL_told_r7 := goodIn_r _ [148, 149, 150, 151, 152, 153, 154, 155, 156, 157, 158, 159, 160, 161, 162, 163, 164, 165, 166, 167, 168, 169, 170, 171] (by decide +kernel) (by decide +kernel)
set_option maxRecDepth 20000 in
theorem ggL_refusesAny_L_told_8 : GoodIn wsL_refusesAny wsL_told_r8 := goodIn_r _ [172, 173, 174, 175, 176, 177, 178, 179, 180, 181, 182, 183, 184, 185, 186, 187, 188, 189, 190, 191, 192, 193, 194, 195] (by decide +kernel) (by decide +kernel)
set_option maxRecDepth 20000 in
theorem ggL_refusesAny_L_told_9 : GoodIn wsL_refusesAny wsL_told_r9 := goodIn_r _ [196, 197, 198, 199, 200, 201, 202, 203, 204, 205, 206, 207, 208, 209, 210, 211, 212, 213, 214, 215, 216, 217, 218, 219] (by decide +kernel) (by decide +kernel)
set_option maxRecDepth 20000 in
theorem ggL_refusesAny_L_told_10 : GoodIn wsL_refusesAny wsL_told_r10 := goodIn_r _ [220, 221, 222, 223, 224, 225, 226, 227, 228, 229, 230, 231, 232, 233, 234, 235, 236, 237, 238, 239, 240, 241, 242, 243] (by decide +kernel) (by decide +kernel)
set_option maxRecDepth 20000 in
theorem ggL_refusesAny_L_told_11 : GoodIn wsL_refusesAny wsL_told_r11 := goodIn_r _ [244, 245, 246, 247, 248, 249, 250, 251, 252, 253, 254, 255, 256, 257, 258, 259, 260, 261, 262, 263, 264, 265, 266, 267] (by decide +kernel) (by decide +kernel)
set_option maxRecDepth 20000 in
theorem ggL_refusesAny_L_told_12 : GoodIn wsL_refusesAny wsL_told_r12 := goodIn_r _ [268, 269, 270, 271, 272, 273, 274, 275, 276, 277, 278, 279, 280, 281, 282, 283, 284, 285, 286, 287, 288, 289, 290, 291] (by decide +kernel) (by decide +kernel)
set_option maxRecDepth 20000 in
theorem ggL_refusesAny_L_told_13 : GoodIn wsL_refusesAny wsL_told_r13 := goodIn_r _ [292, 293, 294, 295, 296, 297, 298, 299, 300, 301, 302, 303, 304, 305, 306, 307, 308, 309, 310, 311, 312, 313, 314, 315] (by decide +kernel) (by decide +kernel)
set_option maxRecDepth 20000 in
theorem ggL_refusesAny_L_told_14 : GoodIn wsL_refusesAny wsL_told_r14 := goodIn_r _ [316, 317, 318, 319, 320, 321, 322, 323, 324, 325, 326, 327, 328, 329, 330, 331, 332, 333, 334, 335, 336, 337, 338, 339] (by decide +kernel) (by decide +kernel)
set_option maxRecDepth 20000 in
theorem ggL_refusesAny_L_told_15 : GoodIn wsL_refusesAny wsL_told_r15 := goodIn_r _ [340, 341] (by decide +kernel) (by decide +kernel)
set_option maxRecDepth 20000 in
theorem ggL_refusesAny_L_told_16 : GoodIn wsL_refusesAny wsX20 := goodIn_r _ [342, 343, 344, 345, 346, 347, 348] (by decide +kernel) (by decide +kernel)
set_option maxRecDepth 20000 in
theorem ggL_refusesAny_L_told_17 : GoodIn wsL_refusesAny wsX10 := goodIn_r _ [349, 350, 351, 352, 353, 354, 355, 356, 357, 358, 359, 360, 361, 362, 363, 364, 365] (by decide +kernel) (by decide +kernel)
set_option maxRecDepth 20000 in
theorem ggL_refusesAny_L_told_18 : GoodIn wsL_refusesAny wsX00 := goodIn_r _ [366, 367, 368, 369] (by decide +kernel) (by decide +kernel)
set_option maxRecDepth 20000 in
theorem ggL_refusesAny_L_told : GoodIn wsL_refusesAny wsL_told := goodIn_ca (goodIn_ca (goodIn_ca ((goodIn_ca (goodIn_ca (goodIn_ca (goodIn_ca ggL_refusesAny_L_told_1 (goodIn_app ggL_refusesAny_L_told_2 (goodIn_app ggL_refusesAny_L_told_3 (goodIn_app ggL_refusesAny_L_told_4 (goodIn_app ggL_refusesAny_L_told_5 (goodIn_app ggL_refusesAny_L_told_6 (goodIn_app ggL_refusesAny_L_told_7 (goodIn_app ggL_refusesAny_L_told_8 (goodIn_app ggL_refusesAny_L_told_9 (goodIn_app ggL_refusesAny_L_told_10 (goodIn_app ggL_refusesAny_L_told_11 (goodIn_app ggL_refusesAny_L_told_12 (goodIn_app ggL_refusesAny_L_told_13 (goodIn_app ggL_refusesAny_L_told_14 ggL_refusesAny_L_told_15)))))))))))))) ggL_refusesAny_L_told_16) ggL_refusesAny_L_told_17) ggL_refusesAny_L_told_18)) (goodIn_sub (fun _ h => List.mem_cons_of_mem _ (List.mem_append_left _ (List.mem_append_left _ (List.mem_append_right _ h)))) (by decide +kernel))) (goodIn_sub (fun _ h => List.mem_cons_of_mem _ (List.mem_append_left _ (List.mem_append_right _ h))) (by decide +kernel))) (goodIn_sub (fun _ h => List.mem_cons_of_mem _ (List.mem_append_right _ h)) (by decide +kernel))
set_option maxRecDepth 20000 in
theorem gL_refusesAny_L_told : GoodIn wsL_refusesAny (va_wsS RL 89 yL_told wsL_told) := goodIn_app (goodIn_of _ (by decide +kernel)) ggL_refusesAny_L_told
theorem dL_refusesAny_0 : decode cL_refusesAny 0 = .ok (.iload_n 1, 1) := by decide +kernel
theorem dL_refusesAny_1 : decode cL_refusesAny 1 = .ok (.ifCond .eq 7, 3) := by decide +kernel
theorem dL_refusesAny_4 : decode cL_refusesAny 4 = .ok (.iconst (-1), 1) := by decide +kernel
theorem dL_refusesAny_5 : decode cL_refusesAny 5 = .ok (.goto 5, 3) := by decide +kernel
theorem dL_refusesAny_8 : decode cL_refusesAny 8 = .ok (.bipush 40, 2) := by decide +kernel
theorem dL_refusesAny_10 : decode cL_refusesAny 10 = .ok (.istore_n 2, 1) := by decide +kernel
theorem dL_refusesAny_11 : decode cL_refusesAny 11 = .ok (.iload_n 1, 1) := by decide +kernel
theorem dL_refusesAny_12 : decode cL_refusesAny 12 = .ok (.ifCond .eq 7, 3) := by decide +kernel
theorem dL_refusesAny_15 : decode cL_refusesAny 15 = .ok (.iconst (-1), 1) := by decide +kernel
theorem dL_refusesAny_16 : decode cL_refusesAny 16 = .ok (.goto 4, 3) := by decide +kernel
theorem dL_refusesAny_19 : decode cL_refusesAny 19 = .ok (.iconst 4, 1) := by decide +kernel
theorem dL_refusesAny_20 : decode cL_refusesAny 20 = .ok (.istore_n 3, 1) := by decide +kernel
theorem dL_refusesAny_21 : decode cL_refusesAny 21 = .ok (.iload_n 1, 1) := by decide +kernel
theorem dL_refusesAny_22 : decode cL_refusesAny 22 = .ok (.ifCond .eq 7, 3) := by decide +kernel
theorem dL_refusesAny_25 : decode cL_refusesAny 25 = .ok (.iconst (-1), 1) := by decide +kernel
theorem dL_refusesAny_26 : decode cL_refusesAny 26 = .ok (.goto 5, 3) := by decide +kernel
theorem dL_refusesAny_29 : decode cL_refusesAny 29 = .ok (.bipush 12, 2) := by decide +kernel
theorem dL_refusesAny_31 : decode cL_refusesAny 31 = .ok (.istore 4, 2) := by decide +kernel
theorem dL_refusesAny_33 : decode cL_refusesAny 33 = .ok (.aload_n 0, 1) := by decide +kernel
theorem dL_refusesAny_34 : decode cL_refusesAny 34 = .ok (.iconst 0, 1) := by decide +kernel
theorem dL_refusesAny_35 : decode cL_refusesAny 35 = .ok (.iload_n 2, 1) := by decide +kernel
theorem dL_refusesAny_36 : decode cL_refusesAny 36 = .ok (.bipush 9, 2) := by decide +kernel
theorem dL_refusesAny_38 : decode cL_refusesAny 38 = .ok (.iconst 0, 1) := by decide +kernel
theorem dL_refusesAny_39 : decode cL_refusesAny 39 = .ok (.invokestatic 89, 3) := by decide +kernel
theorem dL_refusesAny_42 : decode cL_refusesAny 42 = .ok (.bipush (-11), 2) := by decide +kernel
theorem dL_refusesAny_44 : decode cL_refusesAny 44 = .ok (.if_icmp .ne 247, 3) := by decide +kernel
theorem dL_refusesAny_47 : decode cL_refusesAny 47 = .ok (.aload_n 0, 1) := by decide +kernel
theorem dL_refusesAny_48 : decode cL_refusesAny 48 = .ok (.iconst 0, 1) := by decide +kernel
theorem dL_refusesAny_49 : decode cL_refusesAny 49 = .ok (.iconst 0, 1) := by decide +kernel
theorem dL_refusesAny_50 : decode cL_refusesAny 50 = .ok (.iload_n 3, 1) := by decide +kernel
theorem dL_refusesAny_51 : decode cL_refusesAny 51 = .ok (.iconst 0, 1) := by decide +kernel
theorem dL_refusesAny_52 : decode cL_refusesAny 52 = .ok (.invokestatic 89, 3) := by decide +kernel
theorem dL_refusesAny_55 : decode cL_refusesAny 55 = .ok (.bipush (-12), 2) := by decide +kernel
theorem dL_refusesAny_57 : decode cL_refusesAny 57 = .ok (.if_icmp .ne 234, 3) := by decide +kernel
theorem dL_refusesAny_60 : decode cL_refusesAny 60 = .ok (.aload_n 0, 1) := by decide +kernel
theorem dL_refusesAny_61 : decode cL_refusesAny 61 = .ok (.iconst 1, 1) := by decide +kernel
theorem dL_refusesAny_62 : decode cL_refusesAny 62 = .ok (.iload_n 2, 1) := by decide +kernel
theorem dL_refusesAny_63 : decode cL_refusesAny 63 = .ok (.bipush 99, 2) := by decide +kernel
theorem dL_refusesAny_65 : decode cL_refusesAny 65 = .ok (.bipush 9, 2) := by decide +kernel
theorem dL_refusesAny_67 : decode cL_refusesAny 67 = .ok (.invokestatic 89, 3) := by decide +kernel
theorem dL_refusesAny_70 : decode cL_refusesAny 70 = .ok (.bipush (-11), 2) := by decide +kernel
theorem dL_refusesAny_72 : decode cL_refusesAny 72 = .ok (.if_icmp .ne 219, 3) := by decide +kernel
theorem dL_refusesAny_75 : decode cL_refusesAny 75 = .ok (.aload_n 0, 1) := by decide +kernel
theorem dL_refusesAny_76 : decode cL_refusesAny 76 = .ok (.iconst 1, 1) := by decide +kernel
theorem dL_refusesAny_77 : decode cL_refusesAny 77 = .ok (.iconst 0, 1) := by decide +kernel
theorem dL_refusesAny_78 : decode cL_refusesAny 78 = .ok (.iload_n 1, 1) := by decide +kernel
theorem dL_refusesAny_79 : decode cL_refusesAny 79 = .ok (.ifCond .eq 7, 3) := by decide +kernel
theorem dL_refusesAny_82 : decode cL_refusesAny 82 = .ok (.iconst 0, 1) := by decide +kernel
theorem dL_refusesAny_83 : decode cL_refusesAny 83 = .ok (.goto 5, 3) := by decide +kernel
theorem dL_refusesAny_86 : decode cL_refusesAny 86 = .ok (.bipush 41, 2) := by decide +kernel
theorem dL_refusesAny_88 : decode cL_refusesAny 88 = .ok (.iconst 0, 1) := by decide +kernel
theorem dL_refusesAny_89 : decode cL_refusesAny 89 = .ok (.invokestatic 89, 3) := by decide +kernel
theorem dL_refusesAny_92 : decode cL_refusesAny 92 = .ok (.bipush (-12), 2) := by decide +kernel
theorem dL_refusesAny_94 : decode cL_refusesAny 94 = .ok (.if_icmp .ne 197, 3) := by decide +kernel
theorem dL_refusesAny_97 : decode cL_refusesAny 97 = .ok (.aload_n 0, 1) := by decide +kernel
theorem dL_refusesAny_98 : decode cL_refusesAny 98 = .ok (.iconst 1, 1) := by decide +kernel
theorem dL_refusesAny_99 : decode cL_refusesAny 99 = .ok (.bipush 39, 2) := by decide +kernel
theorem dL_refusesAny_101 : decode cL_refusesAny 101 = .ok (.iconst 2, 1) := by decide +kernel
theorem dL_refusesAny_102 : decode cL_refusesAny 102 = .ok (.iconst 0, 1) := by decide +kernel
theorem dL_refusesAny_103 : decode cL_refusesAny 103 = .ok (.invokestatic 89, 3) := by decide +kernel
theorem dL_refusesAny_106 : decode cL_refusesAny 106 = .ok (.bipush (-12), 2) := by decide +kernel
theorem dL_refusesAny_108 : decode cL_refusesAny 108 = .ok (.if_icmp .ne 183, 3) := by decide +kernel
theorem dL_refusesAny_111 : decode cL_refusesAny 111 = .ok (.aload_n 0, 1) := by decide +kernel
theorem dL_refusesAny_112 : decode cL_refusesAny 112 = .ok (.iconst 1, 1) := by decide +kernel
theorem dL_refusesAny_113 : decode cL_refusesAny 113 = .ok (.iconst 3, 1) := by decide +kernel
theorem dL_refusesAny_114 : decode cL_refusesAny 114 = .ok (.iconst 2, 1) := by decide +kernel
theorem dL_refusesAny_115 : decode cL_refusesAny 115 = .ok (.iload_n 3, 1) := by decide +kernel
theorem dL_refusesAny_116 : decode cL_refusesAny 116 = .ok (.invokestatic 89, 3) := by decide +kernel
theorem dL_refusesAny_119 : decode cL_refusesAny 119 = .ok (.bipush (-12), 2) := by decide +kernel
theorem dL_refusesAny_121 : decode cL_refusesAny 121 = .ok (.if_icmp .ne 170, 3) := by decide +kernel
theorem dL_refusesAny_124 : decode cL_refusesAny 124 = .ok (.aload_n 0, 1) := by decide +kernel
theorem dL_refusesAny_125 : decode cL_refusesAny 125 = .ok (.iconst 2, 1) := by decide +kernel
theorem dL_refusesAny_126 : decode cL_refusesAny 126 = .ok (.iload_n 2, 1) := by decide +kernel
theorem dL_refusesAny_127 : decode cL_refusesAny 127 = .ok (.iconst 0, 1) := by decide +kernel
theorem dL_refusesAny_128 : decode cL_refusesAny 128 = .ok (.iconst 0, 1) := by decide +kernel
theorem dL_refusesAny_129 : decode cL_refusesAny 129 = .ok (.invokestatic 89, 3) := by decide +kernel
theorem dL_refusesAny_132 : decode cL_refusesAny 132 = .ok (.bipush (-11), 2) := by decide +kernel
theorem dL_refusesAny_134 : decode cL_refusesAny 134 = .ok (.if_icmp .ne 157, 3) := by decide +kernel
theorem dL_refusesAny_137 : decode cL_refusesAny 137 = .ok (.aload_n 0, 1) := by decide +kernel
theorem dL_refusesAny_138 : decode cL_refusesAny 138 = .ok (.iconst 3, 1) := by decide +kernel
theorem dL_refusesAny_139 : decode cL_refusesAny 139 = .ok (.iload_n 2, 1) := by decide +kernel
theorem dL_refusesAny_140 : decode cL_refusesAny 140 = .ok (.bipush 9, 2) := by decide +kernel
theorem dL_refusesAny_142 : decode cL_refusesAny 142 = .ok (.iconst 0, 1) := by decide +kernel
theorem dL_refusesAny_143 : decode cL_refusesAny 143 = .ok (.invokestatic 89, 3) := by decide +kernel
theorem dL_refusesAny_146 : decode cL_refusesAny 146 = .ok (.bipush (-11), 2) := by decide +kernel
theorem dL_refusesAny_148 : decode cL_refusesAny 148 = .ok (.if_icmp .ne 143, 3) := by decide +kernel
theorem dL_refusesAny_151 : decode cL_refusesAny 151 = .ok (.aload_n 0, 1) := by decide +kernel
theorem dL_refusesAny_152 : decode cL_refusesAny 152 = .ok (.iconst 3, 1) := by decide +kernel
theorem dL_refusesAny_153 : decode cL_refusesAny 153 = .ok (.iconst 0, 1) := by decide +kernel
theorem dL_refusesAny_154 : decode cL_refusesAny 154 = .ok (.iload_n 3, 1) := by decide +kernel
theorem dL_refusesAny_155 : decode cL_refusesAny 155 = .ok (.iconst 0, 1) := by decide +kernel
theorem dL_refusesAny_156 : decode cL_refusesAny 156 = .ok (.invokestatic 89, 3) := by decide +kernel
theorem dL_refusesAny_159 : decode cL_refusesAny 159 = .ok (.bipush (-12), 2) := by decide +kernel
theorem dL_refusesAny_161 : decode cL_refusesAny 161 = .ok (.if_icmp .ne 130, 3) := by decide +kernel
theorem dL_refusesAny_164 : decode cL_refusesAny 164 = .ok (.aload_n 0, 1) := by decide +kernel
theorem dL_refusesAny_165 : decode cL_refusesAny 165 = .ok (.iconst 4, 1) := by decide +kernel
theorem dL_refusesAny_166 : decode cL_refusesAny 166 = .ok (.iload 4, 2) := by decide +kernel
theorem dL_refusesAny_168 : decode cL_refusesAny 168 = .ok (.iconst 0, 1) := by decide +kernel
theorem dL_refusesAny_169 : decode cL_refusesAny 169 = .ok (.iconst 0, 1) := by decide +kernel
theorem dL_refusesAny_170 : decode cL_refusesAny 170 = .ok (.invokestatic 89, 3) := by decide +kernel
theorem dL_refusesAny_173 : decode cL_refusesAny 173 = .ok (.bipush (-11), 2) := by decide +kernel
theorem dL_refusesAny_175 : decode cL_refusesAny 175 = .ok (.if_icmp .ne 116, 3) := by decide +kernel
theorem dL_refusesAny_178 : decode cL_refusesAny 178 = .ok (.aload_n 0, 1) := by decide +kernel
theorem dL_refusesAny_179 : decode cL_refusesAny 179 = .ok (.iconst 5, 1) := by decide +kernel
theorem dL_refusesAny_180 : decode cL_refusesAny 180 = .ok (.iload_n 1, 1) := by decide +kernel
theorem dL_refusesAny_181 : decode cL_refusesAny 181 = .ok (.ifCond .eq 7, 3) := by decide +kernel
theorem dL_refusesAny_184 : decode cL_refusesAny 184 = .ok (.iconst 0, 1) := by decide +kernel
theorem dL_refusesAny_185 : decode cL_refusesAny 185 = .ok (.goto 5, 3) := by decide +kernel
theorem dL_refusesAny_188 : decode cL_refusesAny 188 = .ok (.bipush 13, 2) := by decide +kernel
theorem dL_refusesAny_190 : decode cL_refusesAny 190 = .ok (.iconst 0, 1) := by decide +kernel
theorem dL_refusesAny_191 : decode cL_refusesAny 191 = .ok (.iconst 0, 1) := by decide +kernel
theorem dL_refusesAny_192 : decode cL_refusesAny 192 = .ok (.invokestatic 89, 3) := by decide +kernel
theorem dL_refusesAny_195 : decode cL_refusesAny 195 = .ok (.bipush (-12), 2) := by decide +kernel
theorem dL_refusesAny_197 : decode cL_refusesAny 197 = .ok (.if_icmp .ne 94, 3) := by decide +kernel
theorem dL_refusesAny_200 : decode cL_refusesAny 200 = .ok (.aload_n 0, 1) := by decide +kernel
theorem dL_refusesAny_201 : decode cL_refusesAny 201 = .ok (.bipush 6, 2) := by decide +kernel
theorem dL_refusesAny_203 : decode cL_refusesAny 203 = .ok (.iload_n 1, 1) := by decide +kernel
theorem dL_refusesAny_204 : decode cL_refusesAny 204 = .ok (.ifCond .eq 7, 3) := by decide +kernel
theorem dL_refusesAny_207 : decode cL_refusesAny 207 = .ok (.iconst (-1), 1) := by decide +kernel
theorem dL_refusesAny_208 : decode cL_refusesAny 208 = .ok (.goto 4, 3) := by decide +kernel
theorem dL_refusesAny_211 : decode cL_refusesAny 211 = .ok (.iconst 2, 1) := by decide +kernel
theorem dL_refusesAny_212 : decode cL_refusesAny 212 = .ok (.bipush 9, 2) := by decide +kernel
theorem dL_refusesAny_214 : decode cL_refusesAny 214 = .ok (.iconst 0, 1) := by decide +kernel
theorem dL_refusesAny_215 : decode cL_refusesAny 215 = .ok (.invokestatic 89, 3) := by decide +kernel
theorem dL_refusesAny_218 : decode cL_refusesAny 218 = .ok (.bipush (-11), 2) := by decide +kernel
theorem dL_refusesAny_220 : decode cL_refusesAny 220 = .ok (.if_icmp .ne 71, 3) := by decide +kernel
theorem dL_refusesAny_223 : decode cL_refusesAny 223 = .ok (.aload_n 0, 1) := by decide +kernel
theorem dL_refusesAny_224 : decode cL_refusesAny 224 = .ok (.bipush 6, 2) := by decide +kernel
theorem dL_refusesAny_226 : decode cL_refusesAny 226 = .ok (.iconst 0, 1) := by decide +kernel
theorem dL_refusesAny_227 : decode cL_refusesAny 227 = .ok (.iload_n 1, 1) := by decide +kernel
theorem dL_refusesAny_228 : decode cL_refusesAny 228 = .ok (.ifCond .eq 7, 3) := by decide +kernel
theorem dL_refusesAny_231 : decode cL_refusesAny 231 = .ok (.iconst (-1), 1) := by decide +kernel
theorem dL_refusesAny_232 : decode cL_refusesAny 232 = .ok (.goto 4, 3) := by decide +kernel
theorem dL_refusesAny_235 : decode cL_refusesAny 235 = .ok (.iconst 3, 1) := by decide +kernel
theorem dL_refusesAny_236 : decode cL_refusesAny 236 = .ok (.iconst 0, 1) := by decide +kernel
theorem dL_refusesAny_237 : decode cL_refusesAny 237 = .ok (.invokestatic 89, 3) := by decide +kernel
theorem dL_refusesAny_240 : decode cL_refusesAny 240 = .ok (.bipush (-12), 2) := by decide +kernel
theorem dL_refusesAny_242 : decode cL_refusesAny 242 = .ok (.if_icmp .ne 49, 3) := by decide +kernel
theorem dL_refusesAny_245 : decode cL_refusesAny 245 = .ok (.aload_n 0, 1) := by decide +kernel
theorem dL_refusesAny_246 : decode cL_refusesAny 246 = .ok (.bipush 6, 2) := by decide +kernel
theorem dL_refusesAny_248 : decode cL_refusesAny 248 = .ok (.iconst 1, 1) := by decide +kernel
theorem dL_refusesAny_249 : decode cL_refusesAny 249 = .ok (.iload_n 1, 1) := by decide +kernel
theorem dL_refusesAny_250 : decode cL_refusesAny 250 = .ok (.ifCond .eq 7, 3) := by decide +kernel
theorem dL_refusesAny_253 : decode cL_refusesAny 253 = .ok (.iconst 1, 1) := by decide +kernel
theorem dL_refusesAny_254 : decode cL_refusesAny 254 = .ok (.goto 4, 3) := by decide +kernel
theorem dL_refusesAny_257 : decode cL_refusesAny 257 = .ok (.iconst 5, 1) := by decide +kernel
theorem dL_refusesAny_258 : decode cL_refusesAny 258 = .ok (.iconst 0, 1) := by decide +kernel
theorem dL_refusesAny_259 : decode cL_refusesAny 259 = .ok (.invokestatic 89, 3) := by decide +kernel
theorem dL_refusesAny_262 : decode cL_refusesAny 262 = .ok (.bipush (-12), 2) := by decide +kernel
theorem dL_refusesAny_264 : decode cL_refusesAny 264 = .ok (.if_icmp .ne 27, 3) := by decide +kernel
theorem dL_refusesAny_267 : decode cL_refusesAny 267 = .ok (.aload_n 0, 1) := by decide +kernel
theorem dL_refusesAny_268 : decode cL_refusesAny 268 = .ok (.bipush 7, 2) := by decide +kernel
theorem dL_refusesAny_270 : decode cL_refusesAny 270 = .ok (.iload_n 1, 1) := by decide +kernel
theorem dL_refusesAny_271 : decode cL_refusesAny 271 = .ok (.ifCond .eq 8, 3) := by decide +kernel
theorem dL_refusesAny_274 : decode cL_refusesAny 274 = .ok (.bipush 32, 2) := by decide +kernel
theorem dL_refusesAny_276 : decode cL_refusesAny 276 = .ok (.goto 5, 3) := by decide +kernel
theorem dL_refusesAny_279 : decode cL_refusesAny 279 = .ok (.bipush 127, 2) := by decide +kernel
theorem dL_refusesAny_281 : decode cL_refusesAny 281 = .ok (.iconst 0, 1) := by decide +kernel
theorem dL_refusesAny_282 : decode cL_refusesAny 282 = .ok (.iconst 0, 1) := by decide +kernel
theorem dL_refusesAny_283 : decode cL_refusesAny 283 = .ok (.invokestatic 89, 3) := by decide +kernel
theorem dL_refusesAny_286 : decode cL_refusesAny 286 = .ok (.bipush (-12), 2) := by decide +kernel
theorem dL_refusesAny_288 : decode cL_refusesAny 288 = .ok (.if_icmp .eq 5, 3) := by decide +kernel
theorem dL_refusesAny_291 : decode cL_refusesAny 291 = .ok (.iconst 0, 1) := by decide +kernel
theorem dL_refusesAny_292 : decode cL_refusesAny 292 = .ok (.ireturn, 1) := by decide +kernel
theorem dL_refusesAny_293 : decode cL_refusesAny 293 = .ok (.aload_n 0, 1) := by decide +kernel
theorem dL_refusesAny_294 : decode cL_refusesAny 294 = .ok (.bipush 10, 2) := by decide +kernel
theorem dL_refusesAny_296 : decode cL_refusesAny 296 = .ok (.iload_n 2, 1) := by decide +kernel
theorem dL_refusesAny_297 : decode cL_refusesAny 297 = .ok (.bipush 9, 2) := by decide +kernel
theorem dL_refusesAny_299 : decode cL_refusesAny 299 = .ok (.iconst 0, 1) := by decide +kernel
theorem dL_refusesAny_300 : decode cL_refusesAny 300 = .ok (.invokestatic 89, 3) := by decide +kernel
theorem dL_refusesAny_303 : decode cL_refusesAny 303 = .ok (.bipush (-11), 2) := by decide +kernel
theorem dL_refusesAny_305 : decode cL_refusesAny 305 = .ok (.if_icmp .ne 148, 3) := by decide +kernel
theorem dL_refusesAny_308 : decode cL_refusesAny 308 = .ok (.aload_n 0, 1) := by decide +kernel
theorem dL_refusesAny_309 : decode cL_refusesAny 309 = .ok (.bipush 10, 2) := by decide +kernel
theorem dL_refusesAny_311 : decode cL_refusesAny 311 = .ok (.iconst 0, 1) := by decide +kernel
theorem dL_refusesAny_312 : decode cL_refusesAny 312 = .ok (.iload_n 1, 1) := by decide +kernel
theorem dL_refusesAny_313 : decode cL_refusesAny 313 = .ok (.ifCond .eq 7, 3) := by decide +kernel
theorem dL_refusesAny_316 : decode cL_refusesAny 316 = .ok (.iconst (-1), 1) := by decide +kernel
theorem dL_refusesAny_317 : decode cL_refusesAny 317 = .ok (.goto 5, 3) := by decide +kernel
theorem dL_refusesAny_320 : decode cL_refusesAny 320 = .ok (.bipush 6, 2) := by decide +kernel
theorem dL_refusesAny_322 : decode cL_refusesAny 322 = .ok (.iconst 0, 1) := by decide +kernel
theorem dL_refusesAny_323 : decode cL_refusesAny 323 = .ok (.invokestatic 89, 3) := by decide +kernel
theorem dL_refusesAny_326 : decode cL_refusesAny 326 = .ok (.bipush (-12), 2) := by decide +kernel
theorem dL_refusesAny_328 : decode cL_refusesAny 328 = .ok (.if_icmp .ne 125, 3) := by decide +kernel
theorem dL_refusesAny_331 : decode cL_refusesAny 331 = .ok (.aload_n 0, 1) := by decide +kernel
theorem dL_refusesAny_332 : decode cL_refusesAny 332 = .ok (.bipush 11, 2) := by decide +kernel
theorem dL_refusesAny_334 : decode cL_refusesAny 334 = .ok (.iload 4, 2) := by decide +kernel
theorem dL_refusesAny_336 : decode cL_refusesAny 336 = .ok (.bipush 9, 2) := by decide +kernel
theorem dL_refusesAny_338 : decode cL_refusesAny 338 = .ok (.iconst 0, 1) := by decide +kernel
theorem dL_refusesAny_339 : decode cL_refusesAny 339 = .ok (.invokestatic 89, 3) := by decide +kernel
theorem dL_refusesAny_342 : decode cL_refusesAny 342 = .ok (.bipush (-11), 2) := by decide +kernel
theorem dL_refusesAny_344 : decode cL_refusesAny 344 = .ok (.if_icmp .ne 109, 3) := by decide +kernel
theorem dL_refusesAny_347 : decode cL_refusesAny 347 = .ok (.aload_n 0, 1) := by decide +kernel
theorem dL_refusesAny_348 : decode cL_refusesAny 348 = .ok (.bipush 11, 2) := by decide +kernel
theorem dL_refusesAny_350 : decode cL_refusesAny 350 = .ok (.iconst 0, 1) := by decide +kernel
theorem dL_refusesAny_351 : decode cL_refusesAny 351 = .ok (.iload_n 1, 1) := by decide +kernel
theorem dL_refusesAny_352 : decode cL_refusesAny 352 = .ok (.ifCond .eq 7, 3) := by decide +kernel
theorem dL_refusesAny_355 : decode cL_refusesAny 355 = .ok (.iconst (-1), 1) := by decide +kernel
theorem dL_refusesAny_356 : decode cL_refusesAny 356 = .ok (.goto 5, 3) := by decide +kernel
theorem dL_refusesAny_359 : decode cL_refusesAny 359 = .ok (.bipush 8, 2) := by decide +kernel
theorem dL_refusesAny_361 : decode cL_refusesAny 361 = .ok (.iconst 0, 1) := by decide +kernel
theorem dL_refusesAny_362 : decode cL_refusesAny 362 = .ok (.invokestatic 89, 3) := by decide +kernel
theorem dL_refusesAny_365 : decode cL_refusesAny 365 = .ok (.bipush (-12), 2) := by decide +kernel
theorem dL_refusesAny_367 : decode cL_refusesAny 367 = .ok (.if_icmp .ne 86, 3) := by decide +kernel
theorem dL_refusesAny_370 : decode cL_refusesAny 370 = .ok (.aload_n 0, 1) := by decide +kernel
theorem dL_refusesAny_371 : decode cL_refusesAny 371 = .ok (.bipush 12, 2) := by decide +kernel
theorem dL_refusesAny_373 : decode cL_refusesAny 373 = .ok (.iload 4, 2) := by decide +kernel
theorem dL_refusesAny_375 : decode cL_refusesAny 375 = .ok (.iconst 0, 1) := by decide +kernel
theorem dL_refusesAny_376 : decode cL_refusesAny 376 = .ok (.iconst 1, 1) := by decide +kernel
theorem dL_refusesAny_377 : decode cL_refusesAny 377 = .ok (.invokestatic 89, 3) := by decide +kernel
theorem dL_refusesAny_380 : decode cL_refusesAny 380 = .ok (.bipush (-11), 2) := by decide +kernel
theorem dL_refusesAny_382 : decode cL_refusesAny 382 = .ok (.if_icmp .ne 71, 3) := by decide +kernel
theorem dL_refusesAny_385 : decode cL_refusesAny 385 = .ok (.aload_n 0, 1) := by decide +kernel
theorem dL_refusesAny_386 : decode cL_refusesAny 386 = .ok (.bipush 12, 2) := by decide +kernel
theorem dL_refusesAny_388 : decode cL_refusesAny 388 = .ok (.iconst 0, 1) := by decide +kernel
theorem dL_refusesAny_389 : decode cL_refusesAny 389 = .ok (.iload_n 1, 1) := by decide +kernel
theorem dL_refusesAny_390 : decode cL_refusesAny 390 = .ok (.ifCond .eq 7, 3) := by decide +kernel
theorem dL_refusesAny_393 : decode cL_refusesAny 393 = .ok (.iconst (-1), 1) := by decide +kernel
theorem dL_refusesAny_394 : decode cL_refusesAny 394 = .ok (.goto 5, 3) := by decide +kernel
theorem dL_refusesAny_397 : decode cL_refusesAny 397 = .ok (.bipush 8, 2) := by decide +kernel
theorem dL_refusesAny_399 : decode cL_refusesAny 399 = .ok (.iconst 0, 1) := by decide +kernel
theorem dL_refusesAny_400 : decode cL_refusesAny 400 = .ok (.invokestatic 89, 3) := by decide +kernel
theorem dL_refusesAny_403 : decode cL_refusesAny 403 = .ok (.bipush (-11), 2) := by decide +kernel
theorem dL_refusesAny_405 : decode cL_refusesAny 405 = .ok (.if_icmp .ne 48, 3) := by decide +kernel
theorem dL_refusesAny_408 : decode cL_refusesAny 408 = .ok (.aload_n 0, 1) := by decide +kernel
theorem dL_refusesAny_409 : decode cL_refusesAny 409 = .ok (.bipush 13, 2) := by decide +kernel
theorem dL_refusesAny_411 : decode cL_refusesAny 411 = .ok (.iload_n 1, 1) := by decide +kernel
theorem dL_refusesAny_412 : decode cL_refusesAny 412 = .ok (.ifCond .eq 7, 3) := by decide +kernel
theorem dL_refusesAny_415 : decode cL_refusesAny 415 = .ok (.iconst (-1), 1) := by decide +kernel
theorem dL_refusesAny_416 : decode cL_refusesAny 416 = .ok (.goto 4, 3) := by decide +kernel
theorem dL_refusesAny_419 : decode cL_refusesAny 419 = .ok (.iconst 5, 1) := by decide +kernel
theorem dL_refusesAny_420 : decode cL_refusesAny 420 = .ok (.bipush 9, 2) := by decide +kernel
theorem dL_refusesAny_422 : decode cL_refusesAny 422 = .ok (.iconst 0, 1) := by decide +kernel
theorem dL_refusesAny_423 : decode cL_refusesAny 423 = .ok (.invokestatic 89, 3) := by decide +kernel
theorem dL_refusesAny_426 : decode cL_refusesAny 426 = .ok (.bipush (-11), 2) := by decide +kernel
theorem dL_refusesAny_428 : decode cL_refusesAny 428 = .ok (.if_icmp .ne 25, 3) := by decide +kernel
theorem dL_refusesAny_431 : decode cL_refusesAny 431 = .ok (.aload_n 0, 1) := by decide +kernel
theorem dL_refusesAny_432 : decode cL_refusesAny 432 = .ok (.bipush 13, 2) := by decide +kernel
theorem dL_refusesAny_434 : decode cL_refusesAny 434 = .ok (.iconst 0, 1) := by decide +kernel
theorem dL_refusesAny_435 : decode cL_refusesAny 435 = .ok (.iload_n 1, 1) := by decide +kernel
theorem dL_refusesAny_436 : decode cL_refusesAny 436 = .ok (.ifCond .eq 7, 3) := by decide +kernel
theorem dL_refusesAny_439 : decode cL_refusesAny 439 = .ok (.iconst (-1), 1) := by decide +kernel
theorem dL_refusesAny_440 : decode cL_refusesAny 440 = .ok (.goto 4, 3) := by decide +kernel
theorem dL_refusesAny_443 : decode cL_refusesAny 443 = .ok (.iconst 5, 1) := by decide +kernel
theorem dL_refusesAny_444 : decode cL_refusesAny 444 = .ok (.iconst 0, 1) := by decide +kernel
theorem dL_refusesAny_445 : decode cL_refusesAny 445 = .ok (.invokestatic 89, 3) := by decide +kernel
theorem dL_refusesAny_448 : decode cL_refusesAny 448 = .ok (.bipush (-12), 2) := by decide +kernel
theorem dL_refusesAny_450 : decode cL_refusesAny 450 = .ok (.if_icmp .eq 5, 3) := by decide +kernel
theorem dL_refusesAny_453 : decode cL_refusesAny 453 = .ok (.iconst 0, 1) := by decide +kernel
theorem dL_refusesAny_454 : decode cL_refusesAny 454 = .ok (.ireturn, 1) := by decide +kernel
theorem dL_refusesAny_455 : decode cL_refusesAny 455 = .ok (.aload_n 0, 1) := by decide +kernel
theorem dL_refusesAny_456 : decode cL_refusesAny 456 = .ok (.bipush 14, 2) := by decide +kernel
theorem dL_refusesAny_458 : decode cL_refusesAny 458 = .ok (.iload_n 1, 1) := by decide +kernel
theorem dL_refusesAny_459 : decode cL_refusesAny 459 = .ok (.ifCond .eq 7, 3) := by decide +kernel
theorem dL_refusesAny_462 : decode cL_refusesAny 462 = .ok (.iconst (-1), 1) := by decide +kernel
theorem dL_refusesAny_463 : decode cL_refusesAny 463 = .ok (.goto 5, 3) := by decide +kernel
theorem dL_refusesAny_466 : decode cL_refusesAny 466 = .ok (.bipush 12, 2) := by decide +kernel
theorem dL_refusesAny_468 : decode cL_refusesAny 468 = .ok (.iconst 0, 1) := by decide +kernel
theorem dL_refusesAny_469 : decode cL_refusesAny 469 = .ok (.iconst 0, 1) := by decide +kernel
theorem dL_refusesAny_470 : decode cL_refusesAny 470 = .ok (.invokestatic 89, 3) := by decide +kernel
theorem dL_refusesAny_473 : decode cL_refusesAny 473 = .ok (.bipush (-12), 2) := by decide +kernel
theorem dL_refusesAny_475 : decode cL_refusesAny 475 = .ok (.if_icmp .ne 127, 3) := by decide +kernel
theorem dL_refusesAny_478 : decode cL_refusesAny 478 = .ok (.aload_n 0, 1) := by decide +kernel
theorem dL_refusesAny_479 : decode cL_refusesAny 479 = .ok (.bipush 15, 2) := by decide +kernel
theorem dL_refusesAny_481 : decode cL_refusesAny 481 = .ok (.iload_n 1, 1) := by decide +kernel
theorem dL_refusesAny_482 : decode cL_refusesAny 482 = .ok (.ifCond .eq 7, 3) := by decide +kernel
theorem dL_refusesAny_485 : decode cL_refusesAny 485 = .ok (.iconst (-1), 1) := by decide +kernel
theorem dL_refusesAny_486 : decode cL_refusesAny 486 = .ok (.goto 4, 3) := by decide +kernel
theorem dL_refusesAny_489 : decode cL_refusesAny 489 = .ok (.iconst 2, 1) := by decide +kernel
theorem dL_refusesAny_490 : decode cL_refusesAny 490 = .ok (.iconst 0, 1) := by decide +kernel
theorem dL_refusesAny_491 : decode cL_refusesAny 491 = .ok (.iconst 0, 1) := by decide +kernel
theorem dL_refusesAny_492 : decode cL_refusesAny 492 = .ok (.invokestatic 89, 3) := by decide +kernel
theorem dL_refusesAny_495 : decode cL_refusesAny 495 = .ok (.bipush (-11), 2) := by decide +kernel
theorem dL_refusesAny_497 : decode cL_refusesAny 497 = .ok (.if_icmp .ne 105, 3) := by decide +kernel
theorem dL_refusesAny_500 : decode cL_refusesAny 500 = .ok (.aload_n 0, 1) := by decide +kernel
theorem dL_refusesAny_501 : decode cL_refusesAny 501 = .ok (.bipush 16, 2) := by decide +kernel
theorem dL_refusesAny_503 : decode cL_refusesAny 503 = .ok (.iload_n 2, 1) := by decide +kernel
theorem dL_refusesAny_504 : decode cL_refusesAny 504 = .ok (.bipush 9, 2) := by decide +kernel
theorem dL_refusesAny_506 : decode cL_refusesAny 506 = .ok (.bipush 9, 2) := by decide +kernel
