set_option maxRecDepth 20000 in
theorem ggL_call_X2_slot : GoodIn wsL_call wsX2_slot := goodIn_ca (goodIn_r _ [252, 6, 7, 10, 253, 11, 12, 4, 13, 254, 87, 88, 27, 89, 34, 29, 332, 333, 334, 335, 336, 337, 338, 339, 340, 341, 342, 343, 344, 345, 346, 347, 348, 349, 350, 351, 352, 353, 354, 355] (by decide +kernel) (by decide +kernel)) (goodIn_sub (fun _ h => List.mem_cons_of_mem _ (List.mem_append_left _ (List.mem_append_left _ (List.mem_append_right _ h)))) (by decide +kernel))
set_option maxRecDepth 20000 in
theorem gL_call_X2_slot : GoodIn wsL_call (wsV RL 51 RX2 yX2_slot wsX2_slot) := goodIn_app (goodIn_of _ (by decide +kernel)) ggL_call_X2_slot
set_option maxRecDepth 20000 in
theorem ggL_call_X2_stream : GoodIn wsL_call wsX2_stream := goodIn_ca (goodIn_ca (goodIn_r _ [258, 6, 7, 8, 9, 10, 11, 12, 4, 13, 259, 260, 261, 27, 262, 40, 41, 42, 263, 264, 265, 266, 30, 114, 115, 116, 117, 29, 267, 268, 269, 270, 332, 333, 334, 335, 336, 337, 338, 339, 340, 341, 342, 343, 344, 345, 346, 347, 348, 349, 350, 351, 352, 353, 354, 355] (by decide +kernel) (by decide +kernel)) (goodIn_sub (fun _ h => List.mem_cons_of_mem _ (List.mem_append_left _ (List.mem_append_left _ (List.mem_append_right _ h)))) (by decide +kernel))) (goodIn_sub (fun _ h => List.mem_cons_of_mem _ (List.mem_append_left _ (List.mem_append_right _ h))) (by decide +kernel))
set_option maxRecDepth 20000 in
theorem gL_call_X2_stream : GoodIn wsL_call (wsV RL 55 RX2 yX2_stream wsX2_stream) := goodIn_app (goodIn_of _ (by decide +kernel)) ggL_call_X2_stream
set_option maxRecDepth 20000 in
theorem ggL_call_X2_count : GoodIn wsL_call wsX2_count := goodIn_ca (goodIn_r _ [274, 8, 9, 18, 10, 11, 12, 4, 13, 275, 276, 277, 27, 278, 37, 44, 36, 279, 280, 281, 282, 283, 284, 285, 40, 286, 287, 288, 289, 31, 61, 62, 63, 64, 41, 290, 291, 292, 293, 38, 294, 295, 296, 297, 298, 299, 51, 300, 49, 50, 52, 74, 75, 76, 77, 78, 79, 80, 81, 43, 39, 332, 333, 334, 335, 336, 337, 338, 339, 340, 341, 342, 343, 344, 345, 346, 347, 348, 349, 350, 351, 352, 353, 354, 355] (by decide +kernel) (by decide +kernel)) (goodIn_sub (fun _ h => List.mem_cons_of_mem _ (List.mem_append_left _ (List.mem_append_right _ h))) (by decide +kernel))
set_option maxRecDepth 20000 in
theorem gL_call_X2_count : GoodIn wsL_call (wsV RL 58 RX2 yX2_count wsX2_count) := goodIn_app (goodIn_of _ (by decide +kernel)) ggL_call_X2_count
set_option maxRecDepth 20000 in
theorem ggL_call_X2_setting : GoodIn wsL_call wsX2_setting := goodIn_ca (goodIn_r _ [304, 6, 7, 10, 149, 11, 12, 4, 13, 332, 333, 334, 335, 336, 337, 338, 339, 340, 341, 342, 343, 344, 345, 346, 347, 348, 349, 350, 351, 352, 353, 354, 355] (by decide +kernel) (by decide +kernel)) (goodIn_sub (fun _ h => List.mem_cons_of_mem _ (List.mem_append_left _ (List.mem_append_left _ (List.mem_append_right _ h)))) (by decide +kernel))
set_option maxRecDepth 20000 in
theorem gL_call_X2_setting : GoodIn wsL_call (wsV RL 61 RX2 yX2_setting wsX2_setting) := goodIn_app (goodIn_of _ (by decide +kernel)) ggL_call_X2_setting
set_option maxRecDepth 20000 in
theorem ggL_call_X2_ifWritten_1 : GoodIn wsL_call (Cond.code yX2_ifWritten cX2_ifWritten 4 (some .int) :: wsX2_ifWritten_r1) := goodIn_r _ [308, 6, 7, 8, 9, 11, 12, 4, 13, 309, 310, 311, 312, 313, 10, 24, 25, 26, 27, 28, 29, 30, 31, 32, 33] (by decide +kernel) (by decide +kernel)
set_option maxRecDepth 20000 in
theorem ggL_call_X2_ifWritten_2 : GoodIn wsL_call wsX2_ifWritten_r2 := goodIn_r _ [34, 35, 36, 37, 38, 39, 40, 41, 42, 43, 44, 45, 46, 47, 48, 49, 50, 51, 52, 53, 54, 55, 56, 314] (by decide +kernel) (by decide +kernel)
set_option maxRecDepth 20000 in
theorem ggL_call_X2_ifWritten_3 : GoodIn wsL_call wsX2_ifWritten_r3 := goodIn_r _ [66, 67, 68, 69, 70, 71, 72, 73, 74, 75, 76, 77, 78, 79, 80, 81, 82, 83, 84, 85, 86, 87, 88, 89] (by decide +kernel) (by decide +kernel)
set_option maxRecDepth 20000 in
theorem ggL_call_X2_ifWritten_4 : GoodIn wsL_call wsX2_ifWritten_r4 := goodIn_r _ [90, 91, 92, 93, 94, 95, 96, 97, 98, 99, 100, 101, 315, 316, 317, 318, 138, 62, 63, 64, 110, 111, 112, 113] (by decide +kernel) (by decide +kernel)
set_option maxRecDepth 20000 in
theorem ggL_call_X2_ifWritten_5 : GoodIn wsL_call wsX2_ifWritten_r5 := goodIn_r _ [114, 115, 116, 117, 319, 291, 292, 293, 279, 280, 281] (by decide +kernel) (by decide +kernel)
set_option maxRecDepth 20000 in
theorem ggL_call_X2_ifWritten_6 : GoodIn wsL_call wsX20 := goodIn_r _ [332, 333, 334, 335, 336, 337, 338] (by decide +kernel) (by decide +kernel)
set_option maxRecDepth 20000 in
theorem ggL_call_X2_ifWritten_7 : GoodIn wsL_call wsX10 := goodIn_r _ [339, 340, 341, 342, 343, 344, 345, 346, 347, 348, 349, 350, 351, 352, 353, 354, 355] (by decide +kernel) (by decide +kernel)
set_option maxRecDepth 20000 in
theorem ggL_call_X2_ifWritten : GoodIn wsL_call wsX2_ifWritten := goodIn_ca (goodIn_ca ((goodIn_ca (goodIn_ca (goodIn_ca ggL_call_X2_ifWritten_1 (goodIn_app ggL_call_X2_ifWritten_2 (goodIn_app ggL_call_X2_ifWritten_3 (goodIn_app ggL_call_X2_ifWritten_4 ggL_call_X2_ifWritten_5)))) ggL_call_X2_ifWritten_6) ggL_call_X2_ifWritten_7)) (goodIn_sub (fun _ h => List.mem_cons_of_mem _ (List.mem_append_left _ (List.mem_append_left _ (List.mem_append_right _ h)))) (by decide +kernel))) (goodIn_sub (fun _ h => List.mem_cons_of_mem _ (List.mem_append_left _ (List.mem_append_right _ h))) (by decide +kernel))
set_option maxRecDepth 20000 in
theorem gL_call_X2_ifWritten : GoodIn wsL_call (wsV RL 64 RX2 yX2_ifWritten wsX2_ifWritten) := goodIn_app (goodIn_of _ (by decide +kernel)) ggL_call_X2_ifWritten
set_option maxRecDepth 20000 in
theorem ggL_call_X2_ifRewritten : GoodIn wsL_call wsX2_ifRewritten := goodIn_ca (goodIn_r _ [323, 8, 9, 10, 149, 324, 325, 326, 4, 327, 313, 128, 24, 25, 26, 27, 28, 29, 30, 31, 32, 33, 34, 35, 36, 37, 38, 39, 40, 41, 42, 43, 44, 45, 46, 47, 48, 49, 50, 51, 52, 53, 54, 55, 56, 129, 115, 116, 117, 314, 66, 67, 68, 69, 70, 71, 72, 73, 74, 75, 76, 77, 78, 79, 80, 81, 82, 83, 84, 85, 86, 87, 88, 89, 90, 91, 92, 93, 94, 95, 96, 97, 98, 99, 100, 101, 138, 62, 63, 64, 332, 333, 334, 335, 336, 337, 338, 339, 340, 341, 342, 343, 344, 345, 346, 347, 348, 349, 350, 351, 352, 353, 354, 355] (by decide +kernel) (by decide +kernel)) (goodIn_sub (fun _ h => List.mem_cons_of_mem _ (List.mem_append_left _ (List.mem_append_right _ h))) (by decide +kernel))
set_option maxRecDepth 20000 in
theorem gL_call_X2_ifRewritten : GoodIn wsL_call (wsV RL 67 RX2 yX2_ifRewritten wsX2_ifRewritten) := goodIn_app (goodIn_of _ (by decide +kernel)) ggL_call_X2_ifRewritten
set_option maxRecDepth 20000 in
theorem ggL_call_X2_bestRule : GoodIn wsL_call wsX2_bestRule := goodIn_ca (goodIn_r _ [331, 8, 9, 324, 325, 326, 4, 327, 313, 10, 149, 128, 24, 25, 26, 27, 28, 29, 30, 31, 32, 33, 34, 35, 36, 37, 38, 39, 40, 41, 42, 43, 44, 45, 46, 47, 48, 49, 50, 51, 52, 53, 54, 55, 56, 129, 115, 116, 117, 314, 66, 67, 68, 69, 70, 71, 72, 73, 74, 75, 76, 77, 78, 79, 80, 81, 82, 83, 84, 85, 86, 87, 88, 89, 90, 91, 92, 93, 94, 95, 96, 97, 98, 99, 100, 101, 138, 62, 63, 64, 332, 333, 334, 335, 336, 337, 338, 339, 340, 341, 342, 343, 344, 345, 346, 347, 348, 349, 350, 351, 352, 353, 354, 355] (by decide +kernel) (by decide +kernel)) (goodIn_sub (fun _ h => List.mem_cons_of_mem _ (List.mem_append_left _ (List.mem_append_right _ h))) (by decide +kernel))
set_option maxRecDepth 20000 in
theorem gL_call_X2_bestRule : GoodIn wsL_call (wsV RL 70 RX2 yX2_bestRule wsX2_bestRule) := goodIn_app (goodIn_of _ (by decide +kernel)) ggL_call_X2_bestRule
theorem dL_call_0 : decode cL_call 0 = .ok (.iload_n 1, 1) := by decide +kernel
theorem dL_call_1 : decode cL_call 1 = .ok (.tableswitch 216 0 17 #[87, 94, 103, 109, 116, 122, 128, 135, 141, 146, 151, 158, 165, 182, 189, 195, 201, 210], 87) := by decide +kernel
theorem dL_call_88 : decode cL_call 88 = .ok (.aload_n 0, 1) := by decide +kernel
theorem dL_call_89 : decode cL_call 89 = .ok (.iload_n 2, 1) := by decide +kernel
theorem dL_call_90 : decode cL_call 90 = .ok (.iload_n 3, 1) := by decide +kernel
theorem dL_call_91 : decode cL_call 91 = .ok (.invokevirtual 9, 3) := by decide +kernel
theorem dL_call_94 : decode cL_call 94 = .ok (.ireturn, 1) := by decide +kernel
theorem dL_call_95 : decode cL_call 95 = .ok (.aload_n 0, 1) := by decide +kernel
theorem dL_call_96 : decode cL_call 96 = .ok (.iload_n 2, 1) := by decide +kernel
theorem dL_call_97 : decode cL_call 97 = .ok (.iload_n 3, 1) := by decide +kernel
theorem dL_call_98 : decode cL_call 98 = .ok (.iload 4, 2) := by decide +kernel
theorem dL_call_100 : decode cL_call 100 = .ok (.invokevirtual 15, 3) := by decide +kernel
theorem dL_call_103 : decode cL_call 103 = .ok (.ireturn, 1) := by decide +kernel
theorem dL_call_104 : decode cL_call 104 = .ok (.aload_n 0, 1) := by decide +kernel
theorem dL_call_105 : decode cL_call 105 = .ok (.iload_n 2, 1) := by decide +kernel
theorem dL_call_106 : decode cL_call 106 = .ok (.invokevirtual 19, 3) := by decide +kernel
theorem dL_call_109 : decode cL_call 109 = .ok (.ireturn, 1) := by decide +kernel
theorem dL_call_110 : decode cL_call 110 = .ok (.aload_n 0, 1) := by decide +kernel
theorem dL_call_111 : decode cL_call 111 = .ok (.iload_n 2, 1) := by decide +kernel
theorem dL_call_112 : decode cL_call 112 = .ok (.iload_n 3, 1) := by decide +kernel
theorem dL_call_113 : decode cL_call 113 = .ok (.invokevirtual 23, 3) := by decide +kernel
theorem dL_call_116 : decode cL_call 116 = .ok (.ireturn, 1) := by decide +kernel
theorem dL_call_117 : decode cL_call 117 = .ok (.aload_n 0, 1) := by decide +kernel
theorem dL_call_118 : decode cL_call 118 = .ok (.iload_n 2, 1) := by decide +kernel
theorem dL_call_119 : decode cL_call 119 = .ok (.invokevirtual 26, 3) := by decide +kernel
theorem dL_call_122 : decode cL_call 122 = .ok (.ireturn, 1) := by decide +kernel
theorem dL_call_123 : decode cL_call 123 = .ok (.aload_n 0, 1) := by decide +kernel
theorem dL_call_124 : decode cL_call 124 = .ok (.iload_n 2, 1) := by decide +kernel
theorem dL_call_125 : decode cL_call 125 = .ok (.invokevirtual 29, 3) := by decide +kernel
theorem dL_call_128 : decode cL_call 128 = .ok (.ireturn, 1) := by decide +kernel
theorem dL_call_129 : decode cL_call 129 = .ok (.aload_n 0, 1) := by decide +kernel
theorem dL_call_130 : decode cL_call 130 = .ok (.iload_n 2, 1) := by decide +kernel
theorem dL_call_131 : decode cL_call 131 = .ok (.iload_n 3, 1) := by decide +kernel
theorem dL_call_132 : decode cL_call 132 = .ok (.invokevirtual 32, 3) := by decide +kernel
theorem dL_call_135 : decode cL_call 135 = .ok (.ireturn, 1) := by decide +kernel
theorem dL_call_136 : decode cL_call 136 = .ok (.aload_n 0, 1) := by decide +kernel
theorem dL_call_137 : decode cL_call 137 = .ok (.iload_n 2, 1) := by decide +kernel
theorem dL_call_138 : decode cL_call 138 = .ok (.invokevirtual 35, 3) := by decide +kernel
theorem dL_call_141 : decode cL_call 141 = .ok (.ireturn, 1) := by decide +kernel
theorem dL_call_142 : decode cL_call 142 = .ok (.aload_n 0, 1) := by decide +kernel
theorem dL_call_143 : decode cL_call 143 = .ok (.invokevirtual 38, 3) := by decide +kernel
theorem dL_call_146 : decode cL_call 146 = .ok (.ireturn, 1) := by decide +kernel
theorem dL_call_147 : decode cL_call 147 = .ok (.aload_n 0, 1) := by decide +kernel
theorem dL_call_148 : decode cL_call 148 = .ok (.invokevirtual 42, 3) := by decide +kernel
theorem dL_call_151 : decode cL_call 151 = .ok (.ireturn, 1) := by decide +kernel
theorem dL_call_152 : decode cL_call 152 = .ok (.aload_n 0, 1) := by decide +kernel
theorem dL_call_153 : decode cL_call 153 = .ok (.iload_n 2, 1) := by decide +kernel
theorem dL_call_154 : decode cL_call 154 = .ok (.iload_n 3, 1) := by decide +kernel
theorem dL_call_155 : decode cL_call 155 = .ok (.invokevirtual 45, 3) := by decide +kernel
theorem dL_call_158 : decode cL_call 158 = .ok (.ireturn, 1) := by decide +kernel
theorem dL_call_159 : decode cL_call 159 = .ok (.aload_n 0, 1) := by decide +kernel
theorem dL_call_160 : decode cL_call 160 = .ok (.iload_n 2, 1) := by decide +kernel
theorem dL_call_161 : decode cL_call 161 = .ok (.iload_n 3, 1) := by decide +kernel
theorem dL_call_162 : decode cL_call 162 = .ok (.invokevirtual 48, 3) := by decide +kernel
theorem dL_call_165 : decode cL_call 165 = .ok (.ireturn, 1) := by decide +kernel
theorem dL_call_166 : decode cL_call 166 = .ok (.aload_n 0, 1) := by decide +kernel
theorem dL_call_167 : decode cL_call 167 = .ok (.iload_n 2, 1) := by decide +kernel
theorem dL_call_168 : decode cL_call 168 = .ok (.iload_n 3, 1) := by decide +kernel
theorem dL_call_169 : decode cL_call 169 = .ok (.iload 4, 2) := by decide +kernel
theorem dL_call_171 : decode cL_call 171 = .ok (.ifCond .le 7, 3) := by decide +kernel
theorem dL_call_174 : decode cL_call 174 = .ok (.iconst 1, 1) := by decide +kernel
theorem dL_call_175 : decode cL_call 175 = .ok (.goto 4, 3) := by decide +kernel
theorem dL_call_178 : decode cL_call 178 = .ok (.iconst 0, 1) := by decide +kernel
theorem dL_call_179 : decode cL_call 179 = .ok (.invokevirtual 51, 3) := by decide +kernel
theorem dL_call_182 : decode cL_call 182 = .ok (.ireturn, 1) := by decide +kernel
theorem dL_call_183 : decode cL_call 183 = .ok (.aload_n 0, 1) := by decide +kernel
theorem dL_call_184 : decode cL_call 184 = .ok (.iload_n 2, 1) := by decide +kernel
theorem dL_call_185 : decode cL_call 185 = .ok (.iload_n 3, 1) := by decide +kernel
theorem dL_call_186 : decode cL_call 186 = .ok (.invokevirtual 55, 3) := by decide +kernel
theorem dL_call_189 : decode cL_call 189 = .ok (.ireturn, 1) := by decide +kernel
theorem dL_call_190 : decode cL_call 190 = .ok (.aload_n 0, 1) := by decide +kernel
theorem dL_call_191 : decode cL_call 191 = .ok (.iload_n 2, 1) := by decide +kernel
theorem dL_call_192 : decode cL_call 192 = .ok (.invokevirtual 58, 3) := by decide +kernel
theorem dL_call_195 : decode cL_call 195 = .ok (.ireturn, 1) := by decide +kernel
theorem dL_call_196 : decode cL_call 196 = .ok (.aload_n 0, 1) := by decide +kernel
theorem dL_call_197 : decode cL_call 197 = .ok (.iload_n 2, 1) := by decide +kernel
theorem dL_call_198 : decode cL_call 198 = .ok (.invokevirtual 61, 3) := by decide +kernel
theorem dL_call_201 : decode cL_call 201 = .ok (.ireturn, 1) := by decide +kernel
theorem dL_call_202 : decode cL_call 202 = .ok (.aload_n 0, 1) := by decide +kernel
theorem dL_call_203 : decode cL_call 203 = .ok (.iload_n 2, 1) := by decide +kernel
theorem dL_call_204 : decode cL_call 204 = .ok (.iload_n 3, 1) := by decide +kernel
theorem dL_call_205 : decode cL_call 205 = .ok (.iload 4, 2) := by decide +kernel
theorem dL_call_207 : decode cL_call 207 = .ok (.invokevirtual 64, 3) := by decide +kernel
theorem dL_call_210 : decode cL_call 210 = .ok (.ireturn, 1) := by decide +kernel
theorem dL_call_211 : decode cL_call 211 = .ok (.aload_n 0, 1) := by decide +kernel
theorem dL_call_212 : decode cL_call 212 = .ok (.iload_n 2, 1) := by decide +kernel
theorem dL_call_213 : decode cL_call 213 = .ok (.invokevirtual 67, 3) := by decide +kernel
theorem dL_call_216 : decode cL_call 216 = .ok (.ireturn, 1) := by decide +kernel
theorem dL_call_217 : decode cL_call 217 = .ok (.aload_n 0, 1) := by decide +kernel
theorem dL_call_218 : decode cL_call 218 = .ok (.iload_n 2, 1) := by decide +kernel
theorem dL_call_219 : decode cL_call 219 = .ok (.invokevirtual 70, 3) := by decide +kernel
theorem dL_call_222 : decode cL_call 222 = .ok (.ireturn, 1) := by decide +kernel
set_option maxRecDepth 20000 in
theorem ggL_told_L_call_1 : GoodIn wsL_told (Cond.code yL_call cL_call 5 (some .int) :: wsL_call_r1) := goodIn_r _ [7, 8, 9, 10, 11, 12, 13, 14, 15, 16, 17, 18, 19, 20, 21, 22, 23, 24, 25, 26, 27, 28, 29, 30, 31] (by decide +kernel) (by decide +kernel)
set_option maxRecDepth 20000 in
theorem ggL_told_L_call_2 : GoodIn wsL_told wsL_call_r2 := goodIn_r _ [32, 33, 34, 35, 36, 37, 38, 39, 40, 41, 42, 43, 44, 45, 46, 47, 48, 49, 50, 51, 52, 53, 54, 55] (by decide +kernel) (by decide +kernel)
set_option maxRecDepth 20000 in
theorem ggL_told_L_call_3 : GoodIn wsL_told wsL_call_r3 := goodIn_r _ [56, 57, 58, 59, 60, 61, 62, 63, 64, 65, 66, 67, 68, 69, 70, 71, 72, 73, 74, 75, 76, 77, 78, 79] (by decide +kernel) (by decide +kernel)
set_option maxRecDepth 20000 in
theorem ggL_told_L_call_4 : GoodIn wsL_told wsL_call_r4 := goodIn_r _ [80, 81, 82, 83, 84, 85, 86, 87, 88, 89, 90, 91, 92, 93, 94, 95, 96, 97, 98, 99, 100, 101, 102, 103] (by decide +kernel) (by decide +kernel)
set_option maxRecDepth 20000 in
theorem ggL_told_L_call_5 : GoodIn wsL_told wsL_call_r5 := goodIn_r _ [104, 105, 106, 107, 108, 109, 110, 111, 112, 113, 114, 115, 116, 117, 118, 119, 120, 121, 122, 123, 124, 125, 126, 127] (by decide +kernel) (by decide +kernel)
set_option maxRecDepth 20000 in
theorem ggL_told_L_call_6 : GoodIn wsL_told wsL_call_r6 := goodIn_r _ [128, 129, 130, 131, 132, 133, 134, 135, 136, 137, 138, 139, 140, 141, 142, 143, 144, 145, 146, 147, 148, 149, 150, 151] (by decide +kernel) (by decide +kernel)
set_option maxRecDepth 20000 in
theorem ggL_told_L_call_7 : GoodIn wsL_told wsL_call_r7 := goodIn_r _ [152, 153, 154, 155, 156, 157, 158, 159, 160, 161, 162, 163, 164, 165, 166, 167, 168, 169, 170, 171, 172, 173, 174, 175] (by decide +kernel) (by decide +kernel)
set_option maxRecDepth 20000 in
theorem ggL_told_L_call_8 : GoodIn wsL_told wsL_call_r8 := goodIn_r _ [176, 177, 178, 179, 180, 181, 182, 183, 184, 185, 186, 187, 188, 189, 190, 191, 192, 193, 194, 195, 196, 197, 198, 199] (by decide +kernel) (by decide +kernel)
set_option maxRecDepth 20000 in
theorem ggL_told_L_call_9 : GoodIn wsL_told wsL_call_r9 := goodIn_r _ [200, 201, 202, 203, 204, 205, 206, 207, 208, 209, 210, 211, 212, 213, 214, 215, 216, 217, 218, 219, 220, 221, 222, 223] (by decide +kernel) (by decide +kernel)
set_option maxRecDepth 20000 in
theorem ggL_told_L_call_10 : GoodIn wsL_told wsL_call_r10 := goodIn_r _ [224, 225, 226, 227, 228, 229, 230, 231, 232, 233, 234, 235, 236, 237, 238, 239, 240, 241, 242, 243, 244, 245, 246, 247] (by decide +kernel) (by decide +kernel)
set_option maxRecDepth 20000 in
theorem ggL_told_L_call_11 : GoodIn wsL_told wsL_call_r11 := goodIn_r _ [248, 249, 250, 251, 252, 253, 254, 255, 256, 257, 258, 259, 260, 261, 262, 263, 264, 265, 266, 267, 268, 269, 270, 271] (by decide +kernel) (by decide +kernel)
set_option maxRecDepth 20000 in
theorem ggL_told_L_call_12 : GoodIn wsL_told wsL_call_r12 := goodIn_r _ [272, 273, 274, 275, 276, 277, 278, 279, 280, 281, 282, 283, 284, 285, 286, 287, 288, 289, 290, 291, 292, 293, 294, 295] (by decide +kernel) (by decide +kernel)
set_option maxRecDepth 20000 in
theorem ggL_told_L_call_13 : GoodIn wsL_told wsL_call_r13 := goodIn_r _ [296, 297, 298, 299, 300, 301, 302, 303, 304, 305, 306, 307, 308, 309, 310, 311, 312, 313, 314, 315, 316, 317, 318, 319] (by decide +kernel) (by decide +kernel)
set_option maxRecDepth 20000 in
theorem ggL_told_L_call_14 : GoodIn wsL_told wsL_call_r14 := goodIn_r _ [320, 321, 322, 323, 324, 325, 326, 327, 328, 329, 330, 331, 332, 333, 334, 335, 336, 337, 338] (by decide +kernel) (by decide +kernel)
set_option maxRecDepth 20000 in
theorem ggL_told_L_call_15 : GoodIn wsL_told wsX20 := goodIn_r _ [339, 340, 341, 342, 343, 344, 345] (by decide +kernel) (by decide +kernel)
set_option maxRecDepth 20000 in
theorem ggL_told_L_call_16 : GoodIn wsL_told wsX10 := goodIn_r _ [346, 347, 348, 349, 350, 351, 352, 353, 354, 355, 356, 357, 358, 359, 360, 361, 362] (by decide +kernel) (by decide +kernel)
set_option maxRecDepth 20000 in
theorem ggL_told_L_call_17 : GoodIn wsL_told wsX00 := goodIn_r _ [363, 364, 365, 366] (by decide +kernel) (by decide +kernel)
set_option maxRecDepth 20000 in
theorem ggL_told_L_call : GoodIn wsL_told wsL_call := goodIn_ca (goodIn_ca (goodIn_ca ((goodIn_ca (goodIn_ca (goodIn_ca (goodIn_ca ggL_told_L_call_1 (goodIn_app ggL_told_L_call_2 (goodIn_app ggL_told_L_call_3 (goodIn_app ggL_told_L_call_4 (goodIn_app ggL_told_L_call_5 (goodIn_app ggL_told_L_call_6 (goodIn_app ggL_told_L_call_7 (goodIn_app ggL_told_L_call_8 (goodIn_app ggL_told_L_call_9 (goodIn_app ggL_told_L_call_10 (goodIn_app ggL_told_L_call_11 (goodIn_app ggL_told_L_call_12 (goodIn_app ggL_told_L_call_13 ggL_told_L_call_14))))))))))))) ggL_told_L_call_15) ggL_told_L_call_16) ggL_told_L_call_17)) (goodIn_sub (fun _ h => List.mem_cons_of_mem _ (List.mem_append_left _ (List.mem_append_left _ (List.mem_append_right _ h)))) (by decide +kernel))) (goodIn_sub (fun _ h => List.mem_cons_of_mem _ (List.mem_append_left _ (List.mem_append_right _ h))) (by decide +kernel))) (goodIn_sub (fun _ h => List.mem_cons_of_mem _ (List.mem_append_right _ h)) (by decide +kernel))
set_option maxRecDepth 20000 in
theorem gL_told_L_call : GoodIn wsL_told (va_wsS RL 73 yL_call wsL_call) := goodIn_app (goodIn_of _ (by decide +kernel)) ggL_told_L_call
theorem dL_told_0 : decode cL_told 0 = .ok (.aload_n 0, 1) := by decide +kernel
theorem dL_told_1 : decode cL_told 1 = .ok (.iload_n 1, 1) := by decide +kernel
theorem dL_told_2 : decode cL_told 2 = .ok (.iload_n 2, 1) := by decide +kernel
theorem dL_told_3 : decode cL_told 3 = .ok (.iload_n 3, 1) := by decide +kernel
theorem dL_told_4 : decode cL_told 4 = .ok (.iload 4, 2) := by decide +kernel
theorem dL_told_6 : decode cL_told 6 = .ok (.invokestatic 73, 3) := by decide +kernel
theorem dL_told_9 : decode cL_told 9 = .ok (.ireturn, 1) := by decide +kernel
theorem dL_told_10 : decode cL_told 10 = .ok (.astore 5, 2) := by decide +kernel
theorem dL_told_12 : decode cL_told 12 = .ok (.bipush (-11), 2) := by decide +kernel
theorem dL_told_14 : decode cL_told 14 = .ok (.ireturn, 1) := by decide +kernel
theorem dL_told_15 : decode cL_told 15 = .ok (.astore 5, 2) := by decide +kernel
theorem dL_told_17 : decode cL_told 17 = .ok (.bipush (-12), 2) := by decide +kernel
theorem dL_told_19 : decode cL_told 19 = .ok (.ireturn, 1) := by decide +kernel
theorem dL_told_20 : decode cL_told 20 = .ok (.astore 5, 2) := by decide +kernel
theorem dL_told_22 : decode cL_told 22 = .ok (.bipush (-13), 2) := by decide +kernel
theorem dL_told_24 : decode cL_told 24 = .ok (.ireturn, 1) := by decide +kernel
