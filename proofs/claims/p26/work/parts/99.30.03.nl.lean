theorem dL_refusesAny_508 : decode cL_refusesAny 508 = .ok (.invokestatic 89, 3) := by decide +kernel
theorem dL_refusesAny_511 : decode cL_refusesAny 511 = .ok (.bipush (-11), 2) := by decide +kernel
theorem dL_refusesAny_513 : decode cL_refusesAny 513 = .ok (.if_icmp .ne 89, 3) := by decide +kernel
theorem dL_refusesAny_516 : decode cL_refusesAny 516 = .ok (.aload_n 0, 1) := by decide +kernel
theorem dL_refusesAny_517 : decode cL_refusesAny 517 = .ok (.bipush 16, 2) := by decide +kernel
theorem dL_refusesAny_519 : decode cL_refusesAny 519 = .ok (.iconst 0, 1) := by decide +kernel
theorem dL_refusesAny_520 : decode cL_refusesAny 520 = .ok (.iload_n 3, 1) := by decide +kernel
theorem dL_refusesAny_521 : decode cL_refusesAny 521 = .ok (.iconst 0, 1) := by decide +kernel
theorem dL_refusesAny_522 : decode cL_refusesAny 522 = .ok (.invokestatic 89, 3) := by decide +kernel
theorem dL_refusesAny_525 : decode cL_refusesAny 525 = .ok (.bipush (-12), 2) := by decide +kernel
theorem dL_refusesAny_527 : decode cL_refusesAny 527 = .ok (.if_icmp .ne 75, 3) := by decide +kernel
theorem dL_refusesAny_530 : decode cL_refusesAny 530 = .ok (.aload_n 0, 1) := by decide +kernel
theorem dL_refusesAny_531 : decode cL_refusesAny 531 = .ok (.bipush 16, 2) := by decide +kernel
theorem dL_refusesAny_533 : decode cL_refusesAny 533 = .ok (.iconst 0, 1) := by decide +kernel
theorem dL_refusesAny_534 : decode cL_refusesAny 534 = .ok (.iconst 0, 1) := by decide +kernel
theorem dL_refusesAny_535 : decode cL_refusesAny 535 = .ok (.iload_n 1, 1) := by decide +kernel
theorem dL_refusesAny_536 : decode cL_refusesAny 536 = .ok (.ifCond .eq 7, 3) := by decide +kernel
theorem dL_refusesAny_539 : decode cL_refusesAny 539 = .ok (.iconst (-1), 1) := by decide +kernel
theorem dL_refusesAny_540 : decode cL_refusesAny 540 = .ok (.goto 4, 3) := by decide +kernel
theorem dL_refusesAny_543 : decode cL_refusesAny 543 = .ok (.iconst 3, 1) := by decide +kernel
theorem dL_refusesAny_544 : decode cL_refusesAny 544 = .ok (.invokestatic 89, 3) := by decide +kernel
theorem dL_refusesAny_547 : decode cL_refusesAny 547 = .ok (.bipush (-12), 2) := by decide +kernel
theorem dL_refusesAny_549 : decode cL_refusesAny 549 = .ok (.if_icmp .ne 53, 3) := by decide +kernel
theorem dL_refusesAny_552 : decode cL_refusesAny 552 = .ok (.aload_n 0, 1) := by decide +kernel
theorem dL_refusesAny_553 : decode cL_refusesAny 553 = .ok (.bipush 17, 2) := by decide +kernel
theorem dL_refusesAny_555 : decode cL_refusesAny 555 = .ok (.iload_n 1, 1) := by decide +kernel
theorem dL_refusesAny_556 : decode cL_refusesAny 556 = .ok (.ifCond .eq 7, 3) := by decide +kernel
theorem dL_refusesAny_559 : decode cL_refusesAny 559 = .ok (.iconst 0, 1) := by decide +kernel
theorem dL_refusesAny_560 : decode cL_refusesAny 560 = .ok (.goto 5, 3) := by decide +kernel
theorem dL_refusesAny_563 : decode cL_refusesAny 563 = .ok (.bipush 10, 2) := by decide +kernel
theorem dL_refusesAny_565 : decode cL_refusesAny 565 = .ok (.iconst 0, 1) := by decide +kernel
theorem dL_refusesAny_566 : decode cL_refusesAny 566 = .ok (.iconst 0, 1) := by decide +kernel
theorem dL_refusesAny_567 : decode cL_refusesAny 567 = .ok (.invokestatic 89, 3) := by decide +kernel
theorem dL_refusesAny_570 : decode cL_refusesAny 570 = .ok (.bipush (-12), 2) := by decide +kernel
theorem dL_refusesAny_572 : decode cL_refusesAny 572 = .ok (.if_icmp .ne 30, 3) := by decide +kernel
theorem dL_refusesAny_575 : decode cL_refusesAny 575 = .ok (.aload_n 0, 1) := by decide +kernel
theorem dL_refusesAny_576 : decode cL_refusesAny 576 = .ok (.bipush 18, 2) := by decide +kernel
theorem dL_refusesAny_578 : decode cL_refusesAny 578 = .ok (.iload_n 1, 1) := by decide +kernel
theorem dL_refusesAny_579 : decode cL_refusesAny 579 = .ok (.ifCond .eq 7, 3) := by decide +kernel
theorem dL_refusesAny_582 : decode cL_refusesAny 582 = .ok (.iconst 0, 1) := by decide +kernel
theorem dL_refusesAny_583 : decode cL_refusesAny 583 = .ok (.goto 5, 3) := by decide +kernel
theorem dL_refusesAny_586 : decode cL_refusesAny 586 = .ok (.bipush 10, 2) := by decide +kernel
theorem dL_refusesAny_588 : decode cL_refusesAny 588 = .ok (.iconst 0, 1) := by decide +kernel
theorem dL_refusesAny_589 : decode cL_refusesAny 589 = .ok (.iconst 0, 1) := by decide +kernel
theorem dL_refusesAny_590 : decode cL_refusesAny 590 = .ok (.invokestatic 89, 3) := by decide +kernel
theorem dL_refusesAny_593 : decode cL_refusesAny 593 = .ok (.bipush (-12), 2) := by decide +kernel
theorem dL_refusesAny_595 : decode cL_refusesAny 595 = .ok (.if_icmp .ne 7, 3) := by decide +kernel
theorem dL_refusesAny_598 : decode cL_refusesAny 598 = .ok (.iconst 1, 1) := by decide +kernel
theorem dL_refusesAny_599 : decode cL_refusesAny 599 = .ok (.goto 4, 3) := by decide +kernel
theorem dL_refusesAny_602 : decode cL_refusesAny 602 = .ok (.iconst 0, 1) := by decide +kernel
theorem dL_refusesAny_603 : decode cL_refusesAny 603 = .ok (.ireturn, 1) := by decide +kernel
set_option maxRecDepth 20000 in
theorem ggL_refused_L_seen_1 : GoodIn wsL_refused (Cond.code yL_seen cL_seen 4 (some .long) :: wsL_seen_r1) := goodIn_r _ [4, 5, 6, 7, 8, 9, 10, 11, 12, 13, 14, 15, 16, 17, 18, 19, 20, 21, 22, 23, 24, 25, 26, 27, 28] rfl (by decide +kernel)
set_option maxRecDepth 20000 in
theorem ggL_refused_L_seen_2 : GoodIn wsL_refused wsL_seen_r2 := goodIn_r _ [29, 30, 31, 32, 33, 34, 35, 36, 37, 38, 39, 40, 41, 42, 43, 44, 45, 46, 47, 48, 49, 50, 51, 52] rfl (by decide +kernel)
set_option maxRecDepth 20000 in
theorem ggL_refused_L_seen_3 : GoodIn wsL_refused wsL_seen_r3 := goodIn_r _ [53, 54, 55, 56, 57, 58, 59, 60, 61, 62, 63, 64, 65, 66, 67, 68, 69, 70, 71, 72, 73, 74, 75, 76] rfl (by decide +kernel)
set_option maxRecDepth 20000 in
theorem ggL_refused_L_seen_4 : GoodIn wsL_refused wsL_seen_r4 := goodIn_r _ [77, 78, 79, 80, 81, 82, 83, 84, 85, 86, 87, 88, 89, 90, 91, 92, 93, 94, 95, 96, 97, 98, 99, 100] rfl (by decide +kernel)
set_option maxRecDepth 20000 in
theorem ggL_refused_L_seen_5 : GoodIn wsL_refused wsL_seen_r5 := goodIn_r _ [101, 102, 103, 104, 105, 106, 107, 108, 109, 110, 111, 112, 113, 114, 115, 116, 117, 118, 119, 120, 121, 122, 123, 124] rfl (by decide +kernel)
set_option maxRecDepth 20000 in
theorem ggL_refused_L_seen_6 : GoodIn wsL_refused wsL_seen_r6 := goodIn_r _ [125, 126, 127, 128, 129, 130, 131, 132, 133, 134, 135, 136, 137, 138, 139, 140, 141, 142, 143, 144, 145, 146, 147, 148] rfl (by decide +kernel)
set_option maxRecDepth 20000 in
theorem ggL_refused_L_seen_7 : GoodIn wsL_refused wsL_seen_r7 := goodIn_r _ [149, 150, 151, 152, 153] rfl (by decide +kernel)
set_option maxRecDepth 20000 in
theorem ggL_refused_L_seen_8 : GoodIn wsL_refused wsX20 := goodIn_r _ [350, 351, 352, 353, 354, 355, 356] rfl (by decide +kernel)
set_option maxRecDepth 20000 in
theorem ggL_refused_L_seen_9 : GoodIn wsL_refused wsX10 := goodIn_r _ [357, 358, 359, 360, 361, 362, 363, 364, 365, 366, 367, 368, 369, 370, 371, 372, 373] rfl (by decide +kernel)
set_option maxRecDepth 20000 in
theorem ggL_refused_L_seen : GoodIn wsL_refused wsL_seen := goodIn_ca (goodIn_ca ((goodIn_ca (goodIn_ca (goodIn_ca ggL_refused_L_seen_1 (goodIn_app ggL_refused_L_seen_2 (goodIn_app ggL_refused_L_seen_3 (goodIn_app ggL_refused_L_seen_4 (goodIn_app ggL_refused_L_seen_5 (goodIn_app ggL_refused_L_seen_6 ggL_refused_L_seen_7)))))) ggL_refused_L_seen_8) ggL_refused_L_seen_9)) (goodIn_sub (fun _ h => List.mem_cons_of_mem _ (List.mem_append_left _ (List.mem_append_left _ (List.mem_append_right _ h)))) (by decide +kernel))) (goodIn_sub (fun _ h => List.mem_cons_of_mem _ (List.mem_append_left _ (List.mem_append_right _ h))) (by decide +kernel))
set_option maxRecDepth 20000 in
theorem gL_refused_L_seen : GoodIn wsL_refused (va_wsS RL 92 yL_seen wsL_seen) := goodIn_app (goodIn_of _ (by decide +kernel)) ggL_refused_L_seen
set_option maxRecDepth 20000 in
theorem ggL_refused_X2_count : GoodIn wsL_refused wsX2_count := goodIn_ca (goodIn_r _ [11, 12, 13, 14, 15, 16, 17, 10, 18, 19, 20, 21, 22, 23, 24, 25, 26, 27, 28, 29, 30, 31, 32, 33, 34, 35, 36, 37, 38, 39, 40, 41, 42, 43, 44, 45, 46, 47, 48, 49, 50, 51, 52, 53, 54, 55, 56, 57, 58, 59, 60, 61, 62, 63, 64, 65, 66, 67, 68, 69, 70, 350, 351, 352, 353, 354, 355, 356, 357, 358, 359, 360, 361, 362, 363, 364, 365, 366, 367, 368, 369, 370, 371, 372, 373] rfl (by decide +kernel)) (goodIn_sub (fun _ h => List.mem_cons_of_mem _ (List.mem_append_left _ (List.mem_append_left _ (List.mem_append_right _ h)))) (by decide +kernel))
set_option maxRecDepth 20000 in
theorem gL_refused_X2_count : GoodIn wsL_refused (wsV RL 58 RX2 yX2_count wsX2_count) := goodIn_app (goodIn_of _ (by decide +kernel)) ggL_refused_X2_count
set_option maxRecDepth 20000 in
theorem ggL_refused_L_refusesAny_1 : GoodIn wsL_refused (Cond.code yL_refusesAny cL_refusesAny 5 (some .boolean) :: wsL_refusesAny_r1) := goodIn_r _ [156, 157, 158, 3, 159, 160, 161, 162, 163, 164, 165, 166, 167, 168, 10, 169, 75, 76, 12, 13, 15, 16, 17, 18, 170] rfl (by decide +kernel)
set_option maxRecDepth 20000 in
theorem ggL_refused_L_refusesAny_2 : GoodIn wsL_refused wsL_refusesAny_r2 := goodIn_r _ [171, 172, 173, 14, 174, 175, 176, 177, 178, 179, 180, 181, 22, 182, 81, 82, 39, 83, 84, 118, 101, 26, 24, 49] rfl (by decide +kernel)
set_option maxRecDepth 20000 in
theorem ggL_refused_L_refusesAny_3 : GoodIn wsL_refused wsL_refusesAny_r3 := goodIn_r _ [70, 34, 44, 140, 69, 25, 183, 184, 185, 186, 58, 59, 56, 60, 187, 188, 189, 190, 191, 192, 193, 194, 40, 41] rfl (by decide +kernel)
set_option maxRecDepth 20000 in
theorem ggL_refused_L_refusesAny_4 : GoodIn wsL_refused wsL_refusesAny_r4 := goodIn_r _ [42, 43, 195, 196, 197, 198, 199, 200, 201, 202, 203, 61, 62, 63, 64, 65, 66, 67, 68, 204, 205, 206, 207, 114] rfl (by decide +kernel)
set_option maxRecDepth 20000 in
theorem ggL_refused_L_refusesAny_5 : GoodIn wsL_refused wsL_refusesAny_r5 := goodIn_r _ [115, 116, 117, 208, 209, 210, 211, 212, 213, 214, 215, 216, 217, 218, 219, 220, 221, 222, 223, 224, 225, 226, 227, 228] rfl (by decide +kernel)
set_option maxRecDepth 20000 in
theorem ggL_refused_L_refusesAny_6 : GoodIn wsL_refused wsL_refusesAny_r6 := goodIn_r _ [86, 87, 88, 89, 90, 91, 92, 229, 230, 231, 232, 233, 234, 235, 236, 237, 238, 239, 240, 241, 242, 243, 244, 245] rfl (by decide +kernel)
set_option maxRecDepth 20000 in
theorem ggL_refused_L_refusesAny_7 : GoodIn wsL_refused wsL_refusesAny_r7 := goodIn_r _ [103, 104, 105, 246, 247, 248, 249, 250, 251, 252, 253, 254, 255, 256, 153, 257, 258, 259, 260, 261, 262, 263, 264, 265] rfl (by decide +kernel)
set_option maxRecDepth 20000 in
theorem ggL_refused_L_refusesAny_8 : GoodIn wsL_refused wsL_refusesAny_r8 := goodIn_r _ [266, 267, 268, 269, 270, 271, 272, 273, 274, 275, 276, 277, 278, 279, 280, 281, 282, 283, 284, 285, 286, 287, 288, 289] rfl (by decide +kernel)
set_option maxRecDepth 20000 in
theorem ggL_refused_L_refusesAny_9 : GoodIn wsL_refused wsL_refusesAny_r9 := goodIn_r _ [290, 291, 292, 293, 294, 295, 296, 297, 298, 299, 300, 301, 302, 303, 304, 305, 306, 307, 308, 309, 310, 311, 312, 313] rfl (by decide +kernel)
set_option maxRecDepth 20000 in
theorem ggL_refused_L_refusesAny_10 : GoodIn wsL_refused wsL_refusesAny_r10 := goodIn_r _ [314, 315, 316, 317, 318, 319, 320, 321, 322, 71, 72, 73, 74, 77, 78, 79, 80, 85, 93, 94, 95, 96, 97, 98] rfl (by decide +kernel)
set_option maxRecDepth 20000 in
theorem ggL_refused_L_refusesAny_11 : GoodIn wsL_refused wsL_refusesAny_r11 := goodIn_r _ [99, 100, 102, 106, 107, 108, 109, 110, 111, 112, 113, 119, 120, 121, 122, 123, 124, 125, 126, 127, 128, 129, 130, 131] rfl (by decide +kernel)
set_option maxRecDepth 20000 in
theorem ggL_refused_L_refusesAny_12 : GoodIn wsL_refused wsL_refusesAny_r12 := goodIn_r _ [132, 133, 134, 135, 136, 137, 138, 139, 141, 142, 143, 144, 145, 146, 147, 148, 7, 8, 9, 11, 19, 20, 21, 23] rfl (by decide +kernel)
set_option maxRecDepth 20000 in
theorem ggL_refused_L_refusesAny_13 : GoodIn wsL_refused wsL_refusesAny_r13 := goodIn_r _ [27, 28, 29, 30, 31, 32, 33, 35, 36, 37, 38, 45, 46, 47, 48, 50, 51, 52, 53, 54, 55, 57, 149, 150] rfl (by decide +kernel)
set_option maxRecDepth 20000 in
theorem ggL_refused_L_refusesAny_14 : GoodIn wsL_refused wsL_refusesAny_r14 := goodIn_r _ [151, 152, 323, 324, 325, 326, 327, 328, 329, 330, 331, 332, 333, 334, 335, 336, 337, 338, 339, 340, 341, 342, 343, 344] rfl (by decide +kernel)
set_option maxRecDepth 20000 in
theorem ggL_refused_L_refusesAny_15 : GoodIn wsL_refused wsL_refusesAny_r15 := goodIn_r _ [345, 346, 347, 348, 349] rfl (by decide +kernel)
set_option maxRecDepth 20000 in
theorem ggL_refused_L_refusesAny_16 : GoodIn wsL_refused wsX20 := goodIn_r _ [350, 351, 352, 353, 354, 355, 356] rfl (by decide +kernel)
set_option maxRecDepth 20000 in
theorem ggL_refused_L_refusesAny_17 : GoodIn wsL_refused wsX10 := goodIn_r _ [357, 358, 359, 360, 361, 362, 363, 364, 365, 366, 367, 368, 369, 370, 371, 372, 373] rfl (by decide +kernel)
set_option maxRecDepth 20000 in
theorem ggL_refused_L_refusesAny_18 : GoodIn wsL_refused wsX00 := goodIn_r _ [374, 375, 376, 377] rfl (by decide +kernel)
set_option maxRecDepth 20000 in
theorem ggL_refused_L_refusesAny : GoodIn wsL_refused wsL_refusesAny := goodIn_ca (goodIn_ca (goodIn_ca ((goodIn_ca (goodIn_ca (goodIn_ca (goodIn_ca ggL_refused_L_refusesAny_1 (goodIn_app ggL_refused_L_refusesAny_2 (goodIn_app ggL_refused_L_refusesAny_3 (goodIn_app ggL_refused_L_refusesAny_4 (goodIn_app ggL_refused_L_refusesAny_5 (goodIn_app ggL_refused_L_refusesAny_6 (goodIn_app ggL_refused_L_refusesAny_7 (goodIn_app ggL_refused_L_refusesAny_8 (goodIn_app ggL_refused_L_refusesAny_9 (goodIn_app ggL_refused_L_refusesAny_10 (goodIn_app ggL_refused_L_refusesAny_11 (goodIn_app ggL_refused_L_refusesAny_12 (goodIn_app ggL_refused_L_refusesAny_13 (goodIn_app ggL_refused_L_refusesAny_14 ggL_refused_L_refusesAny_15)))))))))))))) ggL_refused_L_refusesAny_16) ggL_refused_L_refusesAny_17) ggL_refused_L_refusesAny_18)) (goodIn_sub (fun _ h => List.mem_cons_of_mem _ (List.mem_append_left _ (List.mem_append_right _ h))) (by decide +kernel))) (goodIn_sub (fun _ h => List.mem_cons_of_mem _ (List.mem_append_left _ (List.mem_append_left _ (List.mem_append_right _ h)))) (by decide +kernel))) (goodIn_sub (fun _ h => List.mem_cons_of_mem _ (List.mem_append_right _ h)) (by decide +kernel))
set_option maxRecDepth 20000 in
theorem gL_refused_L_refusesAny : GoodIn wsL_refused (va_wsS RL 96 yL_refusesAny wsL_refusesAny) := goodIn_app (goodIn_of _ (by decide +kernel)) ggL_refused_L_refusesAny
theorem dL_refused_0 : decode cL_refused 0 = .ok (.aload_n 0, 1) := by decide +kernel
theorem dL_refused_1 : decode cL_refused 1 = .ok (.invokestatic 92, 3) := by decide +kernel
theorem dL_refused_4 : decode cL_refused 4 = .ok (.lstore_n 1, 1) := by decide +kernel
theorem dL_refused_5 : decode cL_refused 5 = .ok (.aload_n 0, 1) := by decide +kernel
theorem dL_refused_6 : decode cL_refused 6 = .ok (.bipush 11, 2) := by decide +kernel
theorem dL_refused_8 : decode cL_refused 8 = .ok (.invokevirtual 58, 3) := by decide +kernel
theorem dL_refused_11 : decode cL_refused 11 = .ok (.istore_n 3, 1) := by decide +kernel
theorem dL_refused_12 : decode cL_refused 12 = .ok (.aload_n 0, 1) := by decide +kernel
theorem dL_refused_13 : decode cL_refused 13 = .ok (.iconst 1, 1) := by decide +kernel
theorem dL_refused_14 : decode cL_refused 14 = .ok (.invokestatic 96, 3) := by decide +kernel
theorem dL_refused_17 : decode cL_refused 17 = .ok (.ifCond .eq 34, 3) := by decide +kernel
theorem dL_refused_20 : decode cL_refused 20 = .ok (.aload_n 0, 1) := by decide +kernel
theorem dL_refused_21 : decode cL_refused 21 = .ok (.iconst 0, 1) := by decide +kernel
theorem dL_refused_22 : decode cL_refused 22 = .ok (.invokestatic 96, 3) := by decide +kernel
theorem dL_refused_25 : decode cL_refused 25 = .ok (.ifCond .eq 26, 3) := by decide +kernel
theorem dL_refused_28 : decode cL_refused 28 = .ok (.aload_n 0, 1) := by decide +kernel
theorem dL_refused_29 : decode cL_refused 29 = .ok (.invokestatic 92, 3) := by decide +kernel
theorem dL_refused_32 : decode cL_refused 32 = .ok (.lload_n 1, 1) := by decide +kernel
theorem dL_refused_33 : decode cL_refused 33 = .ok (.lcmp, 1) := by decide +kernel
theorem dL_refused_34 : decode cL_refused 34 = .ok (.ifCond .ne 17, 3) := by decide +kernel
theorem dL_refused_37 : decode cL_refused 37 = .ok (.aload_n 0, 1) := by decide +kernel
theorem dL_refused_38 : decode cL_refused 38 = .ok (.bipush 11, 2) := by decide +kernel
theorem dL_refused_40 : decode cL_refused 40 = .ok (.invokevirtual 58, 3) := by decide +kernel
theorem dL_refused_43 : decode cL_refused 43 = .ok (.iload_n 3, 1) := by decide +kernel
theorem dL_refused_44 : decode cL_refused 44 = .ok (.if_icmp .ne 7, 3) := by decide +kernel
theorem dL_refused_47 : decode cL_refused 47 = .ok (.iconst 1, 1) := by decide +kernel
theorem dL_refused_48 : decode cL_refused 48 = .ok (.goto 4, 3) := by decide +kernel
theorem dL_refused_51 : decode cL_refused 51 = .ok (.iconst 0, 1) := by decide +kernel
theorem dL_refused_52 : decode cL_refused 52 = .ok (.ireturn, 1) := by decide +kernel
