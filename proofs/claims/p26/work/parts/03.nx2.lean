set_option maxRecDepth 20000 in
theorem ggX2_init_X1_init : GoodIn wsX2_init wsX1_init := goodIn_r _ [20, 21, 2, 3, 11, 22, 23, 24, 25, 26, 27, 28, 29, 30, 31, 32, 33, 34, 35, 36, 37, 38, 39, 40, 41, 42, 50, 51, 52, 53, 54, 55, 56, 57, 58, 59, 60, 61, 62, 63, 64, 65, 66] (by decide +kernel) (by decide +kernel)
set_option maxRecDepth 20000 in
theorem gX2_init_X1_init : GoodIn wsX2_init (wsX1_init) := ggX2_init_X1_init
set_option maxRecDepth 20000 in
theorem ggX2_init_X0_init : GoodIn wsX2_init wsX0_init := goodIn_r _ [44, 45, 2, 3, 46, 47, 48, 49, 74, 75, 76, 77] (by decide +kernel) (by decide +kernel)
set_option maxRecDepth 20000 in
theorem gX2_init_X0_init_n36 : GoodIn wsX2_init (wsX0_init) := ggX2_init_X0_init
theorem dX2_init_0 : decode cX2_init 0 = .ok (.aload_n 0, 1) := by decide +kernel
theorem dX2_init_1 : decode cX2_init 1 = .ok (.invokespecial 1, 3) := by decide +kernel
theorem dX2_init_4 : decode cX2_init 4 = .ok (.aload_n 0, 1) := by decide +kernel
theorem dX2_init_5 : decode cX2_init 5 = .ok (.new 7, 3) := by decide +kernel
theorem dX2_init_8 : decode cX2_init 8 = .ok (.dup, 1) := by decide +kernel
theorem dX2_init_9 : decode cX2_init 9 = .ok (.invokespecial 9, 3) := by decide +kernel
theorem dX2_init_12 : decode cX2_init 12 = .ok (.putfield 10, 3) := by decide +kernel
theorem dX2_init_15 : decode cX2_init 15 = .ok (.aload_n 0, 1) := by decide +kernel
theorem dX2_init_16 : decode cX2_init 16 = .ok (.new 7, 3) := by decide +kernel
theorem dX2_init_19 : decode cX2_init 19 = .ok (.dup, 1) := by decide +kernel
theorem dX2_init_20 : decode cX2_init 20 = .ok (.invokespecial 9, 3) := by decide +kernel
theorem dX2_init_23 : decode cX2_init 23 = .ok (.putfield 16, 3) := by decide +kernel
theorem dX2_init_26 : decode cX2_init 26 = .ok (.aload_n 0, 1) := by decide +kernel
theorem dX2_init_27 : decode cX2_init 27 = .ok (.bipush 6, 2) := by decide +kernel
theorem dX2_init_29 : decode cX2_init 29 = .ok (.anewarray 7, 3) := by decide +kernel
theorem dX2_init_32 : decode cX2_init 32 = .ok (.putfield 19, 3) := by decide +kernel
theorem dX2_init_35 : decode cX2_init 35 = .ok (.aload_n 0, 1) := by decide +kernel
theorem dX2_init_36 : decode cX2_init 36 = .ok (.iconst 0, 1) := by decide +kernel
theorem dX2_init_37 : decode cX2_init 37 = .ok (.putfield 23, 3) := by decide +kernel
theorem dX2_init_40 : decode cX2_init 40 = .ok (.aload_n 0, 1) := by decide +kernel
theorem dX2_init_41 : decode cX2_init 41 = .ok (.bipush 60, 2) := by decide +kernel
theorem dX2_init_43 : decode cX2_init 43 = .ok (.newarray .int, 2) := by decide +kernel
theorem dX2_init_45 : decode cX2_init 45 = .ok (.putfield 27, 3) := by decide +kernel
theorem dX2_init_48 : decode cX2_init 48 = .ok (.aload_n 0, 1) := by decide +kernel
theorem dX2_init_49 : decode cX2_init 49 = .ok (.iconst 0, 1) := by decide +kernel
theorem dX2_init_50 : decode cX2_init 50 = .ok (.putfield 31, 3) := by decide +kernel
theorem dX2_init_53 : decode cX2_init 53 = .ok (.aload_n 0, 1) := by decide +kernel
theorem dX2_init_54 : decode cX2_init 54 = .ok (.new 34, 3) := by decide +kernel
theorem dX2_init_57 : decode cX2_init 57 = .ok (.dup, 1) := by decide +kernel
theorem dX2_init_58 : decode cX2_init 58 = .ok (.invokespecial 36, 3) := by decide +kernel
theorem dX2_init_61 : decode cX2_init 61 = .ok (.putfield 37, 3) := by decide +kernel
theorem dX2_init_64 : decode cX2_init 64 = .ok (.iconst 0, 1) := by decide +kernel
theorem dX2_init_65 : decode cX2_init 65 = .ok (.istore_n 1, 1) := by decide +kernel
theorem dX2_init_66 : decode cX2_init 66 = .ok (.iload_n 1, 1) := by decide +kernel
theorem dX2_init_67 : decode cX2_init 67 = .ok (.bipush 6, 2) := by decide +kernel
theorem dX2_init_69 : decode cX2_init 69 = .ok (.if_icmp .ge 22, 3) := by decide +kernel
theorem dX2_init_72 : decode cX2_init 72 = .ok (.aload_n 0, 1) := by decide +kernel
theorem dX2_init_73 : decode cX2_init 73 = .ok (.getfield 19, 3) := by decide +kernel
theorem dX2_init_76 : decode cX2_init 76 = .ok (.iload_n 1, 1) := by decide +kernel
theorem dX2_init_77 : decode cX2_init 77 = .ok (.new 7, 3) := by decide +kernel
theorem dX2_init_80 : decode cX2_init 80 = .ok (.dup, 1) := by decide +kernel
theorem dX2_init_81 : decode cX2_init 81 = .ok (.invokespecial 9, 3) := by decide +kernel
theorem dX2_init_84 : decode cX2_init 84 = .ok (.aastore, 1) := by decide +kernel
theorem dX2_init_85 : decode cX2_init 85 = .ok (.iinc 1 1, 3) := by decide +kernel
theorem dX2_init_88 : decode cX2_init 88 = .ok (.goto (-22), 3) := by decide +kernel
theorem dX2_init_91 : decode cX2_init 91 = .ok (.return_, 1) := by decide +kernel
set_option maxRecDepth 20000 in
theorem ggX2_write_X2_isIn : GoodIn wsX2_write wsX2_isIn := goodIn_r _ [9] (by decide +kernel) (by decide +kernel)
set_option maxRecDepth 20000 in
theorem gX2_write_X2_isIn : GoodIn wsX2_write (va_wsS RX2 41 yX2_isIn wsX2_isIn) := goodIn_app (goodIn_of _ (by decide +kernel)) ggX2_write_X2_isIn
set_option maxRecDepth 20000 in
theorem ggX2_write_X2_saveState : GoodIn wsX2_write wsX2_saveState := goodIn_r _ [13, 14, 15, 5, 16, 17, 18, 8, 19, 20, 21, 22, 23, 24, 25, 26, 27, 28, 29, 30, 31, 32, 33, 34, 35, 36, 37, 38, 39, 40, 41, 42, 43, 44, 45, 46, 47, 48, 49, 50, 51, 52, 98, 99, 100, 101, 102, 103, 104, 105, 106, 107, 108, 109, 110, 111, 112, 113, 114, 115, 116, 117, 118, 119, 120, 121] (by decide +kernel) (by decide +kernel)
set_option maxRecDepth 20000 in
theorem gX2_write_X2_saveState : GoodIn wsX2_write (wsV RX2 57 RX2 yX2_saveState wsX2_saveState) := goodIn_app (goodIn_of _ (by decide +kernel)) ggX2_write_X2_saveState
set_option maxRecDepth 20000 in
theorem ggX2_write_X1_writePages : GoodIn wsX2_write wsX1_writePages := goodIn_r _ [56, 57, 58, 59, 23, 60, 37, 61, 62, 63, 64, 39, 26, 29, 27, 65, 66, 67, 68, 40, 69, 70, 71, 72, 73, 32, 33, 74, 75, 76, 77, 35, 34, 78, 79, 80, 81, 28, 38, 82, 83, 84, 85, 30, 25, 86, 87, 88, 89, 36, 31, 90, 91, 92, 93, 41, 94, 95, 96, 97, 105, 106, 107, 108, 109, 110, 111, 112, 113, 114, 115, 116, 117, 118, 119, 120, 121] (by decide +kernel) (by decide +kernel)
set_option maxRecDepth 20000 in
theorem gX2_write_X1_writePages : GoodIn wsX2_write (wsV RX2 60 RX1 yX1_writePages wsX1_writePages) := goodIn_app (goodIn_of _ (by decide +kernel)) ggX2_write_X1_writePages
theorem dX2_write_0 : decode cX2_write 0 = .ok (.iload_n 1, 1) := by decide +kernel
theorem dX2_write_1 : decode cX2_write 1 = .ok (.bipush 40, 2) := by decide +kernel
theorem dX2_write_3 : decode cX2_write 3 = .ok (.invokestatic 41, 3) := by decide +kernel
theorem dX2_write_6 : decode cX2_write 6 = .ok (.ifCond .ne 13, 3) := by decide +kernel
theorem dX2_write_9 : decode cX2_write 9 = .ok (.new 45, 3) := by decide +kernel
theorem dX2_write_12 : decode cX2_write 12 = .ok (.dup, 1) := by decide +kernel
theorem dX2_write_13 : decode cX2_write 13 = .ok (.ldc 47, 2) := by decide +kernel
theorem dX2_write_15 : decode cX2_write 15 = .ok (.invokespecial 49, 3) := by decide +kernel
theorem dX2_write_18 : decode cX2_write 18 = .ok (.athrow, 1) := by decide +kernel
theorem dX2_write_19 : decode cX2_write 19 = .ok (.iload_n 2, 1) := by decide +kernel
theorem dX2_write_20 : decode cX2_write 20 = .ok (.iconst 4, 1) := by decide +kernel
theorem dX2_write_21 : decode cX2_write 21 = .ok (.invokestatic 41, 3) := by decide +kernel
theorem dX2_write_24 : decode cX2_write 24 = .ok (.ifCond .ne 13, 3) := by decide +kernel
theorem dX2_write_27 : decode cX2_write 27 = .ok (.new 52, 3) := by decide +kernel
theorem dX2_write_30 : decode cX2_write 30 = .ok (.dup, 1) := by decide +kernel
theorem dX2_write_31 : decode cX2_write 31 = .ok (.ldc 54, 2) := by decide +kernel
theorem dX2_write_33 : decode cX2_write 33 = .ok (.invokespecial 56, 3) := by decide +kernel
theorem dX2_write_36 : decode cX2_write 36 = .ok (.athrow, 1) := by decide +kernel
theorem dX2_write_37 : decode cX2_write 37 = .ok (.aload_n 0, 1) := by decide +kernel
theorem dX2_write_38 : decode cX2_write 38 = .ok (.invokevirtual 57, 3) := by decide +kernel
theorem dX2_write_41 : decode cX2_write 41 = .ok (.aload_n 0, 1) := by decide +kernel
theorem dX2_write_42 : decode cX2_write 42 = .ok (.getfield 10, 3) := by decide +kernel
theorem dX2_write_45 : decode cX2_write 45 = .ok (.iload_n 1, 1) := by decide +kernel
theorem dX2_write_46 : decode cX2_write 46 = .ok (.iload_n 1, 1) := by decide +kernel
theorem dX2_write_47 : decode cX2_write 47 = .ok (.iload_n 2, 1) := by decide +kernel
theorem dX2_write_48 : decode cX2_write 48 = .ok (.invokevirtual 60, 3) := by decide +kernel
theorem dX2_write_51 : decode cX2_write 51 = .ok (.ireturn, 1) := by decide +kernel
set_option maxRecDepth 20000 in
theorem ggX2_writeRow_X2_isIn : GoodIn wsX2_writeRow wsX2_isIn := goodIn_r _ [9] (by decide +kernel) (by decide +kernel)
set_option maxRecDepth 20000 in
theorem gX2_writeRow_X2_isIn : GoodIn wsX2_writeRow (va_wsS RX2 41 yX2_isIn wsX2_isIn) := goodIn_app (goodIn_of _ (by decide +kernel)) ggX2_writeRow_X2_isIn
set_option maxRecDepth 20000 in
theorem ggX2_writeRow_X2_saveState : GoodIn wsX2_writeRow wsX2_saveState := goodIn_r _ [13, 14, 15, 5, 16, 17, 18, 8, 19, 20, 21, 22, 23, 24, 25, 26, 27, 28, 29, 30, 31, 32, 33, 34, 35, 36, 37, 38, 39, 40, 41, 42, 43, 44, 45, 46, 47, 48, 49, 50, 51, 52, 98, 99, 100, 101, 102, 103, 104, 105, 106, 107, 108, 109, 110, 111, 112, 113, 114, 115, 116, 117, 118, 119, 120, 121] (by decide +kernel) (by decide +kernel)
set_option maxRecDepth 20000 in
theorem gX2_writeRow_X2_saveState : GoodIn wsX2_writeRow (wsV RX2 57 RX2 yX2_saveState wsX2_saveState) := goodIn_app (goodIn_of _ (by decide +kernel)) ggX2_writeRow_X2_saveState
set_option maxRecDepth 20000 in
theorem ggX2_writeRow_X1_writePages : GoodIn wsX2_writeRow wsX1_writePages := goodIn_r _ [56, 57, 58, 59, 23, 60, 37, 61, 62, 63, 64, 39, 26, 29, 27, 65, 66, 67, 68, 40, 69, 70, 71, 72, 73, 32, 33, 74, 75, 76, 77, 35, 34, 78, 79, 80, 81, 28, 38, 82, 83, 84, 85, 30, 25, 86, 87, 88, 89, 36, 31, 90, 91, 92, 93, 41, 94, 95, 96, 97, 105, 106, 107, 108, 109, 110, 111, 112, 113, 114, 115, 116, 117, 118, 119, 120, 121] (by decide +kernel) (by decide +kernel)
set_option maxRecDepth 20000 in
theorem gX2_writeRow_X1_writePages : GoodIn wsX2_writeRow (wsV RX2 60 RX1 yX1_writePages wsX1_writePages) := goodIn_app (goodIn_of _ (by decide +kernel)) ggX2_writeRow_X1_writePages
theorem dX2_writeRow_0 : decode cX2_writeRow 0 = .ok (.iload_n 1, 1) := by decide +kernel
theorem dX2_writeRow_1 : decode cX2_writeRow 1 = .ok (.bipush 40, 2) := by decide +kernel
theorem dX2_writeRow_3 : decode cX2_writeRow 3 = .ok (.invokestatic 41, 3) := by decide +kernel
theorem dX2_writeRow_6 : decode cX2_writeRow 6 = .ok (.ifCond .ne 13, 3) := by decide +kernel
theorem dX2_writeRow_9 : decode cX2_writeRow 9 = .ok (.new 45, 3) := by decide +kernel
theorem dX2_writeRow_12 : decode cX2_writeRow 12 = .ok (.dup, 1) := by decide +kernel
theorem dX2_writeRow_13 : decode cX2_writeRow 13 = .ok (.ldc 47, 2) := by decide +kernel
theorem dX2_writeRow_15 : decode cX2_writeRow 15 = .ok (.invokespecial 49, 3) := by decide +kernel
theorem dX2_writeRow_18 : decode cX2_writeRow 18 = .ok (.athrow, 1) := by decide +kernel
theorem dX2_writeRow_19 : decode cX2_writeRow 19 = .ok (.iload_n 2, 1) := by decide +kernel
theorem dX2_writeRow_20 : decode cX2_writeRow 20 = .ok (.iconst 1, 1) := by decide +kernel
theorem dX2_writeRow_21 : decode cX2_writeRow 21 = .ok (.if_icmp .lt 11, 3) := by decide +kernel
theorem dX2_writeRow_24 : decode cX2_writeRow 24 = .ok (.iload_n 2, 1) := by decide +kernel
theorem dX2_writeRow_25 : decode cX2_writeRow 25 = .ok (.bipush 40, 2) := by decide +kernel
theorem dX2_writeRow_27 : decode cX2_writeRow 27 = .ok (.iload_n 1, 1) := by decide +kernel
theorem dX2_writeRow_28 : decode cX2_writeRow 28 = .ok (.isub, 1) := by decide +kernel
theorem dX2_writeRow_29 : decode cX2_writeRow 29 = .ok (.if_icmp .le 13, 3) := by decide +kernel
theorem dX2_writeRow_32 : decode cX2_writeRow 32 = .ok (.new 52, 3) := by decide +kernel
theorem dX2_writeRow_35 : decode cX2_writeRow 35 = .ok (.dup, 1) := by decide +kernel
theorem dX2_writeRow_36 : decode cX2_writeRow 36 = .ok (.ldc 64, 2) := by decide +kernel
theorem dX2_writeRow_38 : decode cX2_writeRow 38 = .ok (.invokespecial 56, 3) := by decide +kernel
theorem dX2_writeRow_41 : decode cX2_writeRow 41 = .ok (.athrow, 1) := by decide +kernel
theorem dX2_writeRow_42 : decode cX2_writeRow 42 = .ok (.iload_n 3, 1) := by decide +kernel
theorem dX2_writeRow_43 : decode cX2_writeRow 43 = .ok (.iconst 4, 1) := by decide +kernel
theorem dX2_writeRow_44 : decode cX2_writeRow 44 = .ok (.invokestatic 41, 3) := by decide +kernel
theorem dX2_writeRow_47 : decode cX2_writeRow 47 = .ok (.ifCond .ne 13, 3) := by decide +kernel
theorem dX2_writeRow_50 : decode cX2_writeRow 50 = .ok (.new 52, 3) := by decide +kernel
theorem dX2_writeRow_53 : decode cX2_writeRow 53 = .ok (.dup, 1) := by decide +kernel
theorem dX2_writeRow_54 : decode cX2_writeRow 54 = .ok (.ldc 54, 2) := by decide +kernel
theorem dX2_writeRow_56 : decode cX2_writeRow 56 = .ok (.invokespecial 56, 3) := by decide +kernel
theorem dX2_writeRow_59 : decode cX2_writeRow 59 = .ok (.athrow, 1) := by decide +kernel
theorem dX2_writeRow_60 : decode cX2_writeRow 60 = .ok (.aload_n 0, 1) := by decide +kernel
theorem dX2_writeRow_61 : decode cX2_writeRow 61 = .ok (.invokevirtual 57, 3) := by decide +kernel
theorem dX2_writeRow_64 : decode cX2_writeRow 64 = .ok (.aload_n 0, 1) := by decide +kernel
theorem dX2_writeRow_65 : decode cX2_writeRow 65 = .ok (.getfield 10, 3) := by decide +kernel
theorem dX2_writeRow_68 : decode cX2_writeRow 68 = .ok (.iload_n 1, 1) := by decide +kernel
theorem dX2_writeRow_69 : decode cX2_writeRow 69 = .ok (.iload_n 1, 1) := by decide +kernel
theorem dX2_writeRow_70 : decode cX2_writeRow 70 = .ok (.iload_n 2, 1) := by decide +kernel
theorem dX2_writeRow_71 : decode cX2_writeRow 71 = .ok (.iadd, 1) := by decide +kernel
theorem dX2_writeRow_72 : decode cX2_writeRow 72 = .ok (.iconst 1, 1) := by decide +kernel
theorem dX2_writeRow_73 : decode cX2_writeRow 73 = .ok (.isub, 1) := by decide +kernel
theorem dX2_writeRow_74 : decode cX2_writeRow 74 = .ok (.iload_n 3, 1) := by decide +kernel
theorem dX2_writeRow_75 : decode cX2_writeRow 75 = .ok (.invokevirtual 60, 3) := by decide +kernel
theorem dX2_writeRow_78 : decode cX2_writeRow 78 = .ok (.ireturn, 1) := by decide +kernel
set_option maxRecDepth 20000 in
theorem ggX2_trim_X2_isIn : GoodIn wsX2_trim wsX2_isIn := goodIn_r _ [7] (by decide +kernel) (by decide +kernel)
set_option maxRecDepth 20000 in
theorem gX2_trim_X2_isIn : GoodIn wsX2_trim (va_wsS RX2 41 yX2_isIn wsX2_isIn) := goodIn_app (goodIn_of _ (by decide +kernel)) ggX2_trim_X2_isIn
set_option maxRecDepth 20000 in
theorem ggX2_trim_X2_saveState : GoodIn wsX2_trim wsX2_saveState := goodIn_r _ [11, 12, 13, 3, 14, 15, 16, 6, 17, 18, 19, 20, 21, 22, 23, 24, 25, 26, 27, 28, 29, 30, 31, 32, 33, 34, 35, 36, 37, 38, 39, 40, 41, 42, 43, 44, 45, 46, 47, 48, 49, 50, 63, 64, 65, 66, 67, 68, 69, 70, 71, 72, 73, 74, 75, 76, 77, 78, 79, 80, 81, 82, 83, 84, 85, 86] (by decide +kernel) (by decide +kernel)
set_option maxRecDepth 20000 in
theorem gX2_trim_X2_saveState : GoodIn wsX2_trim (wsV RX2 57 RX2 yX2_saveState wsX2_saveState) := goodIn_app (goodIn_of _ (by decide +kernel)) ggX2_trim_X2_saveState
set_option maxRecDepth 20000 in
theorem ggX2_trim_X1_blockOf : GoodIn wsX2_trim wsX1_blockOf := goodIn_r _ [54, 23, 55, 56, 57, 21, 58, 70, 71, 72, 73, 74, 75, 76, 77, 78, 79, 80, 81, 82, 83, 84, 85, 86] (by decide +kernel) (by decide +kernel)
set_option maxRecDepth 20000 in
theorem gX2_trim_X1_blockOf : GoodIn wsX2_trim (wsV RX2 66 RX1 yX1_blockOf wsX1_blockOf) := goodIn_app (goodIn_of _ (by decide +kernel)) ggX2_trim_X1_blockOf
set_option maxRecDepth 20000 in
theorem ggX2_trim_X1_forget : GoodIn wsX2_trim wsX1_forget := goodIn_r _ [62, 23, 31, 27, 70, 71, 72, 73, 74, 75, 76, 77, 78, 79, 80, 81, 82, 83, 84, 85, 86] (by decide +kernel) (by decide +kernel)
set_option maxRecDepth 20000 in
theorem gX2_trim_X1_forget : GoodIn wsX2_trim (wsV RX2 70 RX1 yX1_forget wsX1_forget) := goodIn_app (goodIn_of _ (by decide +kernel)) ggX2_trim_X1_forget
theorem dX2_trim_0 : decode cX2_trim 0 = .ok (.iload_n 1, 1) := by decide +kernel
theorem dX2_trim_1 : decode cX2_trim 1 = .ok (.bipush 40, 2) := by decide +kernel
theorem dX2_trim_3 : decode cX2_trim 3 = .ok (.invokestatic 41, 3) := by decide +kernel
theorem dX2_trim_6 : decode cX2_trim 6 = .ok (.ifCond .ne 13, 3) := by decide +kernel
theorem dX2_trim_9 : decode cX2_trim 9 = .ok (.new 45, 3) := by decide +kernel
theorem dX2_trim_12 : decode cX2_trim 12 = .ok (.dup, 1) := by decide +kernel
theorem dX2_trim_13 : decode cX2_trim 13 = .ok (.ldc 47, 2) := by decide +kernel
theorem dX2_trim_15 : decode cX2_trim 15 = .ok (.invokespecial 49, 3) := by decide +kernel
theorem dX2_trim_18 : decode cX2_trim 18 = .ok (.athrow, 1) := by decide +kernel
theorem dX2_trim_19 : decode cX2_trim 19 = .ok (.aload_n 0, 1) := by decide +kernel
theorem dX2_trim_20 : decode cX2_trim 20 = .ok (.invokevirtual 57, 3) := by decide +kernel
theorem dX2_trim_23 : decode cX2_trim 23 = .ok (.aload_n 0, 1) := by decide +kernel
theorem dX2_trim_24 : decode cX2_trim 24 = .ok (.getfield 10, 3) := by decide +kernel
theorem dX2_trim_27 : decode cX2_trim 27 = .ok (.iload_n 1, 1) := by decide +kernel
theorem dX2_trim_28 : decode cX2_trim 28 = .ok (.invokevirtual 66, 3) := by decide +kernel
theorem dX2_trim_31 : decode cX2_trim 31 = .ok (.istore_n 2, 1) := by decide +kernel
theorem dX2_trim_32 : decode cX2_trim 32 = .ok (.aload_n 0, 1) := by decide +kernel
theorem dX2_trim_33 : decode cX2_trim 33 = .ok (.getfield 10, 3) := by decide +kernel
theorem dX2_trim_36 : decode cX2_trim 36 = .ok (.iload_n 1, 1) := by decide +kernel
theorem dX2_trim_37 : decode cX2_trim 37 = .ok (.invokevirtual 70, 3) := by decide +kernel
theorem dX2_trim_40 : decode cX2_trim 40 = .ok (.iload_n 2, 1) := by decide +kernel
theorem dX2_trim_41 : decode cX2_trim 41 = .ok (.ireturn, 1) := by decide +kernel
set_option maxRecDepth 20000 in
theorem ggX2_hint_X2_isIn : GoodIn wsX2_hint wsX2_isIn := goodIn_r _ [12] (by decide +kernel) (by decide +kernel)
set_option maxRecDepth 20000 in
theorem gX2_hint_X2_isIn : GoodIn wsX2_hint (va_wsS RX2 41 yX2_isIn wsX2_isIn) := goodIn_app (goodIn_of _ (by decide +kernel)) ggX2_hint_X2_isIn
set_option maxRecDepth 20000 in
theorem ggX2_hint_X1_isWritten : GoodIn wsX2_hint wsX1_isWritten := goodIn_r _ [17, 18, 67, 68, 69, 70, 71, 72, 73, 74, 75, 76, 77, 78, 79, 80, 81, 82, 83] (by decide +kernel) (by decide +kernel)
set_option maxRecDepth 20000 in
theorem gX2_hint_X1_isWritten : GoodIn wsX2_hint (wsV RX2 74 RX1 yX1_isWritten wsX1_isWritten) := goodIn_app (goodIn_of _ (by decide +kernel)) ggX2_hint_X1_isWritten
set_option maxRecDepth 20000 in
theorem ggX2_hint_X2_saveState : GoodIn wsX2_hint wsX2_saveState := goodIn_r _ [22, 23, 24, 7, 25, 26, 27, 11, 28, 29, 30, 31, 16, 32, 18, 33, 34, 35, 36, 37, 38, 39, 40, 41, 42, 43, 44, 45, 46, 47, 48, 49, 50, 51, 52, 53, 54, 55, 56, 57, 58, 59, 60, 61, 62, 63, 64, 65, 66, 67, 68, 69, 70, 71, 72, 73, 74, 75, 76, 77, 78, 79, 80, 81, 82, 83] (by decide +kernel) (by decide +kernel)
set_option maxRecDepth 20000 in
theorem gX2_hint_X2_saveState : GoodIn wsX2_hint (wsV RX2 57 RX2 yX2_saveState wsX2_saveState) := goodIn_app (goodIn_of _ (by decide +kernel)) ggX2_hint_X2_saveState
theorem dX2_hint_0 : decode cX2_hint 0 = .ok (.iload_n 1, 1) := by decide +kernel
theorem dX2_hint_1 : decode cX2_hint 1 = .ok (.bipush 40, 2) := by decide +kernel
theorem dX2_hint_3 : decode cX2_hint 3 = .ok (.invokestatic 41, 3) := by decide +kernel
theorem dX2_hint_6 : decode cX2_hint 6 = .ok (.ifCond .ne 13, 3) := by decide +kernel
theorem dX2_hint_9 : decode cX2_hint 9 = .ok (.new 45, 3) := by decide +kernel
theorem dX2_hint_12 : decode cX2_hint 12 = .ok (.dup, 1) := by decide +kernel
theorem dX2_hint_13 : decode cX2_hint 13 = .ok (.ldc 47, 2) := by decide +kernel
theorem dX2_hint_15 : decode cX2_hint 15 = .ok (.invokespecial 49, 3) := by decide +kernel
theorem dX2_hint_18 : decode cX2_hint 18 = .ok (.athrow, 1) := by decide +kernel
theorem dX2_hint_19 : decode cX2_hint 19 = .ok (.iload_n 2, 1) := by decide +kernel
theorem dX2_hint_20 : decode cX2_hint 20 = .ok (.iconst 4, 1) := by decide +kernel
theorem dX2_hint_21 : decode cX2_hint 21 = .ok (.invokestatic 41, 3) := by decide +kernel
theorem dX2_hint_24 : decode cX2_hint 24 = .ok (.ifCond .ne 13, 3) := by decide +kernel
theorem dX2_hint_27 : decode cX2_hint 27 = .ok (.new 52, 3) := by decide +kernel
theorem dX2_hint_30 : decode cX2_hint 30 = .ok (.dup, 1) := by decide +kernel
theorem dX2_hint_31 : decode cX2_hint 31 = .ok (.ldc 54, 2) := by decide +kernel
theorem dX2_hint_33 : decode cX2_hint 33 = .ok (.invokespecial 56, 3) := by decide +kernel
theorem dX2_hint_36 : decode cX2_hint 36 = .ok (.athrow, 1) := by decide +kernel
theorem dX2_hint_37 : decode cX2_hint 37 = .ok (.aload_n 0, 1) := by decide +kernel
theorem dX2_hint_38 : decode cX2_hint 38 = .ok (.getfield 10, 3) := by decide +kernel
theorem dX2_hint_41 : decode cX2_hint 41 = .ok (.iload_n 1, 1) := by decide +kernel
theorem dX2_hint_42 : decode cX2_hint 42 = .ok (.invokevirtual 74, 3) := by decide +kernel
theorem dX2_hint_45 : decode cX2_hint 45 = .ok (.ifCond .ne 13, 3) := by decide +kernel
theorem dX2_hint_48 : decode cX2_hint 48 = .ok (.new 78, 3) := by decide +kernel
theorem dX2_hint_51 : decode cX2_hint 51 = .ok (.dup, 1) := by decide +kernel
theorem dX2_hint_52 : decode cX2_hint 52 = .ok (.ldc 80, 2) := by decide +kernel
theorem dX2_hint_54 : decode cX2_hint 54 = .ok (.invokespecial 82, 3) := by decide +kernel
theorem dX2_hint_57 : decode cX2_hint 57 = .ok (.athrow, 1) := by decide +kernel
theorem dX2_hint_58 : decode cX2_hint 58 = .ok (.aload_n 0, 1) := by decide +kernel
theorem dX2_hint_59 : decode cX2_hint 59 = .ok (.invokevirtual 57, 3) := by decide +kernel
theorem dX2_hint_62 : decode cX2_hint 62 = .ok (.aload_n 0, 1) := by decide +kernel
theorem dX2_hint_63 : decode cX2_hint 63 = .ok (.getfield 10, 3) := by decide +kernel
theorem dX2_hint_66 : decode cX2_hint 66 = .ok (.getfield 83, 3) := by decide +kernel
theorem dX2_hint_69 : decode cX2_hint 69 = .ok (.iload_n 1, 1) := by decide +kernel
theorem dX2_hint_70 : decode cX2_hint 70 = .ok (.iaload, 1) := by decide +kernel
theorem dX2_hint_71 : decode cX2_hint 71 = .ok (.istore_n 3, 1) := by decide +kernel
theorem dX2_hint_72 : decode cX2_hint 72 = .ok (.aload_n 0, 1) := by decide +kernel
theorem dX2_hint_73 : decode cX2_hint 73 = .ok (.getfield 10, 3) := by decide +kernel
theorem dX2_hint_76 : decode cX2_hint 76 = .ok (.getfield 83, 3) := by decide +kernel
theorem dX2_hint_79 : decode cX2_hint 79 = .ok (.iload_n 1, 1) := by decide +kernel
theorem dX2_hint_80 : decode cX2_hint 80 = .ok (.iload_n 2, 1) := by decide +kernel
theorem dX2_hint_81 : decode cX2_hint 81 = .ok (.iastore, 1) := by decide +kernel
theorem dX2_hint_82 : decode cX2_hint 82 = .ok (.iload_n 3, 1) := by decide +kernel
theorem dX2_hint_83 : decode cX2_hint 83 = .ok (.ireturn, 1) := by decide +kernel
set_option maxRecDepth 20000 in
theorem ggX2_collect_X2_isIn : GoodIn wsX2_collect wsX2_isIn := goodIn_r _ [9] (by decide +kernel) (by decide +kernel)
set_option maxRecDepth 20000 in
theorem gX2_collect_X2_isIn : GoodIn wsX2_collect (va_wsS RX2 41 yX2_isIn wsX2_isIn) := goodIn_app (goodIn_of _ (by decide +kernel)) ggX2_collect_X2_isIn
set_option maxRecDepth 20000 in
theorem ggX2_collect_X1_stateOf : GoodIn wsX2_collect wsX1_stateOf := goodIn_r _ [14, 15, 16, 88, 89, 90, 91, 92, 93, 94, 95, 96, 97, 98, 99, 100, 101, 102, 103, 104] (by decide +kernel) (by decide +kernel)
set_option maxRecDepth 20000 in
theorem gX2_collect_X1_stateOf : GoodIn wsX2_collect (wsV RX2 88 RX1 yX1_stateOf wsX1_stateOf) := goodIn_app (goodIn_of _ (by decide +kernel)) ggX2_collect_X1_stateOf
set_option maxRecDepth 20000 in
theorem ggX2_collect_X2_saveState : GoodIn wsX2_collect wsX2_saveState := goodIn_r _ [20, 21, 22, 5, 23, 24, 25, 8, 26, 27, 28, 29, 13, 30, 31, 32, 33, 34, 35, 36, 15, 16, 37, 38, 39, 40, 41, 42, 43, 44, 45, 46, 47, 48, 49, 50, 51, 52, 53, 54, 55, 56, 81, 82, 83, 84, 85, 86, 87, 88, 89, 90, 91, 92, 93, 94, 95, 96, 97, 98, 99, 100, 101, 102, 103, 104] (by decide +kernel) (by decide +kernel)
set_option maxRecDepth 20000 in
theorem gX2_collect_X2_saveState : GoodIn wsX2_collect (wsV RX2 57 RX2 yX2_saveState wsX2_saveState) := goodIn_app (goodIn_of _ (by decide +kernel)) ggX2_collect_X2_saveState
set_option maxRecDepth 20000 in
theorem ggX2_collect_X1_copies : GoodIn wsX2_collect wsX1_copies := goodIn_r _ [60, 41, 88, 89, 90, 91, 92, 93, 94, 95, 96, 97, 98, 99, 100, 101, 102, 103, 104] (by decide +kernel) (by decide +kernel)
set_option maxRecDepth 20000 in
theorem gX2_collect_X1_copies : GoodIn wsX2_collect (wsV RX2 93 RX1 yX1_copies wsX1_copies) := goodIn_app (goodIn_of _ (by decide +kernel)) ggX2_collect_X1_copies
set_option maxRecDepth 20000 in
theorem ggX2_collect_X1_collectBlock : GoodIn wsX2_collect wsX1_collectBlock := goodIn_r _ [64, 34, 35, 42, 32, 65, 66, 67, 13, 68, 36, 31, 69, 70, 71, 72, 40, 15, 38, 44, 73, 74, 75, 76, 16, 37, 41, 39, 45, 77, 78, 79, 80, 88, 89, 90, 91, 92, 93, 94, 95, 96, 97, 98, 99, 100, 101, 102, 103, 104] (by decide +kernel) (by decide +kernel)
set_option maxRecDepth 20000 in
theorem gX2_collect_X1_collectBlock : GoodIn wsX2_collect (wsV RX2 97 RX1 yX1_collectBlock wsX1_collectBlock) := goodIn_app (goodIn_of _ (by decide +kernel)) ggX2_collect_X1_collectBlock
theorem dX2_collect_0 : decode cX2_collect 0 = .ok (.iload_n 1, 1) := by decide +kernel
theorem dX2_collect_1 : decode cX2_collect 1 = .ok (.bipush 12, 2) := by decide +kernel
theorem dX2_collect_3 : decode cX2_collect 3 = .ok (.invokestatic 41, 3) := by decide +kernel
theorem dX2_collect_6 : decode cX2_collect 6 = .ok (.ifCond .ne 13, 3) := by decide +kernel
theorem dX2_collect_9 : decode cX2_collect 9 = .ok (.new 45, 3) := by decide +kernel
theorem dX2_collect_12 : decode cX2_collect 12 = .ok (.dup, 1) := by decide +kernel
theorem dX2_collect_13 : decode cX2_collect 13 = .ok (.ldc 86, 2) := by decide +kernel
theorem dX2_collect_15 : decode cX2_collect 15 = .ok (.invokespecial 49, 3) := by decide +kernel
theorem dX2_collect_18 : decode cX2_collect 18 = .ok (.athrow, 1) := by decide +kernel
theorem dX2_collect_19 : decode cX2_collect 19 = .ok (.aload_n 0, 1) := by decide +kernel
theorem dX2_collect_20 : decode cX2_collect 20 = .ok (.getfield 10, 3) := by decide +kernel
theorem dX2_collect_23 : decode cX2_collect 23 = .ok (.iload_n 1, 1) := by decide +kernel
theorem dX2_collect_24 : decode cX2_collect 24 = .ok (.invokevirtual 88, 3) := by decide +kernel
theorem dX2_collect_27 : decode cX2_collect 27 = .ok (.iconst 2, 1) := by decide +kernel
theorem dX2_collect_28 : decode cX2_collect 28 = .ok (.if_icmp .eq 13, 3) := by decide +kernel
theorem dX2_collect_31 : decode cX2_collect 31 = .ok (.new 78, 3) := by decide +kernel
theorem dX2_collect_34 : decode cX2_collect 34 = .ok (.dup, 1) := by decide +kernel
theorem dX2_collect_35 : decode cX2_collect 35 = .ok (.ldc 91, 2) := by decide +kernel
theorem dX2_collect_37 : decode cX2_collect 37 = .ok (.invokespecial 82, 3) := by decide +kernel
theorem dX2_collect_40 : decode cX2_collect 40 = .ok (.athrow, 1) := by decide +kernel
theorem dX2_collect_41 : decode cX2_collect 41 = .ok (.aload_n 0, 1) := by decide +kernel
theorem dX2_collect_42 : decode cX2_collect 42 = .ok (.invokevirtual 57, 3) := by decide +kernel
theorem dX2_collect_45 : decode cX2_collect 45 = .ok (.aload_n 0, 1) := by decide +kernel
theorem dX2_collect_46 : decode cX2_collect 46 = .ok (.getfield 10, 3) := by decide +kernel
theorem dX2_collect_49 : decode cX2_collect 49 = .ok (.invokevirtual 93, 3) := by decide +kernel
theorem dX2_collect_52 : decode cX2_collect 52 = .ok (.istore_n 2, 1) := by decide +kernel
theorem dX2_collect_53 : decode cX2_collect 53 = .ok (.aload_n 0, 1) := by decide +kernel
theorem dX2_collect_54 : decode cX2_collect 54 = .ok (.getfield 10, 3) := by decide +kernel
theorem dX2_collect_57 : decode cX2_collect 57 = .ok (.iload_n 1, 1) := by decide +kernel
theorem dX2_collect_58 : decode cX2_collect 58 = .ok (.invokevirtual 97, 3) := by decide +kernel
theorem dX2_collect_61 : decode cX2_collect 61 = .ok (.aload_n 0, 1) := by decide +kernel
theorem dX2_collect_62 : decode cX2_collect 62 = .ok (.getfield 10, 3) := by decide +kernel
theorem dX2_collect_65 : decode cX2_collect 65 = .ok (.invokevirtual 93, 3) := by decide +kernel
theorem dX2_collect_68 : decode cX2_collect 68 = .ok (.iload_n 2, 1) := by decide +kernel
theorem dX2_collect_69 : decode cX2_collect 69 = .ok (.isub, 1) := by decide +kernel
theorem dX2_collect_70 : decode cX2_collect 70 = .ok (.ireturn, 1) := by decide +kernel
set_option maxRecDepth 20000 in
theorem ggX2_tidy_X2_saveState : GoodIn wsX2_tidy wsX2_saveState := goodIn_r _ [8, 9, 10, 3, 11, 12, 13, 7, 14, 15, 16, 17, 18, 19, 20, 21, 22, 23, 24, 25, 26, 27, 28, 29, 30, 31, 32, 33, 34, 35, 36, 37, 38, 39, 40, 41, 42, 43, 44, 45, 46, 47, 81, 82, 83, 84, 85, 86, 87, 88, 89, 90, 91, 92, 93, 94, 95, 96, 97, 98, 99, 100, 101, 102, 103, 104] (by decide +kernel) (by decide +kernel)
set_option maxRecDepth 20000 in
theorem gX2_tidy_X2_saveState : GoodIn wsX2_tidy (wsV RX2 57 RX2 yX2_saveState wsX2_saveState) := goodIn_app (goodIn_of _ (by decide +kernel)) ggX2_tidy_X2_saveState
set_option maxRecDepth 20000 in
theorem ggX2_tidy_X1_collectVictims : GoodIn wsX2_tidy wsX1_collectVictims := goodIn_r _ [51, 35, 52, 53, 54, 55, 18, 56, 27, 28, 57, 58, 59, 60, 34, 30, 29, 61, 62, 63, 64, 23, 24, 33, 21, 65, 66, 67, 68, 25, 20, 69, 70, 71, 72, 31, 26, 73, 74, 75, 76, 32, 36, 77, 78, 79, 80, 88, 89, 90, 91, 92, 93, 94, 95, 96, 97, 98, 99, 100, 101, 102, 103, 104] (by decide +kernel) (by decide +kernel)
set_option maxRecDepth 20000 in
theorem gX2_tidy_X1_collectVictims : GoodIn wsX2_tidy (wsV RX2 102 RX1 yX1_collectVictims wsX1_collectVictims) := goodIn_app (goodIn_of _ (by decide +kernel)) ggX2_tidy_X1_collectVictims
theorem dX2_tidy_0 : decode cX2_tidy 0 = .ok (.iload_n 1, 1) := by decide +kernel
theorem dX2_tidy_1 : decode cX2_tidy 1 = .ok (.iconst 1, 1) := by decide +kernel
theorem dX2_tidy_2 : decode cX2_tidy 2 = .ok (.if_icmp .lt 9, 3) := by decide +kernel
theorem dX2_tidy_5 : decode cX2_tidy 5 = .ok (.iload_n 1, 1) := by decide +kernel
theorem dX2_tidy_6 : decode cX2_tidy 6 = .ok (.bipush 12, 2) := by decide +kernel
theorem dX2_tidy_8 : decode cX2_tidy 8 = .ok (.if_icmp .le 13, 3) := by decide +kernel
theorem dX2_tidy_11 : decode cX2_tidy 11 = .ok (.new 52, 3) := by decide +kernel
theorem dX2_tidy_14 : decode cX2_tidy 14 = .ok (.dup, 1) := by decide +kernel
theorem dX2_tidy_15 : decode cX2_tidy 15 = .ok (.ldc 100, 2) := by decide +kernel
theorem dX2_tidy_17 : decode cX2_tidy 17 = .ok (.invokespecial 56, 3) := by decide +kernel
theorem dX2_tidy_20 : decode cX2_tidy 20 = .ok (.athrow, 1) := by decide +kernel
theorem dX2_tidy_21 : decode cX2_tidy 21 = .ok (.aload_n 0, 1) := by decide +kernel
theorem dX2_tidy_22 : decode cX2_tidy 22 = .ok (.invokevirtual 57, 3) := by decide +kernel
theorem dX2_tidy_25 : decode cX2_tidy 25 = .ok (.aload_n 0, 1) := by decide +kernel
theorem dX2_tidy_26 : decode cX2_tidy 26 = .ok (.getfield 10, 3) := by decide +kernel
theorem dX2_tidy_29 : decode cX2_tidy 29 = .ok (.iload_n 1, 1) := by decide +kernel
theorem dX2_tidy_30 : decode cX2_tidy 30 = .ok (.invokevirtual 102, 3) := by decide +kernel
theorem dX2_tidy_33 : decode cX2_tidy 33 = .ok (.ireturn, 1) := by decide +kernel
set_option maxRecDepth 20000 in
theorem ggX2_set_X2_isIn : GoodIn wsX2_set wsX2_isIn := goodIn_r _ [10] (by decide +kernel) (by decide +kernel)
set_option maxRecDepth 20000 in
theorem gX2_set_X2_isIn : GoodIn wsX2_set (va_wsS RX2 41 yX2_isIn wsX2_isIn) := goodIn_app (goodIn_of _ (by decide +kernel)) ggX2_set_X2_isIn
set_option maxRecDepth 20000 in
theorem ggX2_set_X2_isSettingValue : GoodIn wsX2_set wsX2_isSettingValue := goodIn_r _ [13, 7, 8, 9, 10] (by decide +kernel) (by decide +kernel)
set_option maxRecDepth 20000 in
theorem gX2_set_X2_isSettingValue : GoodIn wsX2_set (va_wsS RX2 107 yX2_isSettingValue wsX2_isSettingValue) := goodIn_app (goodIn_of _ (by decide +kernel)) ggX2_set_X2_isSettingValue
set_option maxRecDepth 20000 in
theorem ggX2_set_X2_saveState : GoodIn wsX2_set wsX2_saveState := goodIn_r _ [17, 18, 19, 5, 20, 21, 22, 9, 23, 24, 25, 26, 27, 28, 29, 30, 31, 32, 33, 34, 35, 36, 37, 38, 39, 40, 41, 42, 43, 44, 45, 46, 47, 48, 49, 50, 51, 52, 53, 54, 55, 56, 57, 58, 59, 60, 61, 62, 63, 64, 65, 66, 67, 68, 69, 70, 71, 72, 73, 74, 75, 76, 77, 78, 79, 80] (by decide +kernel) (by decide +kernel)
set_option maxRecDepth 20000 in
theorem gX2_set_X2_saveState : GoodIn wsX2_set (wsV RX2 57 RX2 yX2_saveState wsX2_saveState) := goodIn_app (goodIn_of _ (by decide +kernel)) ggX2_set_X2_saveState
theorem dX2_set_0 : decode cX2_set 0 = .ok (.iload_n 1, 1) := by decide +kernel
theorem dX2_set_1 : decode cX2_set 1 = .ok (.iconst 2, 1) := by decide +kernel
theorem dX2_set_2 : decode cX2_set 2 = .ok (.invokestatic 41, 3) := by decide +kernel
theorem dX2_set_5 : decode cX2_set 5 = .ok (.ifCond .ne 13, 3) := by decide +kernel
theorem dX2_set_8 : decode cX2_set 8 = .ok (.new 45, 3) := by decide +kernel
theorem dX2_set_11 : decode cX2_set 11 = .ok (.dup, 1) := by decide +kernel
theorem dX2_set_12 : decode cX2_set 12 = .ok (.ldc 105, 2) := by decide +kernel
theorem dX2_set_14 : decode cX2_set 14 = .ok (.invokespecial 49, 3) := by decide +kernel
theorem dX2_set_17 : decode cX2_set 17 = .ok (.athrow, 1) := by decide +kernel
theorem dX2_set_18 : decode cX2_set 18 = .ok (.iload_n 1, 1) := by decide +kernel
theorem dX2_set_19 : decode cX2_set 19 = .ok (.iload_n 2, 1) := by decide +kernel
theorem dX2_set_20 : decode cX2_set 20 = .ok (.invokestatic 107, 3) := by decide +kernel
theorem dX2_set_23 : decode cX2_set 23 = .ok (.ifCond .ne 13, 3) := by decide +kernel
theorem dX2_set_26 : decode cX2_set 26 = .ok (.new 52, 3) := by decide +kernel
theorem dX2_set_29 : decode cX2_set 29 = .ok (.dup, 1) := by decide +kernel
theorem dX2_set_30 : decode cX2_set 30 = .ok (.ldc 110, 2) := by decide +kernel
theorem dX2_set_32 : decode cX2_set 32 = .ok (.invokespecial 56, 3) := by decide +kernel
theorem dX2_set_35 : decode cX2_set 35 = .ok (.athrow, 1) := by decide +kernel
theorem dX2_set_36 : decode cX2_set 36 = .ok (.aload_n 0, 1) := by decide +kernel
theorem dX2_set_37 : decode cX2_set 37 = .ok (.invokevirtual 57, 3) := by decide +kernel
theorem dX2_set_40 : decode cX2_set 40 = .ok (.aload_n 0, 1) := by decide +kernel
theorem dX2_set_41 : decode cX2_set 41 = .ok (.getfield 10, 3) := by decide +kernel
theorem dX2_set_44 : decode cX2_set 44 = .ok (.getfield 112, 3) := by decide +kernel
theorem dX2_set_47 : decode cX2_set 47 = .ok (.iload_n 1, 1) := by decide +kernel
theorem dX2_set_48 : decode cX2_set 48 = .ok (.iaload, 1) := by decide +kernel
theorem dX2_set_49 : decode cX2_set 49 = .ok (.istore_n 3, 1) := by decide +kernel
theorem dX2_set_50 : decode cX2_set 50 = .ok (.aload_n 0, 1) := by decide +kernel
theorem dX2_set_51 : decode cX2_set 51 = .ok (.getfield 10, 3) := by decide +kernel
theorem dX2_set_54 : decode cX2_set 54 = .ok (.getfield 112, 3) := by decide +kernel
theorem dX2_set_57 : decode cX2_set 57 = .ok (.iload_n 1, 1) := by decide +kernel
theorem dX2_set_58 : decode cX2_set 58 = .ok (.iload_n 2, 1) := by decide +kernel
theorem dX2_set_59 : decode cX2_set 59 = .ok (.iastore, 1) := by decide +kernel
theorem dX2_set_60 : decode cX2_set 60 = .ok (.iload_n 3, 1) := by decide +kernel
theorem dX2_set_61 : decode cX2_set 61 = .ok (.ireturn, 1) := by decide +kernel
theorem dX2_append_0 : decode cX2_append 0 = .ok (.iload_n 1, 1) := by decide +kernel
theorem dX2_append_1 : decode cX2_append 1 = .ok (.bipush 33, 2) := by decide +kernel
theorem dX2_append_3 : decode cX2_append 3 = .ok (.if_icmp .lt 9, 3) := by decide +kernel
theorem dX2_append_6 : decode cX2_append 6 = .ok (.iload_n 1, 1) := by decide +kernel
theorem dX2_append_7 : decode cX2_append 7 = .ok (.bipush 126, 2) := by decide +kernel
theorem dX2_append_9 : decode cX2_append 9 = .ok (.if_icmp .le 13, 3) := by decide +kernel
theorem dX2_append_12 : decode cX2_append 12 = .ok (.new 52, 3) := by decide +kernel
theorem dX2_append_15 : decode cX2_append 15 = .ok (.dup, 1) := by decide +kernel
theorem dX2_append_16 : decode cX2_append 16 = .ok (.ldc 115, 2) := by decide +kernel
theorem dX2_append_18 : decode cX2_append 18 = .ok (.invokespecial 56, 3) := by decide +kernel
theorem dX2_append_21 : decode cX2_append 21 = .ok (.athrow, 1) := by decide +kernel
theorem dX2_append_22 : decode cX2_append 22 = .ok (.aload_n 0, 1) := by decide +kernel
theorem dX2_append_23 : decode cX2_append 23 = .ok (.getfield 31, 3) := by decide +kernel
theorem dX2_append_26 : decode cX2_append 26 = .ok (.bipush 60, 2) := by decide +kernel
theorem dX2_append_28 : decode cX2_append 28 = .ok (.if_icmp .lt 13, 3) := by decide +kernel
theorem dX2_append_31 : decode cX2_append 31 = .ok (.new 78, 3) := by decide +kernel
theorem dX2_append_34 : decode cX2_append 34 = .ok (.dup, 1) := by decide +kernel
theorem dX2_append_35 : decode cX2_append 35 = .ok (.ldc 117, 2) := by decide +kernel
theorem dX2_append_37 : decode cX2_append 37 = .ok (.invokespecial 82, 3) := by decide +kernel
theorem dX2_append_40 : decode cX2_append 40 = .ok (.athrow, 1) := by decide +kernel
theorem dX2_append_41 : decode cX2_append 41 = .ok (.aload_n 0, 1) := by decide +kernel
theorem dX2_append_42 : decode cX2_append 42 = .ok (.getfield 27, 3) := by decide +kernel
theorem dX2_append_45 : decode cX2_append 45 = .ok (.aload_n 0, 1) := by decide +kernel
theorem dX2_append_46 : decode cX2_append 46 = .ok (.getfield 31, 3) := by decide +kernel
theorem dX2_append_49 : decode cX2_append 49 = .ok (.iload_n 1, 1) := by decide +kernel
theorem dX2_append_50 : decode cX2_append 50 = .ok (.iastore, 1) := by decide +kernel
theorem dX2_append_51 : decode cX2_append 51 = .ok (.aload_n 0, 1) := by decide +kernel
theorem dX2_append_52 : decode cX2_append 52 = .ok (.dup, 1) := by decide +kernel
theorem dX2_append_53 : decode cX2_append 53 = .ok (.getfield 31, 3) := by decide +kernel
theorem dX2_append_56 : decode cX2_append 56 = .ok (.iconst 1, 1) := by decide +kernel
theorem dX2_append_57 : decode cX2_append 57 = .ok (.iadd, 1) := by decide +kernel
theorem dX2_append_58 : decode cX2_append 58 = .ok (.putfield 31, 3) := by decide +kernel
theorem dX2_append_61 : decode cX2_append 61 = .ok (.aload_n 0, 1) := by decide +kernel
theorem dX2_append_62 : decode cX2_append 62 = .ok (.getfield 31, 3) := by decide +kernel
theorem dX2_append_65 : decode cX2_append 65 = .ok (.ireturn, 1) := by decide +kernel
theorem dX2_clearBuffer_0 : decode cX2_clearBuffer 0 = .ok (.aload_n 0, 1) := by decide +kernel
theorem dX2_clearBuffer_1 : decode cX2_clearBuffer 1 = .ok (.getfield 31, 3) := by decide +kernel
theorem dX2_clearBuffer_4 : decode cX2_clearBuffer 4 = .ok (.istore_n 1, 1) := by decide +kernel
theorem dX2_clearBuffer_5 : decode cX2_clearBuffer 5 = .ok (.aload_n 0, 1) := by decide +kernel
theorem dX2_clearBuffer_6 : decode cX2_clearBuffer 6 = .ok (.iconst 0, 1) := by decide +kernel
theorem dX2_clearBuffer_7 : decode cX2_clearBuffer 7 = .ok (.putfield 31, 3) := by decide +kernel
theorem dX2_clearBuffer_10 : decode cX2_clearBuffer 10 = .ok (.iload_n 1, 1) := by decide +kernel
theorem dX2_clearBuffer_11 : decode cX2_clearBuffer 11 = .ok (.ireturn, 1) := by decide +kernel
set_option maxRecDepth 20000 in
theorem ggX2_firstError_X2_readBuffer : GoodIn wsX2_firstError wsX2_readBuffer := goodIn_r _ [5, 6, 7, 8, 9, 10, 11, 12, 13, 14, 15, 16, 17, 18, 19, 20, 21, 22, 23, 24, 25, 26, 27, 28, 29, 30, 31, 32, 33, 34, 35, 36, 37, 38, 39, 40, 41, 42, 43, 44, 45, 46, 47, 48, 49, 50, 51, 52, 53, 54, 55, 56, 57, 58, 59] (by decide +kernel) (by decide +kernel)
set_option maxRecDepth 20000 in
theorem gX2_firstError_X2_readBuffer : GoodIn wsX2_firstError (wsV RX2 119 RX2 yX2_readBuffer wsX2_readBuffer) := goodIn_app (goodIn_of _ (by decide +kernel)) ggX2_firstError_X2_readBuffer
theorem dX2_firstError_0 : decode cX2_firstError 0 = .ok (.aload_n 0, 1) := by decide +kernel
theorem dX2_firstError_1 : decode cX2_firstError 1 = .ok (.invokevirtual 119, 3) := by decide +kernel
theorem dX2_firstError_4 : decode cX2_firstError 4 = .ok (.ireturn, 1) := by decide +kernel
set_option maxRecDepth 20000 in
theorem ggX2_writeAll_X2_readBuffer : GoodIn wsX2_writeAll wsX2_readBuffer := goodIn_r _ [14, 4, 3, 5, 15, 16, 17, 18, 19, 20, 21, 22, 23, 24, 25, 26, 27, 28, 29, 30, 31, 32, 33, 34, 35, 36, 37, 38, 39, 40, 41, 42, 43, 44, 45, 46, 47, 48, 49, 50, 51, 52, 53, 54, 144, 145, 146, 147, 148, 149, 150, 151, 152, 153, 154] (by decide +kernel) (by decide +kernel)
set_option maxRecDepth 20000 in
theorem gX2_writeAll_X2_readBuffer : GoodIn wsX2_writeAll (wsV RX2 119 RX2 yX2_readBuffer wsX2_readBuffer) := goodIn_app (goodIn_of _ (by decide +kernel)) ggX2_writeAll_X2_readBuffer
set_option maxRecDepth 20000 in
theorem ggX2_writeAll_X0_isPartWhole : GoodIn wsX2_writeAll wsX0_isPartWhole := goodIn_r _ [54, 20, 30, 25, 151, 152, 153, 154] (by decide +kernel) (by decide +kernel)
set_option maxRecDepth 20000 in
theorem gX2_writeAll_X0_isPartWhole : GoodIn wsX2_writeAll (wsV RX2 122 RX0 yX0_isPartWhole wsX0_isPartWhole) := goodIn_app (goodIn_of _ (by decide +kernel)) ggX2_writeAll_X0_isPartWhole
set_option maxRecDepth 20000 in
theorem ggX2_writeAll_X2_saveState : GoodIn wsX2_writeAll wsX2_saveState := goodIn_r _ [59, 60, 61, 6, 62, 63, 64, 13, 65, 66, 67, 68, 69, 70, 71, 72, 73, 74, 75, 76, 77, 78, 79, 80, 81, 82, 83, 84, 85, 86, 87, 88, 89, 90, 91, 92, 93, 94, 95, 96, 97, 98, 144, 145, 146, 147, 148, 149, 150, 155, 156, 157, 158, 159, 160, 161, 162, 163, 164, 165, 166, 167, 168, 169, 170, 171] (by decide +kernel) (by decide +kernel)
set_option maxRecDepth 20000 in
theorem gX2_writeAll_X2_saveState : GoodIn wsX2_writeAll (wsV RX2 57 RX2 yX2_saveState wsX2_saveState) := goodIn_app (goodIn_of _ (by decide +kernel)) ggX2_writeAll_X2_saveState
set_option maxRecDepth 20000 in
theorem ggX2_writeAll_X0_restart : GoodIn wsX2_writeAll wsX0_restart := goodIn_r _ [19, 20, 151, 152, 153, 154] (by decide +kernel) (by decide +kernel)
set_option maxRecDepth 20000 in
theorem gX2_writeAll_X0_restart : GoodIn wsX2_writeAll (wsV RX2 128 RX0 yX0_restart wsX0_restart) := goodIn_app (goodIn_of _ (by decide +kernel)) ggX2_writeAll_X0_restart
set_option maxRecDepth 20000 in
theorem ggX2_writeAll_X0_accepts : GoodIn wsX2_writeAll wsX0_accepts := goodIn_r _ [24, 20, 25, 26, 27, 28, 18, 29, 30, 31, 32, 33, 34, 35, 36, 37, 38, 39, 40, 41, 42, 43, 44, 45, 46, 47, 48, 49, 50, 51, 52, 53, 54, 151, 152, 153, 154] (by decide +kernel) (by decide +kernel)
set_option maxRecDepth 20000 in
theorem gX2_writeAll_X0_accepts : GoodIn wsX2_writeAll (wsV RX2 131 RX0 yX0_accepts wsX0_accepts) := goodIn_app (goodIn_of _ (by decide +kernel)) ggX2_writeAll_X0_accepts
set_option maxRecDepth 20000 in
theorem ggX2_writeAll_X1_writePages : GoodIn wsX2_writeAll wsX1_writePages := goodIn_r _ [102, 103, 104, 105, 69, 106, 83, 107, 108, 109, 110, 85, 72, 75, 73, 111, 112, 113, 114, 86, 115, 116, 117, 118, 119, 78, 79, 120, 121, 122, 123, 81, 80, 124, 125, 126, 127, 74, 84, 128, 129, 130, 131, 76, 71, 132, 133, 134, 135, 82, 77, 136, 137, 138, 139, 87, 140, 141, 142, 143, 155, 156, 157, 158, 159, 160, 161, 162, 163, 164, 165, 166, 167, 168, 169, 170, 171] (by decide +kernel) (by decide +kernel)
set_option maxRecDepth 20000 in
theorem gX2_writeAll_X1_writePages : GoodIn wsX2_writeAll (wsV RX2 60 RX1 yX1_writePages wsX1_writePages) := goodIn_app (goodIn_of _ (by decide +kernel)) ggX2_writeAll_X1_writePages
theorem dX2_writeAll_0 : decode cX2_writeAll 0 = .ok (.aload_n 0, 1) := by decide +kernel
theorem dX2_writeAll_1 : decode cX2_writeAll 1 = .ok (.invokevirtual 119, 3) := by decide +kernel
theorem dX2_writeAll_4 : decode cX2_writeAll 4 = .ok (.aload_n 0, 1) := by decide +kernel
theorem dX2_writeAll_5 : decode cX2_writeAll 5 = .ok (.getfield 31, 3) := by decide +kernel
theorem dX2_writeAll_8 : decode cX2_writeAll 8 = .ok (.if_icmp .lt 13, 3) := by decide +kernel
theorem dX2_writeAll_11 : decode cX2_writeAll 11 = .ok (.aload_n 0, 1) := by decide +kernel
theorem dX2_writeAll_12 : decode cX2_writeAll 12 = .ok (.getfield 37, 3) := by decide +kernel
theorem dX2_writeAll_15 : decode cX2_writeAll 15 = .ok (.invokevirtual 122, 3) := by decide +kernel
theorem dX2_writeAll_18 : decode cX2_writeAll 18 = .ok (.ifCond .ne 13, 3) := by decide +kernel
theorem dX2_writeAll_21 : decode cX2_writeAll 21 = .ok (.new 52, 3) := by decide +kernel
theorem dX2_writeAll_24 : decode cX2_writeAll 24 = .ok (.dup, 1) := by decide +kernel
theorem dX2_writeAll_25 : decode cX2_writeAll 25 = .ok (.ldc 126, 2) := by decide +kernel
theorem dX2_writeAll_27 : decode cX2_writeAll 27 = .ok (.invokespecial 56, 3) := by decide +kernel
theorem dX2_writeAll_30 : decode cX2_writeAll 30 = .ok (.athrow, 1) := by decide +kernel
theorem dX2_writeAll_31 : decode cX2_writeAll 31 = .ok (.aload_n 0, 1) := by decide +kernel
theorem dX2_writeAll_32 : decode cX2_writeAll 32 = .ok (.invokevirtual 57, 3) := by decide +kernel
theorem dX2_writeAll_35 : decode cX2_writeAll 35 = .ok (.iconst 0, 1) := by decide +kernel
theorem dX2_writeAll_36 : decode cX2_writeAll 36 = .ok (.istore_n 1, 1) := by decide +kernel
theorem dX2_writeAll_37 : decode cX2_writeAll 37 = .ok (.aload_n 0, 1) := by decide +kernel
theorem dX2_writeAll_38 : decode cX2_writeAll 38 = .ok (.getfield 37, 3) := by decide +kernel
theorem dX2_writeAll_41 : decode cX2_writeAll 41 = .ok (.invokevirtual 128, 3) := by decide +kernel
theorem dX2_writeAll_44 : decode cX2_writeAll 44 = .ok (.iconst 0, 1) := by decide +kernel
theorem dX2_writeAll_45 : decode cX2_writeAll 45 = .ok (.istore_n 2, 1) := by decide +kernel
theorem dX2_writeAll_46 : decode cX2_writeAll 46 = .ok (.iload_n 2, 1) := by decide +kernel
theorem dX2_writeAll_47 : decode cX2_writeAll 47 = .ok (.aload_n 0, 1) := by decide +kernel
theorem dX2_writeAll_48 : decode cX2_writeAll 48 = .ok (.getfield 31, 3) := by decide +kernel
theorem dX2_writeAll_51 : decode cX2_writeAll 51 = .ok (.if_icmp .ge 93, 3) := by decide +kernel
theorem dX2_writeAll_54 : decode cX2_writeAll 54 = .ok (.aload_n 0, 1) := by decide +kernel
theorem dX2_writeAll_55 : decode cX2_writeAll 55 = .ok (.getfield 37, 3) := by decide +kernel
theorem dX2_writeAll_58 : decode cX2_writeAll 58 = .ok (.aload_n 0, 1) := by decide +kernel
theorem dX2_writeAll_59 : decode cX2_writeAll 59 = .ok (.getfield 27, 3) := by decide +kernel
theorem dX2_writeAll_62 : decode cX2_writeAll 62 = .ok (.iload_n 2, 1) := by decide +kernel
theorem dX2_writeAll_63 : decode cX2_writeAll 63 = .ok (.iaload, 1) := by decide +kernel
theorem dX2_writeAll_64 : decode cX2_writeAll 64 = .ok (.invokevirtual 131, 3) := by decide +kernel
theorem dX2_writeAll_67 : decode cX2_writeAll 67 = .ok (.pop, 1) := by decide +kernel
theorem dX2_writeAll_68 : decode cX2_writeAll 68 = .ok (.iload_n 2, 1) := by decide +kernel
theorem dX2_writeAll_69 : decode cX2_writeAll 69 = .ok (.iconst 1, 1) := by decide +kernel
theorem dX2_writeAll_70 : decode cX2_writeAll 70 = .ok (.iadd, 1) := by decide +kernel
theorem dX2_writeAll_71 : decode cX2_writeAll 71 = .ok (.aload_n 0, 1) := by decide +kernel
theorem dX2_writeAll_72 : decode cX2_writeAll 72 = .ok (.getfield 31, 3) := by decide +kernel
theorem dX2_writeAll_75 : decode cX2_writeAll 75 = .ok (.if_icmp .eq 14, 3) := by decide +kernel
theorem dX2_writeAll_78 : decode cX2_writeAll 78 = .ok (.aload_n 0, 1) := by decide +kernel
theorem dX2_writeAll_79 : decode cX2_writeAll 79 = .ok (.getfield 27, 3) := by decide +kernel
theorem dX2_writeAll_82 : decode cX2_writeAll 82 = .ok (.iload_n 2, 1) := by decide +kernel
theorem dX2_writeAll_83 : decode cX2_writeAll 83 = .ok (.iaload, 1) := by decide +kernel
theorem dX2_writeAll_84 : decode cX2_writeAll 84 = .ok (.bipush 59, 2) := by decide +kernel
theorem dX2_writeAll_86 : decode cX2_writeAll 86 = .ok (.if_icmp .ne 52, 3) := by decide +kernel
theorem dX2_writeAll_89 : decode cX2_writeAll 89 = .ok (.aload_n 0, 1) := by decide +kernel
theorem dX2_writeAll_90 : decode cX2_writeAll 90 = .ok (.getfield 10, 3) := by decide +kernel
theorem dX2_writeAll_93 : decode cX2_writeAll 93 = .ok (.aload_n 0, 1) := by decide +kernel
theorem dX2_writeAll_94 : decode cX2_writeAll 94 = .ok (.getfield 37, 3) := by decide +kernel
theorem dX2_writeAll_97 : decode cX2_writeAll 97 = .ok (.getfield 134, 3) := by decide +kernel
theorem dX2_writeAll_100 : decode cX2_writeAll 100 = .ok (.aload_n 0, 1) := by decide +kernel
theorem dX2_writeAll_101 : decode cX2_writeAll 101 = .ok (.getfield 37, 3) := by decide +kernel
theorem dX2_writeAll_104 : decode cX2_writeAll 104 = .ok (.getfield 137, 3) := by decide +kernel
theorem dX2_writeAll_107 : decode cX2_writeAll 107 = .ok (.aload_n 0, 1) := by decide +kernel
theorem dX2_writeAll_108 : decode cX2_writeAll 108 = .ok (.getfield 37, 3) := by decide +kernel
theorem dX2_writeAll_111 : decode cX2_writeAll 111 = .ok (.getfield 140, 3) := by decide +kernel
theorem dX2_writeAll_114 : decode cX2_writeAll 114 = .ok (.invokevirtual 60, 3) := by decide +kernel
theorem dX2_writeAll_117 : decode cX2_writeAll 117 = .ok (.pop, 1) := by decide +kernel
theorem dX2_writeAll_118 : decode cX2_writeAll 118 = .ok (.iload_n 1, 1) := by decide +kernel
theorem dX2_writeAll_119 : decode cX2_writeAll 119 = .ok (.aload_n 0, 1) := by decide +kernel
theorem dX2_writeAll_120 : decode cX2_writeAll 120 = .ok (.getfield 37, 3) := by decide +kernel
theorem dX2_writeAll_123 : decode cX2_writeAll 123 = .ok (.getfield 137, 3) := by decide +kernel
theorem dX2_writeAll_126 : decode cX2_writeAll 126 = .ok (.aload_n 0, 1) := by decide +kernel
theorem dX2_writeAll_127 : decode cX2_writeAll 127 = .ok (.getfield 37, 3) := by decide +kernel
theorem dX2_writeAll_130 : decode cX2_writeAll 130 = .ok (.getfield 134, 3) := by decide +kernel
theorem dX2_writeAll_133 : decode cX2_writeAll 133 = .ok (.isub, 1) := by decide +kernel
theorem dX2_writeAll_134 : decode cX2_writeAll 134 = .ok (.iconst 1, 1) := by decide +kernel
theorem dX2_writeAll_135 : decode cX2_writeAll 135 = .ok (.iadd, 1) := by decide +kernel
theorem dX2_writeAll_136 : decode cX2_writeAll 136 = .ok (.iadd, 1) := by decide +kernel
theorem dX2_writeAll_137 : decode cX2_writeAll 137 = .ok (.istore_n 1, 1) := by decide +kernel
theorem dX2_writeAll_138 : decode cX2_writeAll 138 = .ok (.iinc 2 1, 3) := by decide +kernel
theorem dX2_writeAll_141 : decode cX2_writeAll 141 = .ok (.goto (-95), 3) := by decide +kernel
theorem dX2_writeAll_144 : decode cX2_writeAll 144 = .ok (.aload_n 0, 1) := by decide +kernel
theorem dX2_writeAll_145 : decode cX2_writeAll 145 = .ok (.iconst 0, 1) := by decide +kernel
theorem dX2_writeAll_146 : decode cX2_writeAll 146 = .ok (.putfield 31, 3) := by decide +kernel
theorem dX2_writeAll_149 : decode cX2_writeAll 149 = .ok (.iload_n 1, 1) := by decide +kernel
theorem dX2_writeAll_150 : decode cX2_writeAll 150 = .ok (.ireturn, 1) := by decide +kernel
theorem dX2_undo_0 : decode cX2_undo 0 = .ok (.aload_n 0, 1) := by decide +kernel
theorem dX2_undo_1 : decode cX2_undo 1 = .ok (.getfield 23, 3) := by decide +kernel
theorem dX2_undo_4 : decode cX2_undo 4 = .ok (.ifCond .gt 13, 3) := by decide +kernel
theorem dX2_undo_7 : decode cX2_undo 7 = .ok (.new 78, 3) := by decide +kernel
theorem dX2_undo_10 : decode cX2_undo 10 = .ok (.dup, 1) := by decide +kernel
theorem dX2_undo_11 : decode cX2_undo 11 = .ok (.ldc 143, 2) := by decide +kernel
theorem dX2_undo_13 : decode cX2_undo 13 = .ok (.invokespecial 82, 3) := by decide +kernel
theorem dX2_undo_16 : decode cX2_undo 16 = .ok (.athrow, 1) := by decide +kernel
theorem dX2_undo_17 : decode cX2_undo 17 = .ok (.aload_n 0, 1) := by decide +kernel
theorem dX2_undo_18 : decode cX2_undo 18 = .ok (.dup, 1) := by decide +kernel
theorem dX2_undo_19 : decode cX2_undo 19 = .ok (.getfield 23, 3) := by decide +kernel
theorem dX2_undo_22 : decode cX2_undo 22 = .ok (.iconst 1, 1) := by decide +kernel
theorem dX2_undo_23 : decode cX2_undo 23 = .ok (.isub, 1) := by decide +kernel
theorem dX2_undo_24 : decode cX2_undo 24 = .ok (.putfield 23, 3) := by decide +kernel
theorem dX2_undo_27 : decode cX2_undo 27 = .ok (.aload_n 0, 1) := by decide +kernel
theorem dX2_undo_28 : decode cX2_undo 28 = .ok (.getfield 10, 3) := by decide +kernel
theorem dX2_undo_31 : decode cX2_undo 31 = .ok (.astore_n 1, 1) := by decide +kernel
theorem dX2_undo_32 : decode cX2_undo 32 = .ok (.aload_n 0, 1) := by decide +kernel
theorem dX2_undo_33 : decode cX2_undo 33 = .ok (.aload_n 0, 1) := by decide +kernel
theorem dX2_undo_34 : decode cX2_undo 34 = .ok (.getfield 19, 3) := by decide +kernel
theorem dX2_undo_37 : decode cX2_undo 37 = .ok (.aload_n 0, 1) := by decide +kernel
theorem dX2_undo_38 : decode cX2_undo 38 = .ok (.getfield 23, 3) := by decide +kernel
theorem dX2_undo_41 : decode cX2_undo 41 = .ok (.aaload, 1) := by decide +kernel
theorem dX2_undo_42 : decode cX2_undo 42 = .ok (.putfield 10, 3) := by decide +kernel
theorem dX2_undo_45 : decode cX2_undo 45 = .ok (.aload_n 0, 1) := by decide +kernel
theorem dX2_undo_46 : decode cX2_undo 46 = .ok (.getfield 19, 3) := by decide +kernel
theorem dX2_undo_49 : decode cX2_undo 49 = .ok (.aload_n 0, 1) := by decide +kernel
theorem dX2_undo_50 : decode cX2_undo 50 = .ok (.getfield 23, 3) := by decide +kernel
theorem dX2_undo_53 : decode cX2_undo 53 = .ok (.aload_n 1, 1) := by decide +kernel
theorem dX2_undo_54 : decode cX2_undo 54 = .ok (.aastore, 1) := by decide +kernel
theorem dX2_undo_55 : decode cX2_undo 55 = .ok (.aload_n 0, 1) := by decide +kernel
theorem dX2_undo_56 : decode cX2_undo 56 = .ok (.getfield 23, 3) := by decide +kernel
theorem dX2_undo_59 : decode cX2_undo 59 = .ok (.ireturn, 1) := by decide +kernel
set_option maxRecDepth 20000 in
theorem ggX2_page_X2_isIn : GoodIn wsX2_page wsX2_isIn := goodIn_r _ [9] (by decide +kernel) (by decide +kernel)
set_option maxRecDepth 20000 in
theorem gX2_page_X2_isIn : GoodIn wsX2_page (va_wsS RX2 41 yX2_isIn wsX2_isIn) := goodIn_app (goodIn_of _ (by decide +kernel)) ggX2_page_X2_isIn
set_option maxRecDepth 20000 in
theorem ggX2_page_X1_pageProperty : GoodIn wsX2_page wsX1_pageProperty := goodIn_r _ [14, 15, 16, 17, 18, 19, 20, 21, 22, 13, 23, 24, 25, 26, 27, 35, 36, 37, 38, 39, 40, 41, 42, 43, 44, 45, 46, 47, 48, 49, 50, 51] (by decide +kernel) (by decide +kernel)
set_option maxRecDepth 20000 in
theorem gX2_page_X1_pageProperty : GoodIn wsX2_page (wsV RX2 147 RX1 yX1_pageProperty wsX1_pageProperty) := goodIn_app (goodIn_of _ (by decide +kernel)) ggX2_page_X1_pageProperty
theorem dX2_page_0 : decode cX2_page 0 = .ok (.iload_n 1, 1) := by decide +kernel
theorem dX2_page_1 : decode cX2_page 1 = .ok (.bipush 40, 2) := by decide +kernel
theorem dX2_page_3 : decode cX2_page 3 = .ok (.invokestatic 41, 3) := by decide +kernel
theorem dX2_page_6 : decode cX2_page 6 = .ok (.ifCond .ne 13, 3) := by decide +kernel
theorem dX2_page_9 : decode cX2_page 9 = .ok (.new 45, 3) := by decide +kernel
theorem dX2_page_12 : decode cX2_page 12 = .ok (.dup, 1) := by decide +kernel
theorem dX2_page_13 : decode cX2_page 13 = .ok (.ldc 47, 2) := by decide +kernel
theorem dX2_page_15 : decode cX2_page 15 = .ok (.invokespecial 49, 3) := by decide +kernel
theorem dX2_page_18 : decode cX2_page 18 = .ok (.athrow, 1) := by decide +kernel
theorem dX2_page_19 : decode cX2_page 19 = .ok (.iload_n 2, 1) := by decide +kernel
theorem dX2_page_20 : decode cX2_page 20 = .ok (.bipush 6, 2) := by decide +kernel
theorem dX2_page_22 : decode cX2_page 22 = .ok (.invokestatic 41, 3) := by decide +kernel
theorem dX2_page_25 : decode cX2_page 25 = .ok (.ifCond .ne 13, 3) := by decide +kernel
theorem dX2_page_28 : decode cX2_page 28 = .ok (.new 52, 3) := by decide +kernel
theorem dX2_page_31 : decode cX2_page 31 = .ok (.dup, 1) := by decide +kernel
theorem dX2_page_32 : decode cX2_page 32 = .ok (.ldc 145, 2) := by decide +kernel
theorem dX2_page_34 : decode cX2_page 34 = .ok (.invokespecial 56, 3) := by decide +kernel
theorem dX2_page_37 : decode cX2_page 37 = .ok (.athrow, 1) := by decide +kernel
theorem dX2_page_38 : decode cX2_page 38 = .ok (.aload_n 0, 1) := by decide +kernel
theorem dX2_page_39 : decode cX2_page 39 = .ok (.getfield 10, 3) := by decide +kernel
theorem dX2_page_42 : decode cX2_page 42 = .ok (.iload_n 1, 1) := by decide +kernel
theorem dX2_page_43 : decode cX2_page 43 = .ok (.iload_n 2, 1) := by decide +kernel
theorem dX2_page_44 : decode cX2_page 44 = .ok (.invokevirtual 147, 3) := by decide +kernel
theorem dX2_page_47 : decode cX2_page 47 = .ok (.ireturn, 1) := by decide +kernel
set_option maxRecDepth 20000 in
theorem ggX2_block_X2_isIn : GoodIn wsX2_block wsX2_isIn := goodIn_r _ [9] (by decide +kernel) (by decide +kernel)
set_option maxRecDepth 20000 in
theorem gX2_block_X2_isIn : GoodIn wsX2_block (va_wsS RX2 41 yX2_isIn wsX2_isIn) := goodIn_app (goodIn_of _ (by decide +kernel)) ggX2_block_X2_isIn
set_option maxRecDepth 20000 in
theorem ggX2_block_X1_blockProperty : GoodIn wsX2_block wsX1_blockProperty := goodIn_r _ [14, 15, 16, 17, 18, 19, 20, 21, 13, 22, 23, 24, 25, 26, 27, 28, 29, 30, 31, 32, 33, 34, 35, 36, 37, 38, 39, 40, 41, 42, 43, 44, 45, 53, 54, 55, 56, 57, 58, 59, 60, 61, 62, 63, 64, 65, 66, 67, 68, 69] (by decide +kernel) (by decide +kernel)
set_option maxRecDepth 20000 in
theorem gX2_block_X1_blockProperty : GoodIn wsX2_block (wsV RX2 151 RX1 yX1_blockProperty wsX1_blockProperty) := goodIn_app (goodIn_of _ (by decide +kernel)) ggX2_block_X1_blockProperty
theorem dX2_block_0 : decode cX2_block 0 = .ok (.iload_n 1, 1) := by decide +kernel
theorem dX2_block_1 : decode cX2_block 1 = .ok (.bipush 12, 2) := by decide +kernel
theorem dX2_block_3 : decode cX2_block 3 = .ok (.invokestatic 41, 3) := by decide +kernel
theorem dX2_block_6 : decode cX2_block 6 = .ok (.ifCond .ne 13, 3) := by decide +kernel
theorem dX2_block_9 : decode cX2_block 9 = .ok (.new 45, 3) := by decide +kernel
theorem dX2_block_12 : decode cX2_block 12 = .ok (.dup, 1) := by decide +kernel
theorem dX2_block_13 : decode cX2_block 13 = .ok (.ldc 86, 2) := by decide +kernel
theorem dX2_block_15 : decode cX2_block 15 = .ok (.invokespecial 49, 3) := by decide +kernel
theorem dX2_block_18 : decode cX2_block 18 = .ok (.athrow, 1) := by decide +kernel
theorem dX2_block_19 : decode cX2_block 19 = .ok (.iload_n 2, 1) := by decide +kernel
theorem dX2_block_20 : decode cX2_block 20 = .ok (.bipush 8, 2) := by decide +kernel
theorem dX2_block_22 : decode cX2_block 22 = .ok (.invokestatic 41, 3) := by decide +kernel
theorem dX2_block_25 : decode cX2_block 25 = .ok (.ifCond .ne 13, 3) := by decide +kernel
theorem dX2_block_28 : decode cX2_block 28 = .ok (.new 52, 3) := by decide +kernel
theorem dX2_block_31 : decode cX2_block 31 = .ok (.dup, 1) := by decide +kernel
theorem dX2_block_32 : decode cX2_block 32 = .ok (.ldc 145, 2) := by decide +kernel
theorem dX2_block_34 : decode cX2_block 34 = .ok (.invokespecial 56, 3) := by decide +kernel
theorem dX2_block_37 : decode cX2_block 37 = .ok (.athrow, 1) := by decide +kernel
theorem dX2_block_38 : decode cX2_block 38 = .ok (.aload_n 0, 1) := by decide +kernel
theorem dX2_block_39 : decode cX2_block 39 = .ok (.getfield 10, 3) := by decide +kernel
theorem dX2_block_42 : decode cX2_block 42 = .ok (.iload_n 1, 1) := by decide +kernel
theorem dX2_block_43 : decode cX2_block 43 = .ok (.iload_n 2, 1) := by decide +kernel
theorem dX2_block_44 : decode cX2_block 44 = .ok (.invokevirtual 151, 3) := by decide +kernel
theorem dX2_block_47 : decode cX2_block 47 = .ok (.ireturn, 1) := by decide +kernel
set_option maxRecDepth 20000 in
theorem ggX2_slot_X2_isIn : GoodIn wsX2_slot wsX2_isIn := goodIn_r _ [8] (by decide +kernel) (by decide +kernel)
set_option maxRecDepth 20000 in
theorem gX2_slot_X2_isIn : GoodIn wsX2_slot (va_wsS RX2 41 yX2_isIn wsX2_isIn) := goodIn_app (goodIn_of _ (by decide +kernel)) ggX2_slot_X2_isIn
set_option maxRecDepth 20000 in
theorem ggX2_slot_X1_validPageAt : GoodIn wsX2_slot wsX1_validPageAt := goodIn_r _ [13, 14, 15, 23, 24, 25, 26, 27, 28, 29, 30, 31, 32, 33, 34, 35, 36, 37, 38, 39] (by decide +kernel) (by decide +kernel)
set_option maxRecDepth 20000 in
theorem gX2_slot_X1_validPageAt : GoodIn wsX2_slot (wsV RX2 156 RX1 yX1_validPageAt wsX1_validPageAt) := goodIn_app (goodIn_of _ (by decide +kernel)) ggX2_slot_X1_validPageAt
theorem dX2_slot_0 : decode cX2_slot 0 = .ok (.iload_n 1, 1) := by decide +kernel
theorem dX2_slot_1 : decode cX2_slot 1 = .ok (.bipush 12, 2) := by decide +kernel
theorem dX2_slot_3 : decode cX2_slot 3 = .ok (.invokestatic 41, 3) := by decide +kernel
theorem dX2_slot_6 : decode cX2_slot 6 = .ok (.ifCond .eq 12, 3) := by decide +kernel
theorem dX2_slot_9 : decode cX2_slot 9 = .ok (.iload_n 2, 1) := by decide +kernel
theorem dX2_slot_10 : decode cX2_slot 10 = .ok (.bipush 8, 2) := by decide +kernel
theorem dX2_slot_12 : decode cX2_slot 12 = .ok (.invokestatic 41, 3) := by decide +kernel
theorem dX2_slot_15 : decode cX2_slot 15 = .ok (.ifCond .ne 13, 3) := by decide +kernel
theorem dX2_slot_18 : decode cX2_slot 18 = .ok (.new 45, 3) := by decide +kernel
theorem dX2_slot_21 : decode cX2_slot 21 = .ok (.dup, 1) := by decide +kernel
theorem dX2_slot_22 : decode cX2_slot 22 = .ok (.ldc 154, 2) := by decide +kernel
theorem dX2_slot_24 : decode cX2_slot 24 = .ok (.invokespecial 49, 3) := by decide +kernel
theorem dX2_slot_27 : decode cX2_slot 27 = .ok (.athrow, 1) := by decide +kernel
theorem dX2_slot_28 : decode cX2_slot 28 = .ok (.iload_n 1, 1) := by decide +kernel
theorem dX2_slot_29 : decode cX2_slot 29 = .ok (.bipush 8, 2) := by decide +kernel
theorem dX2_slot_31 : decode cX2_slot 31 = .ok (.imul, 1) := by decide +kernel
theorem dX2_slot_32 : decode cX2_slot 32 = .ok (.iload_n 2, 1) := by decide +kernel
theorem dX2_slot_33 : decode cX2_slot 33 = .ok (.iadd, 1) := by decide +kernel
theorem dX2_slot_34 : decode cX2_slot 34 = .ok (.istore 4, 2) := by decide +kernel
theorem dX2_slot_36 : decode cX2_slot 36 = .ok (.iload_n 3, 1) := by decide +kernel
theorem dX2_slot_37 : decode cX2_slot 37 = .ok (.ifCond .eq 15, 3) := by decide +kernel
theorem dX2_slot_40 : decode cX2_slot 40 = .ok (.aload_n 0, 1) := by decide +kernel
theorem dX2_slot_41 : decode cX2_slot 41 = .ok (.getfield 10, 3) := by decide +kernel
theorem dX2_slot_44 : decode cX2_slot 44 = .ok (.iload 4, 2) := by decide +kernel
theorem dX2_slot_46 : decode cX2_slot 46 = .ok (.invokevirtual 156, 3) := by decide +kernel
theorem dX2_slot_49 : decode cX2_slot 49 = .ok (.goto 13, 3) := by decide +kernel
theorem dX2_slot_52 : decode cX2_slot 52 = .ok (.aload_n 0, 1) := by decide +kernel
theorem dX2_slot_53 : decode cX2_slot 53 = .ok (.getfield 10, 3) := by decide +kernel
theorem dX2_slot_56 : decode cX2_slot 56 = .ok (.getfield 159, 3) := by decide +kernel
theorem dX2_slot_59 : decode cX2_slot 59 = .ok (.iload 4, 2) := by decide +kernel
theorem dX2_slot_61 : decode cX2_slot 61 = .ok (.iaload, 1) := by decide +kernel
theorem dX2_slot_62 : decode cX2_slot 62 = .ok (.ireturn, 1) := by decide +kernel
set_option maxRecDepth 20000 in
theorem ggX2_stream_X2_isIn : GoodIn wsX2_stream wsX2_isIn := goodIn_r _ [9] (by decide +kernel) (by decide +kernel)
set_option maxRecDepth 20000 in
theorem gX2_stream_X2_isIn : GoodIn wsX2_stream (va_wsS RX2 41 yX2_isIn wsX2_isIn) := goodIn_app (goodIn_of _ (by decide +kernel)) ggX2_stream_X2_isIn
set_option maxRecDepth 20000 in
theorem ggX2_stream_X1_streamProperty : GoodIn wsX2_stream wsX1_streamProperty := goodIn_r _ [14, 15, 16, 17, 18, 19, 20, 13, 21, 22, 23, 24, 25, 26, 27, 28, 29, 30, 31, 39, 40, 41, 42, 43, 44, 45, 46, 47, 48, 49, 50, 51, 52, 53, 54, 55] (by decide +kernel) (by decide +kernel)
set_option maxRecDepth 20000 in
theorem gX2_stream_X1_streamProperty : GoodIn wsX2_stream (wsV RX2 164 RX1 yX1_streamProperty wsX1_streamProperty) := goodIn_app (goodIn_of _ (by decide +kernel)) ggX2_stream_X1_streamProperty
theorem dX2_stream_0 : decode cX2_stream 0 = .ok (.iload_n 1, 1) := by decide +kernel
theorem dX2_stream_1 : decode cX2_stream 1 = .ok (.iconst 5, 1) := by decide +kernel
theorem dX2_stream_2 : decode cX2_stream 2 = .ok (.invokestatic 41, 3) := by decide +kernel
theorem dX2_stream_5 : decode cX2_stream 5 = .ok (.ifCond .ne 13, 3) := by decide +kernel
theorem dX2_stream_8 : decode cX2_stream 8 = .ok (.new 45, 3) := by decide +kernel
theorem dX2_stream_11 : decode cX2_stream 11 = .ok (.dup, 1) := by decide +kernel
theorem dX2_stream_12 : decode cX2_stream 12 = .ok (.ldc 162, 2) := by decide +kernel
theorem dX2_stream_14 : decode cX2_stream 14 = .ok (.invokespecial 49, 3) := by decide +kernel
theorem dX2_stream_17 : decode cX2_stream 17 = .ok (.athrow, 1) := by decide +kernel
theorem dX2_stream_18 : decode cX2_stream 18 = .ok (.iload_n 2, 1) := by decide +kernel
theorem dX2_stream_19 : decode cX2_stream 19 = .ok (.iconst 5, 1) := by decide +kernel
theorem dX2_stream_20 : decode cX2_stream 20 = .ok (.invokestatic 41, 3) := by decide +kernel
theorem dX2_stream_23 : decode cX2_stream 23 = .ok (.ifCond .ne 13, 3) := by decide +kernel
theorem dX2_stream_26 : decode cX2_stream 26 = .ok (.new 52, 3) := by decide +kernel
theorem dX2_stream_29 : decode cX2_stream 29 = .ok (.dup, 1) := by decide +kernel
theorem dX2_stream_30 : decode cX2_stream 30 = .ok (.ldc 145, 2) := by decide +kernel
theorem dX2_stream_32 : decode cX2_stream 32 = .ok (.invokespecial 56, 3) := by decide +kernel
theorem dX2_stream_35 : decode cX2_stream 35 = .ok (.athrow, 1) := by decide +kernel
theorem dX2_stream_36 : decode cX2_stream 36 = .ok (.aload_n 0, 1) := by decide +kernel
theorem dX2_stream_37 : decode cX2_stream 37 = .ok (.getfield 10, 3) := by decide +kernel
theorem dX2_stream_40 : decode cX2_stream 40 = .ok (.iload_n 1, 1) := by decide +kernel
theorem dX2_stream_41 : decode cX2_stream 41 = .ok (.iload_n 2, 1) := by decide +kernel
theorem dX2_stream_42 : decode cX2_stream 42 = .ok (.invokevirtual 164, 3) := by decide +kernel
theorem dX2_stream_45 : decode cX2_stream 45 = .ok (.ireturn, 1) := by decide +kernel
set_option maxRecDepth 20000 in
theorem ggX2_count_X2_isIn : GoodIn wsX2_count wsX2_isIn := goodIn_r _ [8] (by decide +kernel) (by decide +kernel)
set_option maxRecDepth 20000 in
theorem gX2_count_X2_isIn : GoodIn wsX2_count (va_wsS RX2 41 yX2_isIn wsX2_isIn) := goodIn_app (goodIn_of _ (by decide +kernel)) ggX2_count_X2_isIn
set_option maxRecDepth 20000 in
theorem ggX2_count_X1_total : GoodIn wsX2_count wsX1_total := goodIn_r _ [13, 14, 15, 16, 17, 18, 12, 19, 20, 21, 22, 23, 24, 25, 26, 27, 28, 29, 30, 31, 32, 33, 34, 35, 36, 37, 38, 39, 40, 41, 42, 43, 44, 45, 46, 47, 48, 49, 50, 51, 52, 53, 54, 55, 56, 57, 58, 59, 60, 68, 69, 70, 71, 72, 73, 74, 75, 76, 77, 78, 79, 80, 81, 82, 83, 84] (by decide +kernel) (by decide +kernel)
set_option maxRecDepth 20000 in
theorem gX2_count_X1_total : GoodIn wsX2_count (wsV RX2 167 RX1 yX1_total wsX1_total) := goodIn_app (goodIn_of _ (by decide +kernel)) ggX2_count_X1_total
theorem dX2_count_0 : decode cX2_count 0 = .ok (.iload_n 1, 1) := by decide +kernel
theorem dX2_count_1 : decode cX2_count 1 = .ok (.bipush 12, 2) := by decide +kernel
theorem dX2_count_3 : decode cX2_count 3 = .ok (.invokestatic 41, 3) := by decide +kernel
theorem dX2_count_6 : decode cX2_count 6 = .ok (.ifCond .ne 13, 3) := by decide +kernel
theorem dX2_count_9 : decode cX2_count 9 = .ok (.new 52, 3) := by decide +kernel
theorem dX2_count_12 : decode cX2_count 12 = .ok (.dup, 1) := by decide +kernel
theorem dX2_count_13 : decode cX2_count 13 = .ok (.ldc 145, 2) := by decide +kernel
theorem dX2_count_15 : decode cX2_count 15 = .ok (.invokespecial 56, 3) := by decide +kernel
theorem dX2_count_18 : decode cX2_count 18 = .ok (.athrow, 1) := by decide +kernel
theorem dX2_count_19 : decode cX2_count 19 = .ok (.iload_n 1, 1) := by decide +kernel
theorem dX2_count_20 : decode cX2_count 20 = .ok (.bipush 11, 2) := by decide +kernel
theorem dX2_count_22 : decode cX2_count 22 = .ok (.if_icmp .ne 10, 3) := by decide +kernel
theorem dX2_count_25 : decode cX2_count 25 = .ok (.aload_n 0, 1) := by decide +kernel
theorem dX2_count_26 : decode cX2_count 26 = .ok (.getfield 23, 3) := by decide +kernel
theorem dX2_count_29 : decode cX2_count 29 = .ok (.goto 11, 3) := by decide +kernel
theorem dX2_count_32 : decode cX2_count 32 = .ok (.aload_n 0, 1) := by decide +kernel
theorem dX2_count_33 : decode cX2_count 33 = .ok (.getfield 10, 3) := by decide +kernel
theorem dX2_count_36 : decode cX2_count 36 = .ok (.iload_n 1, 1) := by decide +kernel
theorem dX2_count_37 : decode cX2_count 37 = .ok (.invokevirtual 167, 3) := by decide +kernel
theorem dX2_count_40 : decode cX2_count 40 = .ok (.ireturn, 1) := by decide +kernel
set_option maxRecDepth 20000 in
theorem ggX2_setting_X2_isIn : GoodIn wsX2_setting wsX2_isIn := goodIn_r _ [8] (by decide +kernel) (by decide +kernel)
set_option maxRecDepth 20000 in
theorem gX2_setting_X2_isIn : GoodIn wsX2_setting (va_wsS RX2 41 yX2_isIn wsX2_isIn) := goodIn_app (goodIn_of _ (by decide +kernel)) ggX2_setting_X2_isIn
theorem dX2_setting_0 : decode cX2_setting 0 = .ok (.iload_n 1, 1) := by decide +kernel
theorem dX2_setting_1 : decode cX2_setting 1 = .ok (.iconst 2, 1) := by decide +kernel
theorem dX2_setting_2 : decode cX2_setting 2 = .ok (.invokestatic 41, 3) := by decide +kernel
theorem dX2_setting_5 : decode cX2_setting 5 = .ok (.ifCond .ne 13, 3) := by decide +kernel
theorem dX2_setting_8 : decode cX2_setting 8 = .ok (.new 45, 3) := by decide +kernel
theorem dX2_setting_11 : decode cX2_setting 11 = .ok (.dup, 1) := by decide +kernel
theorem dX2_setting_12 : decode cX2_setting 12 = .ok (.ldc 105, 2) := by decide +kernel
theorem dX2_setting_14 : decode cX2_setting 14 = .ok (.invokespecial 49, 3) := by decide +kernel
theorem dX2_setting_17 : decode cX2_setting 17 = .ok (.athrow, 1) := by decide +kernel
theorem dX2_setting_18 : decode cX2_setting 18 = .ok (.aload_n 0, 1) := by decide +kernel
theorem dX2_setting_19 : decode cX2_setting 19 = .ok (.getfield 10, 3) := by decide +kernel
theorem dX2_setting_22 : decode cX2_setting 22 = .ok (.getfield 112, 3) := by decide +kernel
theorem dX2_setting_25 : decode cX2_setting 25 = .ok (.iload_n 1, 1) := by decide +kernel
theorem dX2_setting_26 : decode cX2_setting 26 = .ok (.iaload, 1) := by decide +kernel
theorem dX2_setting_27 : decode cX2_setting 27 = .ok (.ireturn, 1) := by decide +kernel
set_option maxRecDepth 20000 in
theorem ggX2_ifWritten_X2_isIn : GoodIn wsX2_ifWritten wsX2_isIn := goodIn_r _ [8] (by decide +kernel) (by decide +kernel)
set_option maxRecDepth 20000 in
theorem gX2_ifWritten_X2_isIn : GoodIn wsX2_ifWritten (va_wsS RX2 41 yX2_isIn wsX2_isIn) := goodIn_app (goodIn_of _ (by decide +kernel)) ggX2_ifWritten_X2_isIn
set_option maxRecDepth 20000 in
theorem ggX2_ifWritten_X2_tryWriting : GoodIn wsX2_ifWritten wsX2_tryWriting := goodIn_r _ [12, 13, 14, 15, 16, 17, 18, 19, 20, 21, 22, 23, 24, 25, 26, 27, 28, 29, 30, 31, 32, 33, 34, 35, 36, 37, 38, 39, 40, 41, 42, 43, 44, 45, 46, 47, 48, 49, 50, 51, 52, 53, 54, 55, 56, 57, 58, 59, 60, 61, 62, 63, 64, 65, 66, 67, 68, 69, 70, 71, 72, 73, 74, 75, 76, 77, 78, 79, 80, 81, 82, 83, 84, 108, 109, 110, 111, 112, 113, 114, 115, 116, 117, 118, 119, 120, 121, 122, 123, 124, 125, 126, 127, 128, 129, 130, 131] (by decide +kernel) (by decide +kernel)
set_option maxRecDepth 20000 in
theorem gX2_ifWritten_X2_tryWriting : GoodIn wsX2_ifWritten (wsV RX2 170 RX2 yX2_tryWriting wsX2_tryWriting) := goodIn_app (goodIn_of _ (by decide +kernel)) ggX2_ifWritten_X2_tryWriting
set_option maxRecDepth 20000 in
theorem ggX2_ifWritten_X2_forecast : GoodIn wsX2_ifWritten wsX2_forecast := goodIn_r _ [88, 13, 14, 89, 90, 91, 18, 92, 32, 93, 94, 95, 96, 20, 97, 98, 99, 100, 101, 102, 103, 104, 29, 105, 106, 107, 108, 109, 110, 111, 112, 113, 114, 115, 116, 117, 118, 119, 120, 121, 122, 123, 124, 125, 126, 127, 128, 129, 130, 131] (by decide +kernel) (by decide +kernel)
set_option maxRecDepth 20000 in
theorem gX2_ifWritten_X2_forecast : GoodIn wsX2_ifWritten (wsV RX2 174 RX2 yX2_forecast wsX2_forecast) := goodIn_app (goodIn_of _ (by decide +kernel)) ggX2_ifWritten_X2_forecast
theorem dX2_ifWritten_0 : decode cX2_ifWritten 0 = .ok (.iload_n 1, 1) := by decide +kernel
theorem dX2_ifWritten_1 : decode cX2_ifWritten 1 = .ok (.bipush 40, 2) := by decide +kernel
theorem dX2_ifWritten_3 : decode cX2_ifWritten 3 = .ok (.invokestatic 41, 3) := by decide +kernel
theorem dX2_ifWritten_6 : decode cX2_ifWritten 6 = .ok (.ifCond .ne 13, 3) := by decide +kernel
theorem dX2_ifWritten_9 : decode cX2_ifWritten 9 = .ok (.new 45, 3) := by decide +kernel
theorem dX2_ifWritten_12 : decode cX2_ifWritten 12 = .ok (.dup, 1) := by decide +kernel
theorem dX2_ifWritten_13 : decode cX2_ifWritten 13 = .ok (.ldc 47, 2) := by decide +kernel
theorem dX2_ifWritten_15 : decode cX2_ifWritten 15 = .ok (.invokespecial 49, 3) := by decide +kernel
theorem dX2_ifWritten_18 : decode cX2_ifWritten 18 = .ok (.athrow, 1) := by decide +kernel
theorem dX2_ifWritten_19 : decode cX2_ifWritten 19 = .ok (.iload_n 2, 1) := by decide +kernel
theorem dX2_ifWritten_20 : decode cX2_ifWritten 20 = .ok (.iconst 4, 1) := by decide +kernel
theorem dX2_ifWritten_21 : decode cX2_ifWritten 21 = .ok (.invokestatic 41, 3) := by decide +kernel
theorem dX2_ifWritten_24 : decode cX2_ifWritten 24 = .ok (.ifCond .ne 13, 3) := by decide +kernel
theorem dX2_ifWritten_27 : decode cX2_ifWritten 27 = .ok (.new 52, 3) := by decide +kernel
theorem dX2_ifWritten_30 : decode cX2_ifWritten 30 = .ok (.dup, 1) := by decide +kernel
theorem dX2_ifWritten_31 : decode cX2_ifWritten 31 = .ok (.ldc 54, 2) := by decide +kernel
theorem dX2_ifWritten_33 : decode cX2_ifWritten 33 = .ok (.invokespecial 56, 3) := by decide +kernel
theorem dX2_ifWritten_36 : decode cX2_ifWritten 36 = .ok (.athrow, 1) := by decide +kernel
theorem dX2_ifWritten_37 : decode cX2_ifWritten 37 = .ok (.iload_n 3, 1) := by decide +kernel
theorem dX2_ifWritten_38 : decode cX2_ifWritten 38 = .ok (.iconst 3, 1) := by decide +kernel
theorem dX2_ifWritten_39 : decode cX2_ifWritten 39 = .ok (.invokestatic 41, 3) := by decide +kernel
theorem dX2_ifWritten_42 : decode cX2_ifWritten 42 = .ok (.ifCond .ne 13, 3) := by decide +kernel
theorem dX2_ifWritten_45 : decode cX2_ifWritten 45 = .ok (.new 52, 3) := by decide +kernel
theorem dX2_ifWritten_48 : decode cX2_ifWritten 48 = .ok (.dup, 1) := by decide +kernel
theorem dX2_ifWritten_49 : decode cX2_ifWritten 49 = .ok (.ldc 145, 2) := by decide +kernel
theorem dX2_ifWritten_51 : decode cX2_ifWritten 51 = .ok (.invokespecial 56, 3) := by decide +kernel
theorem dX2_ifWritten_54 : decode cX2_ifWritten 54 = .ok (.athrow, 1) := by decide +kernel
theorem dX2_ifWritten_55 : decode cX2_ifWritten 55 = .ok (.aload_n 0, 1) := by decide +kernel
theorem dX2_ifWritten_56 : decode cX2_ifWritten 56 = .ok (.iload_n 1, 1) := by decide +kernel
theorem dX2_ifWritten_57 : decode cX2_ifWritten 57 = .ok (.iload_n 2, 1) := by decide +kernel
theorem dX2_ifWritten_58 : decode cX2_ifWritten 58 = .ok (.invokevirtual 170, 3) := by decide +kernel
theorem dX2_ifWritten_61 : decode cX2_ifWritten 61 = .ok (.aload_n 0, 1) := by decide +kernel
theorem dX2_ifWritten_62 : decode cX2_ifWritten 62 = .ok (.iload_n 1, 1) := by decide +kernel
theorem dX2_ifWritten_63 : decode cX2_ifWritten 63 = .ok (.iload_n 3, 1) := by decide +kernel
theorem dX2_ifWritten_64 : decode cX2_ifWritten 64 = .ok (.invokevirtual 174, 3) := by decide +kernel
theorem dX2_ifWritten_67 : decode cX2_ifWritten 67 = .ok (.ireturn, 1) := by decide +kernel
set_option maxRecDepth 20000 in
theorem ggX2_ifRewritten_X2_copiesOfRewriting : GoodIn wsX2_ifRewritten wsX2_copiesOfRewriting := goodIn_r _ [9, 10, 3, 4, 11, 12, 13, 14, 15, 16, 17, 18, 19, 20, 21, 22, 23, 24, 25, 26, 27, 28, 29, 30, 31, 32, 33, 34, 35, 36, 37, 38, 39, 40, 41, 42, 43, 44, 45, 46, 47, 48, 49, 50, 51, 52, 53, 54, 55, 56, 57, 58, 59, 60, 61, 62, 63, 64, 65, 66, 67, 68, 69, 70, 71, 72, 73, 74, 75, 76, 77, 78, 79, 80, 81, 82, 83, 84, 85, 86, 87, 88, 89, 90, 91, 92, 93, 94, 95, 96, 97, 98, 99, 100, 101, 102, 103, 104, 105, 106, 107, 108, 109, 110, 111, 112, 113] (by decide +kernel) (by decide +kernel)
set_option maxRecDepth 20000 in
theorem gX2_ifRewritten_X2_copiesOfRewriting : GoodIn wsX2_ifRewritten (wsV RX2 179 RX2 yX2_copiesOfRewriting wsX2_copiesOfRewriting) := goodIn_app (goodIn_of _ (by decide +kernel)) ggX2_ifRewritten_X2_copiesOfRewriting
theorem dX2_ifRewritten_0 : decode cX2_ifRewritten 0 = .ok (.iload_n 1, 1) := by decide +kernel
theorem dX2_ifRewritten_1 : decode cX2_ifRewritten 1 = .ok (.iconst 1, 1) := by decide +kernel
theorem dX2_ifRewritten_2 : decode cX2_ifRewritten 2 = .ok (.if_icmp .lt 9, 3) := by decide +kernel
theorem dX2_ifRewritten_5 : decode cX2_ifRewritten 5 = .ok (.iload_n 1, 1) := by decide +kernel
theorem dX2_ifRewritten_6 : decode cX2_ifRewritten 6 = .ok (.bipush 9, 2) := by decide +kernel
theorem dX2_ifRewritten_8 : decode cX2_ifRewritten 8 = .ok (.if_icmp .le 13, 3) := by decide +kernel
theorem dX2_ifRewritten_11 : decode cX2_ifRewritten 11 = .ok (.new 52, 3) := by decide +kernel
theorem dX2_ifRewritten_14 : decode cX2_ifRewritten 14 = .ok (.dup, 1) := by decide +kernel
theorem dX2_ifRewritten_15 : decode cX2_ifRewritten 15 = .ok (.ldc 177, 2) := by decide +kernel
theorem dX2_ifRewritten_17 : decode cX2_ifRewritten 17 = .ok (.invokespecial 56, 3) := by decide +kernel
theorem dX2_ifRewritten_20 : decode cX2_ifRewritten 20 = .ok (.athrow, 1) := by decide +kernel
theorem dX2_ifRewritten_21 : decode cX2_ifRewritten 21 = .ok (.aload_n 0, 1) := by decide +kernel
theorem dX2_ifRewritten_22 : decode cX2_ifRewritten 22 = .ok (.aload_n 0, 1) := by decide +kernel
theorem dX2_ifRewritten_23 : decode cX2_ifRewritten 23 = .ok (.getfield 10, 3) := by decide +kernel
theorem dX2_ifRewritten_26 : decode cX2_ifRewritten 26 = .ok (.getfield 112, 3) := by decide +kernel
theorem dX2_ifRewritten_29 : decode cX2_ifRewritten 29 = .ok (.iconst 0, 1) := by decide +kernel
theorem dX2_ifRewritten_30 : decode cX2_ifRewritten 30 = .ok (.iaload, 1) := by decide +kernel
theorem dX2_ifRewritten_31 : decode cX2_ifRewritten 31 = .ok (.iload_n 1, 1) := by decide +kernel
theorem dX2_ifRewritten_32 : decode cX2_ifRewritten 32 = .ok (.invokevirtual 179, 3) := by decide +kernel
theorem dX2_ifRewritten_35 : decode cX2_ifRewritten 35 = .ok (.ireturn, 1) := by decide +kernel
set_option maxRecDepth 20000 in
theorem ggX2_bestRule_X2_copiesOfRewriting : GoodIn wsX2_bestRule wsX2_copiesOfRewriting := goodIn_r _ [7, 8, 9, 10, 11, 12, 13, 14, 15, 16, 17, 18, 19, 20, 21, 22, 23, 24, 25, 26, 27, 28, 29, 30, 31, 32, 33, 34, 35, 36, 37, 38, 39, 40, 41, 42, 43, 44, 45, 46, 47, 48, 49, 50, 51, 52, 53, 54, 55, 56, 57, 58, 59, 60, 61, 62, 63, 64, 65, 66, 67, 68, 69, 70, 71, 72, 73, 74, 75, 76, 77, 78, 79, 80, 81, 82, 83, 84, 85, 86, 87, 88, 89, 90, 91, 92, 93, 94, 95, 96, 97, 98, 99, 100, 101, 102, 103, 104, 105, 106, 107, 108, 109, 110, 111, 112, 113] (by decide +kernel) (by decide +kernel)
set_option maxRecDepth 20000 in
theorem gX2_bestRule_X2_copiesOfRewriting : GoodIn wsX2_bestRule (wsV RX2 179 RX2 yX2_copiesOfRewriting wsX2_copiesOfRewriting) := goodIn_app (goodIn_of _ (by decide +kernel)) ggX2_bestRule_X2_copiesOfRewriting
theorem dX2_bestRule_0 : decode cX2_bestRule 0 = .ok (.iload_n 1, 1) := by decide +kernel
theorem dX2_bestRule_1 : decode cX2_bestRule 1 = .ok (.iconst 1, 1) := by decide +kernel
theorem dX2_bestRule_2 : decode cX2_bestRule 2 = .ok (.if_icmp .lt 9, 3) := by decide +kernel
theorem dX2_bestRule_5 : decode cX2_bestRule 5 = .ok (.iload_n 1, 1) := by decide +kernel
theorem dX2_bestRule_6 : decode cX2_bestRule 6 = .ok (.bipush 9, 2) := by decide +kernel
theorem dX2_bestRule_8 : decode cX2_bestRule 8 = .ok (.if_icmp .le 13, 3) := by decide +kernel
theorem dX2_bestRule_11 : decode cX2_bestRule 11 = .ok (.new 52, 3) := by decide +kernel
theorem dX2_bestRule_14 : decode cX2_bestRule 14 = .ok (.dup, 1) := by decide +kernel
theorem dX2_bestRule_15 : decode cX2_bestRule 15 = .ok (.ldc 177, 2) := by decide +kernel
theorem dX2_bestRule_17 : decode cX2_bestRule 17 = .ok (.invokespecial 56, 3) := by decide +kernel
theorem dX2_bestRule_20 : decode cX2_bestRule 20 = .ok (.athrow, 1) := by decide +kernel
theorem dX2_bestRule_21 : decode cX2_bestRule 21 = .ok (.iconst 0, 1) := by decide +kernel
theorem dX2_bestRule_22 : decode cX2_bestRule 22 = .ok (.istore_n 2, 1) := by decide +kernel
theorem dX2_bestRule_23 : decode cX2_bestRule 23 = .ok (.aload_n 0, 1) := by decide +kernel
theorem dX2_bestRule_24 : decode cX2_bestRule 24 = .ok (.iconst 0, 1) := by decide +kernel
theorem dX2_bestRule_25 : decode cX2_bestRule 25 = .ok (.iload_n 1, 1) := by decide +kernel
theorem dX2_bestRule_26 : decode cX2_bestRule 26 = .ok (.invokevirtual 179, 3) := by decide +kernel
theorem dX2_bestRule_29 : decode cX2_bestRule 29 = .ok (.istore_n 3, 1) := by decide +kernel
theorem dX2_bestRule_30 : decode cX2_bestRule 30 = .ok (.iconst 1, 1) := by decide +kernel
theorem dX2_bestRule_31 : decode cX2_bestRule 31 = .ok (.istore 4, 2) := by decide +kernel
theorem dX2_bestRule_33 : decode cX2_bestRule 33 = .ok (.iload 4, 2) := by decide +kernel
theorem dX2_bestRule_35 : decode cX2_bestRule 35 = .ok (.iconst 3, 1) := by decide +kernel
theorem dX2_bestRule_36 : decode cX2_bestRule 36 = .ok (.if_icmp .ge 30, 3) := by decide +kernel
theorem dX2_bestRule_39 : decode cX2_bestRule 39 = .ok (.aload_n 0, 1) := by decide +kernel
theorem dX2_bestRule_40 : decode cX2_bestRule 40 = .ok (.iload 4, 2) := by decide +kernel
theorem dX2_bestRule_42 : decode cX2_bestRule 42 = .ok (.iload_n 1, 1) := by decide +kernel
theorem dX2_bestRule_43 : decode cX2_bestRule 43 = .ok (.invokevirtual 179, 3) := by decide +kernel
theorem dX2_bestRule_46 : decode cX2_bestRule 46 = .ok (.istore 5, 2) := by decide +kernel
theorem dX2_bestRule_48 : decode cX2_bestRule 48 = .ok (.iload 5, 2) := by decide +kernel
theorem dX2_bestRule_50 : decode cX2_bestRule 50 = .ok (.iload_n 3, 1) := by decide +kernel
theorem dX2_bestRule_51 : decode cX2_bestRule 51 = .ok (.if_icmp .ge 9, 3) := by decide +kernel
theorem dX2_bestRule_54 : decode cX2_bestRule 54 = .ok (.iload 4, 2) := by decide +kernel
theorem dX2_bestRule_56 : decode cX2_bestRule 56 = .ok (.istore_n 2, 1) := by decide +kernel
theorem dX2_bestRule_57 : decode cX2_bestRule 57 = .ok (.iload 5, 2) := by decide +kernel
theorem dX2_bestRule_59 : decode cX2_bestRule 59 = .ok (.istore_n 3, 1) := by decide +kernel
theorem dX2_bestRule_60 : decode cX2_bestRule 60 = .ok (.iinc 4 1, 3) := by decide +kernel
theorem dX2_bestRule_63 : decode cX2_bestRule 63 = .ok (.goto (-30), 3) := by decide +kernel
theorem dX2_bestRule_66 : decode cX2_bestRule 66 = .ok (.iload_n 2, 1) := by decide +kernel
theorem dX2_bestRule_67 : decode cX2_bestRule 67 = .ok (.ireturn, 1) := by decide +kernel
set_option maxRecDepth 20000 in
theorem ggX2_amplification_X1_writes : GoodIn wsX2_amplification wsX1_writes := goodIn_r _ [6, 7, 8, 9, 5, 10, 23, 24, 25, 26, 27, 28, 29, 30, 31, 32, 33, 34, 35, 36, 37, 38, 39] (by decide +kernel) (by decide +kernel)
set_option maxRecDepth 20000 in
theorem gX2_amplification_X1_writes : GoodIn wsX2_amplification (wsV RX2 182 RX1 yX1_writes wsX1_writes) := goodIn_app (goodIn_of _ (by decide +kernel)) ggX2_amplification_X1_writes
set_option maxRecDepth 20000 in
theorem ggX2_amplification_X1_copies : GoodIn wsX2_amplification wsX1_copies := goodIn_r _ [14, 15, 23, 24, 25, 26, 27, 28, 29, 30, 31, 32, 33, 34, 35, 36, 37, 38, 39] (by decide +kernel) (by decide +kernel)
set_option maxRecDepth 20000 in
theorem gX2_amplification_X1_copies : GoodIn wsX2_amplification (wsV RX2 93 RX1 yX1_copies wsX1_copies) := goodIn_app (goodIn_of _ (by decide +kernel)) ggX2_amplification_X1_copies
theorem dX2_amplification_0 : decode cX2_amplification 0 = .ok (.aload_n 0, 1) := by decide +kernel
theorem dX2_amplification_1 : decode cX2_amplification 1 = .ok (.getfield 10, 3) := by decide +kernel
theorem dX2_amplification_4 : decode cX2_amplification 4 = .ok (.invokevirtual 182, 3) := by decide +kernel
theorem dX2_amplification_7 : decode cX2_amplification 7 = .ok (.istore_n 1, 1) := by decide +kernel
theorem dX2_amplification_8 : decode cX2_amplification 8 = .ok (.iload_n 1, 1) := by decide +kernel
theorem dX2_amplification_9 : decode cX2_amplification 9 = .ok (.ifCond .ne 5, 3) := by decide +kernel
theorem dX2_amplification_12 : decode cX2_amplification 12 = .ok (.dconst 1, 1) := by decide +kernel
theorem dX2_amplification_13 : decode cX2_amplification 13 = .ok (.dreturn, 1) := by decide +kernel
theorem dX2_amplification_14 : decode cX2_amplification 14 = .ok (.iload_n 1, 1) := by decide +kernel
theorem dX2_amplification_15 : decode cX2_amplification 15 = .ok (.aload_n 0, 1) := by decide +kernel
theorem dX2_amplification_16 : decode cX2_amplification 16 = .ok (.getfield 10, 3) := by decide +kernel
theorem dX2_amplification_19 : decode cX2_amplification 19 = .ok (.invokevirtual 93, 3) := by decide +kernel
theorem dX2_amplification_22 : decode cX2_amplification 22 = .ok (.iadd, 1) := by decide +kernel
theorem dX2_amplification_23 : decode cX2_amplification 23 = .ok (.i2d, 1) := by decide +kernel
theorem dX2_amplification_24 : decode cX2_amplification 24 = .ok (.iload_n 1, 1) := by decide +kernel
theorem dX2_amplification_25 : decode cX2_amplification 25 = .ok (.i2d, 1) := by decide +kernel
theorem dX2_amplification_26 : decode cX2_amplification 26 = .ok (.ddiv, 1) := by decide +kernel
theorem dX2_amplification_27 : decode cX2_amplification 27 = .ok (.dreturn, 1) := by decide +kernel
set_option maxRecDepth 20000 in
theorem ggX2_digest_X2_count : GoodIn wsX2_digest wsX2_count := goodIn_ca (goodIn_r _ [10, 11, 12, 13, 2, 14, 15, 9, 16, 17, 18, 19, 20, 21, 22, 23, 24, 25, 26, 27, 28, 29, 30, 31, 32, 33, 34, 35, 36, 37, 38, 39, 40, 41, 42, 43, 44, 45, 46, 47, 48, 49, 50, 51, 52, 53, 54, 55, 56, 57, 58, 59, 60, 61, 62, 63, 64, 65, 66, 67, 68, 222, 223, 224, 225, 226, 227, 228, 229, 230, 231, 232, 233, 234, 235, 236, 237, 238, 239, 240, 241, 242, 243, 244, 245] (by decide +kernel) (by decide +kernel)) (goodIn_sub (fun _ h => List.mem_cons_of_mem _ (List.mem_append_right _ h)) (by decide +kernel))
set_option maxRecDepth 20000 in
theorem gX2_digest_X2_count : GoodIn wsX2_digest (wsV RX2 187 RX2 yX2_count wsX2_count) := goodIn_app (goodIn_of _ (by decide +kernel)) ggX2_digest_X2_count
set_option maxRecDepth 20000 in
theorem ggX2_digest_X2_mixed : GoodIn wsX2_digest wsX2_mixed := goodIn_r _ [71, 72] (by decide +kernel) (by decide +kernel)
set_option maxRecDepth 20000 in
theorem gX2_digest_X2_mixed : GoodIn wsX2_digest (va_wsS RX2 190 yX2_mixed wsX2_mixed) := goodIn_app (goodIn_of _ (by decide +kernel)) ggX2_digest_X2_mixed
set_option maxRecDepth 20000 in
theorem ggX2_digest_X2_withPages : GoodIn wsX2_digest wsX2_withPages := goodIn_r _ [76, 2, 77, 78, 79, 20, 80, 81, 82, 37, 83, 84, 85, 86, 87, 88, 89, 90, 91, 92, 69, 70, 9, 71, 72, 222, 223, 224, 225, 226, 227, 228, 229, 230, 231, 232, 233, 234, 235, 236, 237, 238, 239, 240, 241, 242, 243, 244, 245] (by decide +kernel) (by decide +kernel)
set_option maxRecDepth 20000 in
theorem gX2_digest_X2_withPages : GoodIn wsX2_digest (wsV RX2 194 RX2 yX2_withPages wsX2_withPages) := goodIn_app (goodIn_of _ (by decide +kernel)) ggX2_digest_X2_withPages
set_option maxRecDepth 20000 in
theorem ggX2_digest_X2_withBlocks : GoodIn wsX2_digest wsX2_withBlocks := goodIn_r _ [96, 2, 97, 98, 99, 100, 20, 101, 102, 22, 24, 47, 103, 104, 105, 106, 107, 108, 109, 110, 68, 111, 112, 113, 114, 82, 115, 116, 117, 118, 119, 81, 120, 121, 122, 123, 124, 125, 126, 69, 70, 9, 71, 72, 222, 223, 224, 225, 226, 227, 228, 229, 230, 231, 232, 233, 234, 235, 236, 237, 238, 239, 240, 241, 242, 243, 244, 245] (by decide +kernel) (by decide +kernel)
set_option maxRecDepth 20000 in
theorem gX2_digest_X2_withBlocks : GoodIn wsX2_digest (wsV RX2 198 RX2 yX2_withBlocks wsX2_withBlocks) := goodIn_app (goodIn_of _ (by decide +kernel)) ggX2_digest_X2_withBlocks
set_option maxRecDepth 20000 in
theorem ggX2_digest_X2_withStreams : GoodIn wsX2_digest wsX2_withStreams := goodIn_r _ [130, 2, 131, 132, 133, 20, 134, 32, 42, 135, 136, 137, 138, 139, 82, 89, 90, 91, 92, 81, 140, 141, 142, 143, 69, 70, 9, 71, 72, 222, 223, 224, 225, 226, 227, 228, 229, 230, 231, 232, 233, 234, 235, 236, 237, 238, 239, 240, 241, 242, 243, 244, 245] (by decide +kernel) (by decide +kernel)
set_option maxRecDepth 20000 in
theorem gX2_digest_X2_withStreams : GoodIn wsX2_digest (wsV RX2 201 RX2 yX2_withStreams wsX2_withStreams) := goodIn_app (goodIn_of _ (by decide +kernel)) ggX2_digest_X2_withStreams
set_option maxRecDepth 20000 in
theorem ggX2_digest_X2_withForecasts : GoodIn wsX2_digest wsX2_withForecasts := goodIn_r _ [147, 148, 149, 150, 9, 151, 152, 2, 153, 154, 155, 20, 156, 81, 82, 37, 83, 84, 119, 102, 24, 22, 47, 68, 32, 42, 135, 67, 23, 157, 158, 159, 160, 56, 57, 54, 58, 161, 162, 163, 164, 165, 166, 167, 168, 169, 170, 171, 172, 173, 59, 60, 61, 62, 63, 64, 65, 66, 174, 175, 176, 177, 115, 116, 117, 118, 178, 179, 180, 181, 182, 183, 184, 185, 186, 187, 188, 189, 190, 191, 192, 193, 194, 39, 40, 41, 195, 86, 87, 88, 89, 90, 91, 92, 196, 44, 45, 46, 25, 26, 27, 69, 70, 71, 72, 222, 223, 224, 225, 226, 227, 228, 229, 230, 231, 232, 233, 234, 235, 236, 237, 238, 239, 240, 241, 242, 243, 244, 245] (by decide +kernel) (by decide +kernel)
set_option maxRecDepth 20000 in
theorem gX2_digest_X2_withForecasts : GoodIn wsX2_digest (wsV RX2 204 RX2 yX2_withForecasts wsX2_withForecasts) := goodIn_app (goodIn_of _ (by decide +kernel)) ggX2_digest_X2_withForecasts
set_option maxRecDepth 20000 in
theorem ggX2_digest_X2_ifRewritten : GoodIn wsX2_digest wsX2_ifRewritten := goodIn_ca (goodIn_r _ [200, 11, 12, 2, 3, 201, 202, 203, 9, 204, 152, 205, 153, 154, 155, 20, 156, 81, 82, 37, 83, 84, 119, 102, 24, 22, 47, 68, 32, 42, 135, 67, 23, 157, 158, 159, 160, 56, 57, 54, 58, 161, 162, 163, 164, 206, 90, 91, 92, 165, 166, 167, 168, 169, 170, 171, 172, 173, 59, 60, 61, 62, 63, 64, 65, 66, 174, 175, 176, 177, 115, 116, 117, 118, 178, 179, 180, 181, 182, 183, 184, 185, 186, 187, 188, 189, 194, 39, 40, 41, 222, 223, 224, 225, 226, 227, 228, 229, 230, 231, 232, 233, 234, 235, 236, 237, 238, 239, 240, 241, 242, 243, 244, 245] (by decide +kernel) (by decide +kernel)) (goodIn_sub (fun _ h => List.mem_cons_of_mem _ (List.mem_append_right _ h)) (by decide +kernel))
set_option maxRecDepth 20000 in
theorem gX2_digest_X2_ifRewritten : GoodIn wsX2_digest (wsV RX2 207 RX2 yX2_ifRewritten wsX2_ifRewritten) := goodIn_app (goodIn_of _ (by decide +kernel)) ggX2_digest_X2_ifRewritten
set_option maxRecDepth 20000 in
theorem ggX2_digest_X2_bestRule : GoodIn wsX2_digest wsX2_bestRule := goodIn_ca (goodIn_r _ [210, 11, 12, 201, 202, 203, 9, 204, 152, 2, 3, 205, 153, 154, 155, 20, 156, 81, 82, 37, 83, 84, 119, 102, 24, 22, 47, 68, 32, 42, 135, 67, 23, 157, 158, 159, 160, 56, 57, 54, 58, 161, 162, 163, 164, 206, 90, 91, 92, 165, 166, 167, 168, 169, 170, 171, 172, 173, 59, 60, 61, 62, 63, 64, 65, 66, 174, 175, 176, 177, 115, 116, 117, 118, 178, 179, 180, 181, 182, 183, 184, 185, 186, 187, 188, 189, 194, 39, 40, 41, 222, 223, 224, 225, 226, 227, 228, 229, 230, 231, 232, 233, 234, 235, 236, 237, 238, 239, 240, 241, 242, 243, 244, 245] (by decide +kernel) (by decide +kernel)) (goodIn_sub (fun _ h => List.mem_cons_of_mem _ (List.mem_append_right _ h)) (by decide +kernel))
set_option maxRecDepth 20000 in
theorem gX2_digest_X2_bestRule : GoodIn wsX2_digest (wsV RX2 210 RX2 yX2_bestRule wsX2_bestRule) := goodIn_app (goodIn_of _ (by decide +kernel)) ggX2_digest_X2_bestRule
set_option maxRecDepth 20000 in
theorem ggX2_digest_X2_amplification : GoodIn wsX2_digest wsX2_amplification := goodIn_r _ [214, 2, 215, 34, 35, 20, 36, 37, 25, 26, 27, 194, 39, 40, 41, 42, 222, 223, 224, 225, 226, 227, 228, 229, 230, 231, 232, 233, 234, 235, 236, 237, 238, 239, 240, 241, 242, 243, 244, 245] (by decide +kernel) (by decide +kernel)
set_option maxRecDepth 20000 in
theorem gX2_digest_X2_amplification : GoodIn wsX2_digest (wsV RX2 213 RX2 yX2_amplification wsX2_amplification) := goodIn_app (goodIn_of _ (by decide +kernel)) ggX2_digest_X2_amplification
set_option maxRecDepth 20000 in
theorem ggX2_digest_X2_bitsOf : GoodIn wsX2_digest wsX2_bitsOf := goodIn_r _ [218, 219, 220, 221] (by decide +kernel) (by decide +kernel)
set_option maxRecDepth 20000 in
theorem gX2_digest_X2_bitsOf : GoodIn wsX2_digest (va_wsS RX2 217 yX2_bitsOf wsX2_bitsOf) := goodIn_app (goodIn_of _ (by decide +kernel)) ggX2_digest_X2_bitsOf
theorem dX2_digest_0 : decode cX2_digest 0 = .ok (.ldc2_w 185, 3) := by decide +kernel
theorem dX2_digest_3 : decode cX2_digest 3 = .ok (.lstore_n 1, 1) := by decide +kernel
theorem dX2_digest_4 : decode cX2_digest 4 = .ok (.iconst 0, 1) := by decide +kernel
theorem dX2_digest_5 : decode cX2_digest 5 = .ok (.istore_n 3, 1) := by decide +kernel
theorem dX2_digest_6 : decode cX2_digest 6 = .ok (.iload_n 3, 1) := by decide +kernel
theorem dX2_digest_7 : decode cX2_digest 7 = .ok (.bipush 12, 2) := by decide +kernel
theorem dX2_digest_9 : decode cX2_digest 9 = .ok (.if_icmp .ge 20, 3) := by decide +kernel
theorem dX2_digest_12 : decode cX2_digest 12 = .ok (.lload_n 1, 1) := by decide +kernel
theorem dX2_digest_13 : decode cX2_digest 13 = .ok (.aload_n 0, 1) := by decide +kernel
theorem dX2_digest_14 : decode cX2_digest 14 = .ok (.iload_n 3, 1) := by decide +kernel
theorem dX2_digest_15 : decode cX2_digest 15 = .ok (.invokevirtual 187, 3) := by decide +kernel
theorem dX2_digest_18 : decode cX2_digest 18 = .ok (.i2l, 1) := by decide +kernel
theorem dX2_digest_19 : decode cX2_digest 19 = .ok (.invokestatic 190, 3) := by decide +kernel
theorem dX2_digest_22 : decode cX2_digest 22 = .ok (.lstore_n 1, 1) := by decide +kernel
theorem dX2_digest_23 : decode cX2_digest 23 = .ok (.iinc 3 1, 3) := by decide +kernel
theorem dX2_digest_26 : decode cX2_digest 26 = .ok (.goto (-20), 3) := by decide +kernel
theorem dX2_digest_29 : decode cX2_digest 29 = .ok (.lload_n 1, 1) := by decide +kernel
theorem dX2_digest_30 : decode cX2_digest 30 = .ok (.aload_n 0, 1) := by decide +kernel
theorem dX2_digest_31 : decode cX2_digest 31 = .ok (.getfield 10, 3) := by decide +kernel
theorem dX2_digest_34 : decode cX2_digest 34 = .ok (.getfield 112, 3) := by decide +kernel
theorem dX2_digest_37 : decode cX2_digest 37 = .ok (.iconst 0, 1) := by decide +kernel
theorem dX2_digest_38 : decode cX2_digest 38 = .ok (.iaload, 1) := by decide +kernel
theorem dX2_digest_39 : decode cX2_digest 39 = .ok (.i2l, 1) := by decide +kernel
theorem dX2_digest_40 : decode cX2_digest 40 = .ok (.invokestatic 190, 3) := by decide +kernel
theorem dX2_digest_43 : decode cX2_digest 43 = .ok (.lstore_n 1, 1) := by decide +kernel
theorem dX2_digest_44 : decode cX2_digest 44 = .ok (.lload_n 1, 1) := by decide +kernel
theorem dX2_digest_45 : decode cX2_digest 45 = .ok (.aload_n 0, 1) := by decide +kernel
theorem dX2_digest_46 : decode cX2_digest 46 = .ok (.getfield 10, 3) := by decide +kernel
theorem dX2_digest_49 : decode cX2_digest 49 = .ok (.getfield 112, 3) := by decide +kernel
theorem dX2_digest_52 : decode cX2_digest 52 = .ok (.iconst 1, 1) := by decide +kernel
theorem dX2_digest_53 : decode cX2_digest 53 = .ok (.iaload, 1) := by decide +kernel
theorem dX2_digest_54 : decode cX2_digest 54 = .ok (.i2l, 1) := by decide +kernel
theorem dX2_digest_55 : decode cX2_digest 55 = .ok (.invokestatic 190, 3) := by decide +kernel
theorem dX2_digest_58 : decode cX2_digest 58 = .ok (.lstore_n 1, 1) := by decide +kernel
theorem dX2_digest_59 : decode cX2_digest 59 = .ok (.aload_n 0, 1) := by decide +kernel
theorem dX2_digest_60 : decode cX2_digest 60 = .ok (.lload_n 1, 1) := by decide +kernel
theorem dX2_digest_61 : decode cX2_digest 61 = .ok (.invokevirtual 194, 3) := by decide +kernel
theorem dX2_digest_64 : decode cX2_digest 64 = .ok (.lstore_n 1, 1) := by decide +kernel
theorem dX2_digest_65 : decode cX2_digest 65 = .ok (.aload_n 0, 1) := by decide +kernel
theorem dX2_digest_66 : decode cX2_digest 66 = .ok (.lload_n 1, 1) := by decide +kernel
theorem dX2_digest_67 : decode cX2_digest 67 = .ok (.invokevirtual 198, 3) := by decide +kernel
theorem dX2_digest_70 : decode cX2_digest 70 = .ok (.lstore_n 1, 1) := by decide +kernel
theorem dX2_digest_71 : decode cX2_digest 71 = .ok (.aload_n 0, 1) := by decide +kernel
theorem dX2_digest_72 : decode cX2_digest 72 = .ok (.lload_n 1, 1) := by decide +kernel
theorem dX2_digest_73 : decode cX2_digest 73 = .ok (.invokevirtual 201, 3) := by decide +kernel
theorem dX2_digest_76 : decode cX2_digest 76 = .ok (.lstore_n 1, 1) := by decide +kernel
theorem dX2_digest_77 : decode cX2_digest 77 = .ok (.aload_n 0, 1) := by decide +kernel
theorem dX2_digest_78 : decode cX2_digest 78 = .ok (.lload_n 1, 1) := by decide +kernel
theorem dX2_digest_79 : decode cX2_digest 79 = .ok (.invokevirtual 204, 3) := by decide +kernel
theorem dX2_digest_82 : decode cX2_digest 82 = .ok (.lstore_n 1, 1) := by decide +kernel
theorem dX2_digest_83 : decode cX2_digest 83 = .ok (.lload_n 1, 1) := by decide +kernel
theorem dX2_digest_84 : decode cX2_digest 84 = .ok (.aload_n 0, 1) := by decide +kernel
theorem dX2_digest_85 : decode cX2_digest 85 = .ok (.iconst 1, 1) := by decide +kernel
theorem dX2_digest_86 : decode cX2_digest 86 = .ok (.invokevirtual 207, 3) := by decide +kernel
theorem dX2_digest_89 : decode cX2_digest 89 = .ok (.i2l, 1) := by decide +kernel
theorem dX2_digest_90 : decode cX2_digest 90 = .ok (.invokestatic 190, 3) := by decide +kernel
theorem dX2_digest_93 : decode cX2_digest 93 = .ok (.lstore_n 1, 1) := by decide +kernel
theorem dX2_digest_94 : decode cX2_digest 94 = .ok (.lload_n 1, 1) := by decide +kernel
theorem dX2_digest_95 : decode cX2_digest 95 = .ok (.aload_n 0, 1) := by decide +kernel
theorem dX2_digest_96 : decode cX2_digest 96 = .ok (.iconst 2, 1) := by decide +kernel
theorem dX2_digest_97 : decode cX2_digest 97 = .ok (.invokevirtual 210, 3) := by decide +kernel
theorem dX2_digest_100 : decode cX2_digest 100 = .ok (.i2l, 1) := by decide +kernel
theorem dX2_digest_101 : decode cX2_digest 101 = .ok (.invokestatic 190, 3) := by decide +kernel
theorem dX2_digest_104 : decode cX2_digest 104 = .ok (.lstore_n 1, 1) := by decide +kernel
theorem dX2_digest_105 : decode cX2_digest 105 = .ok (.lload_n 1, 1) := by decide +kernel
theorem dX2_digest_106 : decode cX2_digest 106 = .ok (.aload_n 0, 1) := by decide +kernel
theorem dX2_digest_107 : decode cX2_digest 107 = .ok (.invokevirtual 213, 3) := by decide +kernel
theorem dX2_digest_110 : decode cX2_digest 110 = .ok (.invokestatic 217, 3) := by decide +kernel
theorem dX2_digest_113 : decode cX2_digest 113 = .ok (.invokestatic 190, 3) := by decide +kernel
theorem dX2_digest_116 : decode cX2_digest 116 = .ok (.lstore_n 1, 1) := by decide +kernel
theorem dX2_digest_117 : decode cX2_digest 117 = .ok (.lload_n 1, 1) := by decide +kernel
theorem dX2_digest_118 : decode cX2_digest 118 = .ok (.aload_n 0, 1) := by decide +kernel
theorem dX2_digest_119 : decode cX2_digest 119 = .ok (.getfield 31, 3) := by decide +kernel
theorem dX2_digest_122 : decode cX2_digest 122 = .ok (.i2l, 1) := by decide +kernel
theorem dX2_digest_123 : decode cX2_digest 123 = .ok (.invokestatic 190, 3) := by decide +kernel
theorem dX2_digest_126 : decode cX2_digest 126 = .ok (.lstore_n 1, 1) := by decide +kernel
theorem dX2_digest_127 : decode cX2_digest 127 = .ok (.iconst 0, 1) := by decide +kernel
theorem dX2_digest_128 : decode cX2_digest 128 = .ok (.istore_n 3, 1) := by decide +kernel
theorem dX2_digest_129 : decode cX2_digest 129 = .ok (.iload_n 3, 1) := by decide +kernel
theorem dX2_digest_130 : decode cX2_digest 130 = .ok (.aload_n 0, 1) := by decide +kernel
theorem dX2_digest_131 : decode cX2_digest 131 = .ok (.getfield 31, 3) := by decide +kernel
theorem dX2_digest_134 : decode cX2_digest 134 = .ok (.if_icmp .ge 21, 3) := by decide +kernel
theorem dX2_digest_137 : decode cX2_digest 137 = .ok (.lload_n 1, 1) := by decide +kernel
theorem dX2_digest_138 : decode cX2_digest 138 = .ok (.aload_n 0, 1) := by decide +kernel
theorem dX2_digest_139 : decode cX2_digest 139 = .ok (.getfield 27, 3) := by decide +kernel
theorem dX2_digest_142 : decode cX2_digest 142 = .ok (.iload_n 3, 1) := by decide +kernel
theorem dX2_digest_143 : decode cX2_digest 143 = .ok (.iaload, 1) := by decide +kernel
theorem dX2_digest_144 : decode cX2_digest 144 = .ok (.i2l, 1) := by decide +kernel
theorem dX2_digest_145 : decode cX2_digest 145 = .ok (.invokestatic 190, 3) := by decide +kernel
theorem dX2_digest_148 : decode cX2_digest 148 = .ok (.lstore_n 1, 1) := by decide +kernel
theorem dX2_digest_149 : decode cX2_digest 149 = .ok (.iinc 3 1, 3) := by decide +kernel
theorem dX2_digest_152 : decode cX2_digest 152 = .ok (.goto (-23), 3) := by decide +kernel
theorem dX2_digest_155 : decode cX2_digest 155 = .ok (.lload_n 1, 1) := by decide +kernel
theorem dX2_digest_156 : decode cX2_digest 156 = .ok (.lreturn, 1) := by decide +kernel
theorem dX2_isIn_0 : decode cX2_isIn 0 = .ok (.iload_n 0, 1) := by decide +kernel
theorem dX2_isIn_1 : decode cX2_isIn 1 = .ok (.ifCond .lt 12, 3) := by decide +kernel
theorem dX2_isIn_4 : decode cX2_isIn 4 = .ok (.iload_n 0, 1) := by decide +kernel
theorem dX2_isIn_5 : decode cX2_isIn 5 = .ok (.iload_n 1, 1) := by decide +kernel
theorem dX2_isIn_6 : decode cX2_isIn 6 = .ok (.if_icmp .ge 7, 3) := by decide +kernel
theorem dX2_isIn_9 : decode cX2_isIn 9 = .ok (.iconst 1, 1) := by decide +kernel
theorem dX2_isIn_10 : decode cX2_isIn 10 = .ok (.goto 4, 3) := by decide +kernel
theorem dX2_isIn_13 : decode cX2_isIn 13 = .ok (.iconst 0, 1) := by decide +kernel
theorem dX2_isIn_14 : decode cX2_isIn 14 = .ok (.ireturn, 1) := by decide +kernel
set_option maxRecDepth 20000 in
theorem ggX2_isSettingValue_X2_isIn : GoodIn wsX2_isSettingValue wsX2_isIn := goodIn_r _ [4] (by decide +kernel) (by decide +kernel)
set_option maxRecDepth 20000 in
theorem gX2_isSettingValue_X2_isIn : GoodIn wsX2_isSettingValue (va_wsS RX2 41 yX2_isIn wsX2_isIn) := goodIn_app (goodIn_of _ (by decide +kernel)) ggX2_isSettingValue_X2_isIn
theorem dX2_isSettingValue_0 : decode cX2_isSettingValue 0 = .ok (.iload_n 0, 1) := by decide +kernel
theorem dX2_isSettingValue_1 : decode cX2_isSettingValue 1 = .ok (.ifCond .ne 11, 3) := by decide +kernel
theorem dX2_isSettingValue_4 : decode cX2_isSettingValue 4 = .ok (.iload_n 1, 1) := by decide +kernel
theorem dX2_isSettingValue_5 : decode cX2_isSettingValue 5 = .ok (.iconst 3, 1) := by decide +kernel
theorem dX2_isSettingValue_6 : decode cX2_isSettingValue 6 = .ok (.invokestatic 41, 3) := by decide +kernel
theorem dX2_isSettingValue_9 : decode cX2_isSettingValue 9 = .ok (.goto 18, 3) := by decide +kernel
theorem dX2_isSettingValue_12 : decode cX2_isSettingValue 12 = .ok (.iload_n 1, 1) := by decide +kernel
theorem dX2_isSettingValue_13 : decode cX2_isSettingValue 13 = .ok (.iconst 2, 1) := by decide +kernel
theorem dX2_isSettingValue_14 : decode cX2_isSettingValue 14 = .ok (.if_icmp .lt 12, 3) := by decide +kernel
theorem dX2_isSettingValue_17 : decode cX2_isSettingValue 17 = .ok (.iload_n 1, 1) := by decide +kernel
theorem dX2_isSettingValue_18 : decode cX2_isSettingValue 18 = .ok (.iconst 4, 1) := by decide +kernel
theorem dX2_isSettingValue_19 : decode cX2_isSettingValue 19 = .ok (.if_icmp .gt 7, 3) := by decide +kernel
theorem dX2_isSettingValue_22 : decode cX2_isSettingValue 22 = .ok (.iconst 1, 1) := by decide +kernel
theorem dX2_isSettingValue_23 : decode cX2_isSettingValue 23 = .ok (.goto 4, 3) := by decide +kernel
theorem dX2_isSettingValue_26 : decode cX2_isSettingValue 26 = .ok (.iconst 0, 1) := by decide +kernel
theorem dX2_isSettingValue_27 : decode cX2_isSettingValue 27 = .ok (.ireturn, 1) := by decide +kernel
set_option maxRecDepth 20000 in
theorem ggX2_saveState_X2_dropOldest : GoodIn wsX2_saveState wsX2_dropOldest := goodIn_r _ [8, 2, 1, 42, 43, 44, 45, 46, 47, 48] (by decide +kernel) (by decide +kernel)
set_option maxRecDepth 20000 in
theorem gX2_saveState_X2_dropOldest : GoodIn wsX2_saveState (wsV RX2 221 RX2 yX2_dropOldest wsX2_dropOldest) := goodIn_app (goodIn_of _ (by decide +kernel)) ggX2_saveState_X2_dropOldest
set_option maxRecDepth 20000 in
theorem ggX2_saveState_X1_becomeLike : GoodIn wsX2_saveState wsX1_becomeLike := goodIn_r _ [13, 14, 15, 16, 17, 18, 19, 20, 21, 22, 23, 24, 25, 26, 27, 28, 29, 30, 31, 32, 12, 33, 34, 35, 36, 37, 38, 39, 40, 41, 49, 50, 51, 52, 53, 54, 55, 56, 57, 58, 59, 60, 61, 62, 63, 64, 65] (by decide +kernel) (by decide +kernel)
set_option maxRecDepth 20000 in
theorem gX2_saveState_X1_becomeLike : GoodIn wsX2_saveState (wsV RX2 224 RX1 yX1_becomeLike wsX1_becomeLike) := goodIn_app (goodIn_of _ (by decide +kernel)) ggX2_saveState_X1_becomeLike
theorem dX2_saveState_0 : decode cX2_saveState 0 = .ok (.aload_n 0, 1) := by decide +kernel
theorem dX2_saveState_1 : decode cX2_saveState 1 = .ok (.getfield 23, 3) := by decide +kernel
theorem dX2_saveState_4 : decode cX2_saveState 4 = .ok (.bipush 6, 2) := by decide +kernel
theorem dX2_saveState_6 : decode cX2_saveState 6 = .ok (.if_icmp .ne 7, 3) := by decide +kernel
theorem dX2_saveState_9 : decode cX2_saveState 9 = .ok (.aload_n 0, 1) := by decide +kernel
theorem dX2_saveState_10 : decode cX2_saveState 10 = .ok (.invokevirtual 221, 3) := by decide +kernel
theorem dX2_saveState_13 : decode cX2_saveState 13 = .ok (.aload_n 0, 1) := by decide +kernel
theorem dX2_saveState_14 : decode cX2_saveState 14 = .ok (.getfield 19, 3) := by decide +kernel
theorem dX2_saveState_17 : decode cX2_saveState 17 = .ok (.aload_n 0, 1) := by decide +kernel
theorem dX2_saveState_18 : decode cX2_saveState 18 = .ok (.getfield 23, 3) := by decide +kernel
theorem dX2_saveState_21 : decode cX2_saveState 21 = .ok (.aaload, 1) := by decide +kernel
theorem dX2_saveState_22 : decode cX2_saveState 22 = .ok (.aload_n 0, 1) := by decide +kernel
theorem dX2_saveState_23 : decode cX2_saveState 23 = .ok (.getfield 10, 3) := by decide +kernel
theorem dX2_saveState_26 : decode cX2_saveState 26 = .ok (.invokevirtual 224, 3) := by decide +kernel
theorem dX2_saveState_29 : decode cX2_saveState 29 = .ok (.aload_n 0, 1) := by decide +kernel
theorem dX2_saveState_30 : decode cX2_saveState 30 = .ok (.dup, 1) := by decide +kernel
theorem dX2_saveState_31 : decode cX2_saveState 31 = .ok (.getfield 23, 3) := by decide +kernel
theorem dX2_saveState_34 : decode cX2_saveState 34 = .ok (.iconst 1, 1) := by decide +kernel
theorem dX2_saveState_35 : decode cX2_saveState 35 = .ok (.iadd, 1) := by decide +kernel
theorem dX2_saveState_36 : decode cX2_saveState 36 = .ok (.putfield 23, 3) := by decide +kernel
theorem dX2_saveState_39 : decode cX2_saveState 39 = .ok (.return_, 1) := by decide +kernel
theorem dX2_dropOldest_0 : decode cX2_dropOldest 0 = .ok (.aload_n 0, 1) := by decide +kernel
theorem dX2_dropOldest_1 : decode cX2_dropOldest 1 = .ok (.getfield 19, 3) := by decide +kernel
theorem dX2_dropOldest_4 : decode cX2_dropOldest 4 = .ok (.iconst 0, 1) := by decide +kernel
theorem dX2_dropOldest_5 : decode cX2_dropOldest 5 = .ok (.aaload, 1) := by decide +kernel
theorem dX2_dropOldest_6 : decode cX2_dropOldest 6 = .ok (.astore_n 1, 1) := by decide +kernel
theorem dX2_dropOldest_7 : decode cX2_dropOldest 7 = .ok (.iconst 1, 1) := by decide +kernel
theorem dX2_dropOldest_8 : decode cX2_dropOldest 8 = .ok (.istore_n 2, 1) := by decide +kernel
theorem dX2_dropOldest_9 : decode cX2_dropOldest 9 = .ok (.iload_n 2, 1) := by decide +kernel
theorem dX2_dropOldest_10 : decode cX2_dropOldest 10 = .ok (.bipush 6, 2) := by decide +kernel
theorem dX2_dropOldest_12 : decode cX2_dropOldest 12 = .ok (.if_icmp .ge 23, 3) := by decide +kernel
theorem dX2_dropOldest_15 : decode cX2_dropOldest 15 = .ok (.aload_n 0, 1) := by decide +kernel
theorem dX2_dropOldest_16 : decode cX2_dropOldest 16 = .ok (.getfield 19, 3) := by decide +kernel
theorem dX2_dropOldest_19 : decode cX2_dropOldest 19 = .ok (.iload_n 2, 1) := by decide +kernel
theorem dX2_dropOldest_20 : decode cX2_dropOldest 20 = .ok (.iconst 1, 1) := by decide +kernel
theorem dX2_dropOldest_21 : decode cX2_dropOldest 21 = .ok (.isub, 1) := by decide +kernel
theorem dX2_dropOldest_22 : decode cX2_dropOldest 22 = .ok (.aload_n 0, 1) := by decide +kernel
theorem dX2_dropOldest_23 : decode cX2_dropOldest 23 = .ok (.getfield 19, 3) := by decide +kernel
theorem dX2_dropOldest_26 : decode cX2_dropOldest 26 = .ok (.iload_n 2, 1) := by decide +kernel
theorem dX2_dropOldest_27 : decode cX2_dropOldest 27 = .ok (.aaload, 1) := by decide +kernel
theorem dX2_dropOldest_28 : decode cX2_dropOldest 28 = .ok (.aastore, 1) := by decide +kernel
theorem dX2_dropOldest_29 : decode cX2_dropOldest 29 = .ok (.iinc 2 1, 3) := by decide +kernel
theorem dX2_dropOldest_32 : decode cX2_dropOldest 32 = .ok (.goto (-23), 3) := by decide +kernel
theorem dX2_dropOldest_35 : decode cX2_dropOldest 35 = .ok (.aload_n 0, 1) := by decide +kernel
theorem dX2_dropOldest_36 : decode cX2_dropOldest 36 = .ok (.getfield 19, 3) := by decide +kernel
theorem dX2_dropOldest_39 : decode cX2_dropOldest 39 = .ok (.iconst 5, 1) := by decide +kernel
theorem dX2_dropOldest_40 : decode cX2_dropOldest 40 = .ok (.aload_n 1, 1) := by decide +kernel
theorem dX2_dropOldest_41 : decode cX2_dropOldest 41 = .ok (.aastore, 1) := by decide +kernel
theorem dX2_dropOldest_42 : decode cX2_dropOldest 42 = .ok (.aload_n 0, 1) := by decide +kernel
theorem dX2_dropOldest_43 : decode cX2_dropOldest 43 = .ok (.dup, 1) := by decide +kernel
theorem dX2_dropOldest_44 : decode cX2_dropOldest 44 = .ok (.getfield 23, 3) := by decide +kernel
theorem dX2_dropOldest_47 : decode cX2_dropOldest 47 = .ok (.iconst 1, 1) := by decide +kernel
theorem dX2_dropOldest_48 : decode cX2_dropOldest 48 = .ok (.isub, 1) := by decide +kernel
theorem dX2_dropOldest_49 : decode cX2_dropOldest 49 = .ok (.putfield 23, 3) := by decide +kernel
theorem dX2_dropOldest_52 : decode cX2_dropOldest 52 = .ok (.return_, 1) := by decide +kernel
set_option maxRecDepth 20000 in
theorem ggX2_readBuffer_X0_restart : GoodIn wsX2_readBuffer wsX0_restart := goodIn_r _ [8, 9, 51, 52, 53, 54] (by decide +kernel) (by decide +kernel)
set_option maxRecDepth 20000 in
theorem gX2_readBuffer_X0_restart : GoodIn wsX2_readBuffer (wsV RX2 128 RX0 yX0_restart wsX0_restart) := goodIn_app (goodIn_of _ (by decide +kernel)) ggX2_readBuffer_X0_restart
set_option maxRecDepth 20000 in
theorem ggX2_readBuffer_X0_accepts : GoodIn wsX2_readBuffer wsX0_accepts := goodIn_r _ [13, 9, 14, 15, 16, 17, 7, 18, 19, 20, 21, 22, 23, 24, 25, 26, 27, 28, 29, 30, 31, 32, 33, 34, 35, 36, 37, 38, 39, 40, 41, 42, 43, 51, 52, 53, 54] (by decide +kernel) (by decide +kernel)
set_option maxRecDepth 20000 in
theorem gX2_readBuffer_X0_accepts : GoodIn wsX2_readBuffer (wsV RX2 131 RX0 yX0_accepts wsX0_accepts) := goodIn_app (goodIn_of _ (by decide +kernel)) ggX2_readBuffer_X0_accepts
theorem dX2_readBuffer_0 : decode cX2_readBuffer 0 = .ok (.aload_n 0, 1) := by decide +kernel
theorem dX2_readBuffer_1 : decode cX2_readBuffer 1 = .ok (.getfield 37, 3) := by decide +kernel
theorem dX2_readBuffer_4 : decode cX2_readBuffer 4 = .ok (.invokevirtual 128, 3) := by decide +kernel
theorem dX2_readBuffer_7 : decode cX2_readBuffer 7 = .ok (.iconst 0, 1) := by decide +kernel
theorem dX2_readBuffer_8 : decode cX2_readBuffer 8 = .ok (.istore_n 1, 1) := by decide +kernel
theorem dX2_readBuffer_9 : decode cX2_readBuffer 9 = .ok (.iload_n 1, 1) := by decide +kernel
theorem dX2_readBuffer_10 : decode cX2_readBuffer 10 = .ok (.aload_n 0, 1) := by decide +kernel
theorem dX2_readBuffer_11 : decode cX2_readBuffer 11 = .ok (.getfield 31, 3) := by decide +kernel
theorem dX2_readBuffer_14 : decode cX2_readBuffer 14 = .ok (.if_icmp .ge 27, 3) := by decide +kernel
theorem dX2_readBuffer_17 : decode cX2_readBuffer 17 = .ok (.aload_n 0, 1) := by decide +kernel
theorem dX2_readBuffer_18 : decode cX2_readBuffer 18 = .ok (.getfield 37, 3) := by decide +kernel
theorem dX2_readBuffer_21 : decode cX2_readBuffer 21 = .ok (.aload_n 0, 1) := by decide +kernel
theorem dX2_readBuffer_22 : decode cX2_readBuffer 22 = .ok (.getfield 27, 3) := by decide +kernel
theorem dX2_readBuffer_25 : decode cX2_readBuffer 25 = .ok (.iload_n 1, 1) := by decide +kernel
theorem dX2_readBuffer_26 : decode cX2_readBuffer 26 = .ok (.iaload, 1) := by decide +kernel
theorem dX2_readBuffer_27 : decode cX2_readBuffer 27 = .ok (.invokevirtual 131, 3) := by decide +kernel
theorem dX2_readBuffer_30 : decode cX2_readBuffer 30 = .ok (.ifCond .ne 5, 3) := by decide +kernel
theorem dX2_readBuffer_33 : decode cX2_readBuffer 33 = .ok (.iload_n 1, 1) := by decide +kernel
theorem dX2_readBuffer_34 : decode cX2_readBuffer 34 = .ok (.ireturn, 1) := by decide +kernel
theorem dX2_readBuffer_35 : decode cX2_readBuffer 35 = .ok (.iinc 1 1, 3) := by decide +kernel
theorem dX2_readBuffer_38 : decode cX2_readBuffer 38 = .ok (.goto (-29), 3) := by decide +kernel
theorem dX2_readBuffer_41 : decode cX2_readBuffer 41 = .ok (.aload_n 0, 1) := by decide +kernel
theorem dX2_readBuffer_42 : decode cX2_readBuffer 42 = .ok (.getfield 31, 3) := by decide +kernel
theorem dX2_readBuffer_45 : decode cX2_readBuffer 45 = .ok (.ireturn, 1) := by decide +kernel
set_option maxRecDepth 20000 in
theorem ggX2_tryWriting_X1_becomeLike : GoodIn wsX2_tryWriting wsX1_becomeLike := goodIn_r _ [7, 8, 9, 10, 11, 12, 13, 14, 15, 16, 17, 18, 19, 20, 21, 22, 23, 24, 25, 26, 6, 27, 28, 29, 30, 31, 32, 33, 34, 35, 80, 81, 82, 83, 84, 85, 86, 87, 88, 89, 90, 91, 92, 93, 94, 95, 96] (by decide +kernel) (by decide +kernel)
set_option maxRecDepth 20000 in
theorem gX2_tryWriting_X1_becomeLike : GoodIn wsX2_tryWriting (wsV RX2 224 RX1 yX1_becomeLike wsX1_becomeLike) := goodIn_app (goodIn_of _ (by decide +kernel)) ggX2_tryWriting_X1_becomeLike
set_option maxRecDepth 20000 in
theorem ggX2_tryWriting_X1_writePage : GoodIn wsX2_tryWriting wsX1_writePage := goodIn_r _ [39, 22, 9, 12, 10, 40, 41, 42, 6, 43, 23, 44, 45, 46, 47, 48, 15, 16, 49, 50, 51, 52, 18, 17, 53, 54, 55, 56, 11, 21, 57, 58, 59, 60, 13, 8, 61, 62, 63, 64, 19, 14, 65, 66, 67, 68, 20, 24, 69, 70, 71, 72, 80, 81, 82, 83, 84, 85, 86, 87, 88, 89, 90, 91, 92, 93, 94, 95, 96] (by decide +kernel) (by decide +kernel)
set_option maxRecDepth 20000 in
theorem gX2_tryWriting_X1_writePage : GoodIn wsX2_tryWriting (wsV RX2 228 RX1 yX1_writePage wsX1_writePage) := goodIn_app (goodIn_of _ (by decide +kernel)) ggX2_tryWriting_X1_writePage
theorem dX2_tryWriting_0 : decode cX2_tryWriting 0 = .ok (.aload_n 0, 1) := by decide +kernel
theorem dX2_tryWriting_1 : decode cX2_tryWriting 1 = .ok (.getfield 16, 3) := by decide +kernel
theorem dX2_tryWriting_4 : decode cX2_tryWriting 4 = .ok (.aload_n 0, 1) := by decide +kernel
theorem dX2_tryWriting_5 : decode cX2_tryWriting 5 = .ok (.getfield 10, 3) := by decide +kernel
theorem dX2_tryWriting_8 : decode cX2_tryWriting 8 = .ok (.invokevirtual 224, 3) := by decide +kernel
theorem dX2_tryWriting_11 : decode cX2_tryWriting 11 = .ok (.aload_n 0, 1) := by decide +kernel
theorem dX2_tryWriting_12 : decode cX2_tryWriting 12 = .ok (.getfield 16, 3) := by decide +kernel
theorem dX2_tryWriting_15 : decode cX2_tryWriting 15 = .ok (.iload_n 1, 1) := by decide +kernel
theorem dX2_tryWriting_16 : decode cX2_tryWriting 16 = .ok (.iload_n 2, 1) := by decide +kernel
theorem dX2_tryWriting_17 : decode cX2_tryWriting 17 = .ok (.invokevirtual 228, 3) := by decide +kernel
theorem dX2_tryWriting_20 : decode cX2_tryWriting 20 = .ok (.return_, 1) := by decide +kernel
set_option maxRecDepth 20000 in
theorem ggX2_forecast_X1_copies : GoodIn wsX2_forecast wsX1_copies := goodIn_r _ [7, 8, 33, 34, 35, 36, 37, 38, 39, 40, 41, 42, 43, 44, 45, 46, 47, 48, 49] (by decide +kernel) (by decide +kernel)
set_option maxRecDepth 20000 in
theorem gX2_forecast_X1_copies : GoodIn wsX2_forecast (wsV RX2 93 RX1 yX1_copies wsX1_copies) := goodIn_app (goodIn_of _ (by decide +kernel)) ggX2_forecast_X1_copies
set_option maxRecDepth 20000 in
theorem ggX2_forecast_X1_blockOf : GoodIn wsX2_forecast wsX1_blockOf := goodIn_r _ [12, 13, 14, 15, 16, 6, 17, 33, 34, 35, 36, 37, 38, 39, 40, 41, 42, 43, 44, 45, 46, 47, 48, 49] (by decide +kernel) (by decide +kernel)
set_option maxRecDepth 20000 in
theorem gX2_forecast_X1_blockOf : GoodIn wsX2_forecast (wsV RX2 66 RX1 yX1_blockOf wsX1_blockOf) := goodIn_app (goodIn_of _ (by decide +kernel)) ggX2_forecast_X1_blockOf
set_option maxRecDepth 20000 in
theorem ggX2_forecast_X1_erasures : GoodIn wsX2_forecast wsX1_erasures := goodIn_r _ [21, 22, 23, 24, 6, 25, 33, 34, 35, 36, 37, 38, 39, 40, 41, 42, 43, 44, 45, 46, 47, 48, 49] (by decide +kernel) (by decide +kernel)
set_option maxRecDepth 20000 in
theorem gX2_forecast_X1_erasures : GoodIn wsX2_forecast (wsV RX2 231 RX1 yX1_erasures wsX1_erasures) := goodIn_app (goodIn_of _ (by decide +kernel)) ggX2_forecast_X1_erasures
theorem dX2_forecast_0 : decode cX2_forecast 0 = .ok (.iload_n 2, 1) := by decide +kernel
theorem dX2_forecast_1 : decode cX2_forecast 1 = .ok (.lookupswitch 52 #[(0, 27), (1, 43)], 27) := by decide +kernel
theorem dX2_forecast_28 : decode cX2_forecast 28 = .ok (.aload_n 0, 1) := by decide +kernel
theorem dX2_forecast_29 : decode cX2_forecast 29 = .ok (.getfield 16, 3) := by decide +kernel
theorem dX2_forecast_32 : decode cX2_forecast 32 = .ok (.invokevirtual 93, 3) := by decide +kernel
theorem dX2_forecast_35 : decode cX2_forecast 35 = .ok (.aload_n 0, 1) := by decide +kernel
theorem dX2_forecast_36 : decode cX2_forecast 36 = .ok (.getfield 10, 3) := by decide +kernel
theorem dX2_forecast_39 : decode cX2_forecast 39 = .ok (.invokevirtual 93, 3) := by decide +kernel
theorem dX2_forecast_42 : decode cX2_forecast 42 = .ok (.isub, 1) := by decide +kernel
theorem dX2_forecast_43 : decode cX2_forecast 43 = .ok (.ireturn, 1) := by decide +kernel
theorem dX2_forecast_44 : decode cX2_forecast 44 = .ok (.aload_n 0, 1) := by decide +kernel
theorem dX2_forecast_45 : decode cX2_forecast 45 = .ok (.getfield 16, 3) := by decide +kernel
theorem dX2_forecast_48 : decode cX2_forecast 48 = .ok (.iload_n 1, 1) := by decide +kernel
theorem dX2_forecast_49 : decode cX2_forecast 49 = .ok (.invokevirtual 66, 3) := by decide +kernel
theorem dX2_forecast_52 : decode cX2_forecast 52 = .ok (.ireturn, 1) := by decide +kernel
theorem dX2_forecast_53 : decode cX2_forecast 53 = .ok (.aload_n 0, 1) := by decide +kernel
theorem dX2_forecast_54 : decode cX2_forecast 54 = .ok (.getfield 16, 3) := by decide +kernel
theorem dX2_forecast_57 : decode cX2_forecast 57 = .ok (.invokevirtual 231, 3) := by decide +kernel
theorem dX2_forecast_60 : decode cX2_forecast 60 = .ok (.aload_n 0, 1) := by decide +kernel
theorem dX2_forecast_61 : decode cX2_forecast 61 = .ok (.getfield 10, 3) := by decide +kernel
theorem dX2_forecast_64 : decode cX2_forecast 64 = .ok (.invokevirtual 231, 3) := by decide +kernel
theorem dX2_forecast_67 : decode cX2_forecast 67 = .ok (.isub, 1) := by decide +kernel
theorem dX2_forecast_68 : decode cX2_forecast 68 = .ok (.ireturn, 1) := by decide +kernel
set_option maxRecDepth 20000 in
theorem ggX2_copiesOfRewriting_X1_becomeLike : GoodIn wsX2_copiesOfRewriting wsX1_becomeLike := goodIn_r _ [9, 10, 11, 12, 13, 14, 15, 16, 17, 18, 19, 20, 21, 22, 23, 24, 25, 26, 27, 28, 8, 29, 30, 31, 32, 33, 34, 35, 36, 37, 90, 91, 92, 93, 94, 95, 96, 97, 98, 99, 100, 101, 102, 103, 104, 105, 106] (by decide +kernel) (by decide +kernel)
set_option maxRecDepth 20000 in
theorem gX2_copiesOfRewriting_X1_becomeLike : GoodIn wsX2_copiesOfRewriting (wsV RX2 224 RX1 yX1_becomeLike wsX1_becomeLike) := goodIn_app (goodIn_of _ (by decide +kernel)) ggX2_copiesOfRewriting_X1_becomeLike
set_option maxRecDepth 20000 in
theorem ggX2_copiesOfRewriting_X1_isWritten : GoodIn wsX2_copiesOfRewriting wsX1_isWritten := goodIn_r _ [41, 10, 90, 91, 92, 93, 94, 95, 96, 97, 98, 99, 100, 101, 102, 103, 104, 105, 106] (by decide +kernel) (by decide +kernel)
set_option maxRecDepth 20000 in
theorem gX2_copiesOfRewriting_X1_isWritten : GoodIn wsX2_copiesOfRewriting (wsV RX2 74 RX1 yX1_isWritten wsX1_isWritten) := goodIn_app (goodIn_of _ (by decide +kernel)) ggX2_copiesOfRewriting_X1_isWritten
set_option maxRecDepth 20000 in
theorem ggX2_copiesOfRewriting_X1_writePage : GoodIn wsX2_copiesOfRewriting wsX1_writePage := goodIn_r _ [45, 24, 11, 14, 12, 46, 47, 48, 8, 49, 25, 50, 51, 52, 53, 54, 17, 18, 55, 56, 57, 58, 20, 19, 59, 60, 61, 62, 13, 23, 63, 64, 65, 66, 15, 10, 67, 68, 69, 70, 21, 16, 71, 72, 73, 74, 22, 26, 75, 76, 77, 78, 90, 91, 92, 93, 94, 95, 96, 97, 98, 99, 100, 101, 102, 103, 104, 105, 106] (by decide +kernel) (by decide +kernel)
set_option maxRecDepth 20000 in
theorem gX2_copiesOfRewriting_X1_writePage : GoodIn wsX2_copiesOfRewriting (wsV RX2 228 RX1 yX1_writePage wsX1_writePage) := goodIn_app (goodIn_of _ (by decide +kernel)) ggX2_copiesOfRewriting_X1_writePage
set_option maxRecDepth 20000 in
theorem ggX2_copiesOfRewriting_X1_copies : GoodIn wsX2_copiesOfRewriting wsX1_copies := goodIn_r _ [82, 22, 90, 91, 92, 93, 94, 95, 96, 97, 98, 99, 100, 101, 102, 103, 104, 105, 106] (by decide +kernel) (by decide +kernel)
set_option maxRecDepth 20000 in
theorem gX2_copiesOfRewriting_X1_copies : GoodIn wsX2_copiesOfRewriting (wsV RX2 93 RX1 yX1_copies wsX1_copies) := goodIn_app (goodIn_of _ (by decide +kernel)) ggX2_copiesOfRewriting_X1_copies
theorem dX2_copiesOfRewriting_0 : decode cX2_copiesOfRewriting 0 = .ok (.aload_n 0, 1) := by decide +kernel
theorem dX2_copiesOfRewriting_1 : decode cX2_copiesOfRewriting 1 = .ok (.getfield 16, 3) := by decide +kernel
theorem dX2_copiesOfRewriting_4 : decode cX2_copiesOfRewriting 4 = .ok (.aload_n 0, 1) := by decide +kernel
theorem dX2_copiesOfRewriting_5 : decode cX2_copiesOfRewriting 5 = .ok (.getfield 10, 3) := by decide +kernel
theorem dX2_copiesOfRewriting_8 : decode cX2_copiesOfRewriting 8 = .ok (.invokevirtual 224, 3) := by decide +kernel
theorem dX2_copiesOfRewriting_11 : decode cX2_copiesOfRewriting 11 = .ok (.aload_n 0, 1) := by decide +kernel
theorem dX2_copiesOfRewriting_12 : decode cX2_copiesOfRewriting 12 = .ok (.getfield 16, 3) := by decide +kernel
theorem dX2_copiesOfRewriting_15 : decode cX2_copiesOfRewriting 15 = .ok (.getfield 112, 3) := by decide +kernel
theorem dX2_copiesOfRewriting_18 : decode cX2_copiesOfRewriting 18 = .ok (.iconst 0, 1) := by decide +kernel
theorem dX2_copiesOfRewriting_19 : decode cX2_copiesOfRewriting 19 = .ok (.iload_n 1, 1) := by decide +kernel
theorem dX2_copiesOfRewriting_20 : decode cX2_copiesOfRewriting 20 = .ok (.iastore, 1) := by decide +kernel
theorem dX2_copiesOfRewriting_21 : decode cX2_copiesOfRewriting 21 = .ok (.iconst 0, 1) := by decide +kernel
theorem dX2_copiesOfRewriting_22 : decode cX2_copiesOfRewriting 22 = .ok (.istore_n 3, 1) := by decide +kernel
theorem dX2_copiesOfRewriting_23 : decode cX2_copiesOfRewriting 23 = .ok (.iload_n 3, 1) := by decide +kernel
theorem dX2_copiesOfRewriting_24 : decode cX2_copiesOfRewriting 24 = .ok (.iload_n 2, 1) := by decide +kernel
theorem dX2_copiesOfRewriting_25 : decode cX2_copiesOfRewriting 25 = .ok (.if_icmp .ge 60, 3) := by decide +kernel
theorem dX2_copiesOfRewriting_28 : decode cX2_copiesOfRewriting 28 = .ok (.iconst 0, 1) := by decide +kernel
theorem dX2_copiesOfRewriting_29 : decode cX2_copiesOfRewriting 29 = .ok (.istore 4, 2) := by decide +kernel
theorem dX2_copiesOfRewriting_31 : decode cX2_copiesOfRewriting 31 = .ok (.iload 4, 2) := by decide +kernel
theorem dX2_copiesOfRewriting_33 : decode cX2_copiesOfRewriting 33 = .ok (.bipush 40, 2) := by decide +kernel
theorem dX2_copiesOfRewriting_35 : decode cX2_copiesOfRewriting 35 = .ok (.if_icmp .ge 44, 3) := by decide +kernel
theorem dX2_copiesOfRewriting_38 : decode cX2_copiesOfRewriting 38 = .ok (.aload_n 0, 1) := by decide +kernel
theorem dX2_copiesOfRewriting_39 : decode cX2_copiesOfRewriting 39 = .ok (.getfield 16, 3) := by decide +kernel
theorem dX2_copiesOfRewriting_42 : decode cX2_copiesOfRewriting 42 = .ok (.iload 4, 2) := by decide +kernel
theorem dX2_copiesOfRewriting_44 : decode cX2_copiesOfRewriting 44 = .ok (.aload_n 0, 1) := by decide +kernel
theorem dX2_copiesOfRewriting_45 : decode cX2_copiesOfRewriting 45 = .ok (.getfield 16, 3) := by decide +kernel
theorem dX2_copiesOfRewriting_48 : decode cX2_copiesOfRewriting 48 = .ok (.iload 4, 2) := by decide +kernel
theorem dX2_copiesOfRewriting_50 : decode cX2_copiesOfRewriting 50 = .ok (.invokevirtual 74, 3) := by decide +kernel
theorem dX2_copiesOfRewriting_53 : decode cX2_copiesOfRewriting 53 = .ok (.ifCond .eq 16, 3) := by decide +kernel
theorem dX2_copiesOfRewriting_56 : decode cX2_copiesOfRewriting 56 = .ok (.aload_n 0, 1) := by decide +kernel
theorem dX2_copiesOfRewriting_57 : decode cX2_copiesOfRewriting 57 = .ok (.getfield 16, 3) := by decide +kernel
theorem dX2_copiesOfRewriting_60 : decode cX2_copiesOfRewriting 60 = .ok (.getfield 83, 3) := by decide +kernel
theorem dX2_copiesOfRewriting_63 : decode cX2_copiesOfRewriting 63 = .ok (.iload 4, 2) := by decide +kernel
theorem dX2_copiesOfRewriting_65 : decode cX2_copiesOfRewriting 65 = .ok (.iaload, 1) := by decide +kernel
theorem dX2_copiesOfRewriting_66 : decode cX2_copiesOfRewriting 66 = .ok (.goto 4, 3) := by decide +kernel
theorem dX2_copiesOfRewriting_69 : decode cX2_copiesOfRewriting 69 = .ok (.iconst 0, 1) := by decide +kernel
theorem dX2_copiesOfRewriting_70 : decode cX2_copiesOfRewriting 70 = .ok (.invokevirtual 228, 3) := by decide +kernel
theorem dX2_copiesOfRewriting_73 : decode cX2_copiesOfRewriting 73 = .ok (.iinc 4 1, 3) := by decide +kernel
theorem dX2_copiesOfRewriting_76 : decode cX2_copiesOfRewriting 76 = .ok (.goto (-45), 3) := by decide +kernel
theorem dX2_copiesOfRewriting_79 : decode cX2_copiesOfRewriting 79 = .ok (.iinc 3 1, 3) := by decide +kernel
theorem dX2_copiesOfRewriting_82 : decode cX2_copiesOfRewriting 82 = .ok (.goto (-59), 3) := by decide +kernel
theorem dX2_copiesOfRewriting_85 : decode cX2_copiesOfRewriting 85 = .ok (.aload_n 0, 1) := by decide +kernel
theorem dX2_copiesOfRewriting_86 : decode cX2_copiesOfRewriting 86 = .ok (.getfield 16, 3) := by decide +kernel
theorem dX2_copiesOfRewriting_89 : decode cX2_copiesOfRewriting 89 = .ok (.invokevirtual 93, 3) := by decide +kernel
theorem dX2_copiesOfRewriting_92 : decode cX2_copiesOfRewriting 92 = .ok (.aload_n 0, 1) := by decide +kernel
theorem dX2_copiesOfRewriting_93 : decode cX2_copiesOfRewriting 93 = .ok (.getfield 10, 3) := by decide +kernel
theorem dX2_copiesOfRewriting_96 : decode cX2_copiesOfRewriting 96 = .ok (.invokevirtual 93, 3) := by decide +kernel
theorem dX2_copiesOfRewriting_99 : decode cX2_copiesOfRewriting 99 = .ok (.isub, 1) := by decide +kernel
theorem dX2_copiesOfRewriting_100 : decode cX2_copiesOfRewriting 100 = .ok (.ireturn, 1) := by decide +kernel
theorem dX2_mixed_0 : decode cX2_mixed 0 = .ok (.ldc2_w 234, 3) := by decide +kernel
theorem dX2_mixed_3 : decode cX2_mixed 3 = .ok (.lload_n 0, 1) := by decide +kernel
theorem dX2_mixed_4 : decode cX2_mixed 4 = .ok (.lmul, 1) := by decide +kernel
theorem dX2_mixed_5 : decode cX2_mixed 5 = .ok (.lload_n 2, 1) := by decide +kernel
theorem dX2_mixed_6 : decode cX2_mixed 6 = .ok (.ladd, 1) := by decide +kernel
theorem dX2_mixed_7 : decode cX2_mixed 7 = .ok (.lreturn, 1) := by decide +kernel
set_option maxRecDepth 20000 in
theorem ggX2_withPages_X1_pageProperty : GoodIn wsX2_withPages wsX1_pageProperty := goodIn_r _ [6, 7, 8, 9, 10, 11, 12, 13, 14, 5, 15, 16, 17, 18, 19, 32, 33, 34, 35, 36, 37, 38, 39, 40, 41, 42, 43, 44, 45, 46, 47, 48] (by decide +kernel) (by decide +kernel)
set_option maxRecDepth 20000 in
theorem gX2_withPages_X1_pageProperty : GoodIn wsX2_withPages (wsV RX2 147 RX1 yX1_pageProperty wsX1_pageProperty) := goodIn_app (goodIn_of _ (by decide +kernel)) ggX2_withPages_X1_pageProperty
set_option maxRecDepth 20000 in
theorem ggX2_withPages_X2_mixed : GoodIn wsX2_withPages wsX2_mixed := goodIn_r _ [23, 24] (by decide +kernel) (by decide +kernel)
set_option maxRecDepth 20000 in
theorem gX2_withPages_X2_mixed : GoodIn wsX2_withPages (va_wsS RX2 190 yX2_mixed wsX2_mixed) := goodIn_app (goodIn_of _ (by decide +kernel)) ggX2_withPages_X2_mixed
theorem dX2_withPages_0 : decode cX2_withPages 0 = .ok (.lload_n 1, 1) := by decide +kernel
theorem dX2_withPages_1 : decode cX2_withPages 1 = .ok (.lstore_n 3, 1) := by decide +kernel
theorem dX2_withPages_2 : decode cX2_withPages 2 = .ok (.iconst 0, 1) := by decide +kernel
theorem dX2_withPages_3 : decode cX2_withPages 3 = .ok (.istore 5, 2) := by decide +kernel
theorem dX2_withPages_5 : decode cX2_withPages 5 = .ok (.iload 5, 2) := by decide +kernel
theorem dX2_withPages_7 : decode cX2_withPages 7 = .ok (.bipush 40, 2) := by decide +kernel
theorem dX2_withPages_9 : decode cX2_withPages 9 = .ok (.if_icmp .ge 42, 3) := by decide +kernel
theorem dX2_withPages_12 : decode cX2_withPages 12 = .ok (.iconst 0, 1) := by decide +kernel
theorem dX2_withPages_13 : decode cX2_withPages 13 = .ok (.istore 6, 2) := by decide +kernel
theorem dX2_withPages_15 : decode cX2_withPages 15 = .ok (.iload 6, 2) := by decide +kernel
theorem dX2_withPages_17 : decode cX2_withPages 17 = .ok (.bipush 6, 2) := by decide +kernel
theorem dX2_withPages_19 : decode cX2_withPages 19 = .ok (.if_icmp .ge 26, 3) := by decide +kernel
theorem dX2_withPages_22 : decode cX2_withPages 22 = .ok (.lload_n 3, 1) := by decide +kernel
theorem dX2_withPages_23 : decode cX2_withPages 23 = .ok (.aload_n 0, 1) := by decide +kernel
theorem dX2_withPages_24 : decode cX2_withPages 24 = .ok (.getfield 10, 3) := by decide +kernel
theorem dX2_withPages_27 : decode cX2_withPages 27 = .ok (.iload 5, 2) := by decide +kernel
theorem dX2_withPages_29 : decode cX2_withPages 29 = .ok (.iload 6, 2) := by decide +kernel
theorem dX2_withPages_31 : decode cX2_withPages 31 = .ok (.invokevirtual 147, 3) := by decide +kernel
theorem dX2_withPages_34 : decode cX2_withPages 34 = .ok (.i2l, 1) := by decide +kernel
theorem dX2_withPages_35 : decode cX2_withPages 35 = .ok (.invokestatic 190, 3) := by decide +kernel
theorem dX2_withPages_38 : decode cX2_withPages 38 = .ok (.lstore_n 3, 1) := by decide +kernel
theorem dX2_withPages_39 : decode cX2_withPages 39 = .ok (.iinc 6 1, 3) := by decide +kernel
theorem dX2_withPages_42 : decode cX2_withPages 42 = .ok (.goto (-27), 3) := by decide +kernel
theorem dX2_withPages_45 : decode cX2_withPages 45 = .ok (.iinc 5 1, 3) := by decide +kernel
theorem dX2_withPages_48 : decode cX2_withPages 48 = .ok (.goto (-43), 3) := by decide +kernel
theorem dX2_withPages_51 : decode cX2_withPages 51 = .ok (.lload_n 3, 1) := by decide +kernel
theorem dX2_withPages_52 : decode cX2_withPages 52 = .ok (.lreturn, 1) := by decide +kernel
set_option maxRecDepth 20000 in
theorem ggX2_withBlocks_X1_blockProperty : GoodIn wsX2_withBlocks wsX1_blockProperty := goodIn_r _ [7, 8, 9, 10, 11, 12, 13, 14, 6, 15, 16, 17, 18, 19, 20, 21, 22, 23, 24, 25, 26, 27, 28, 29, 30, 31, 32, 33, 34, 35, 36, 37, 38, 51, 52, 53, 54, 55, 56, 57, 58, 59, 60, 61, 62, 63, 64, 65, 66, 67] (by decide +kernel) (by decide +kernel)
set_option maxRecDepth 20000 in
theorem gX2_withBlocks_X1_blockProperty : GoodIn wsX2_withBlocks (wsV RX2 151 RX1 yX1_blockProperty wsX1_blockProperty) := goodIn_app (goodIn_of _ (by decide +kernel)) ggX2_withBlocks_X1_blockProperty
set_option maxRecDepth 20000 in
theorem ggX2_withBlocks_X2_mixed : GoodIn wsX2_withBlocks wsX2_mixed := goodIn_r _ [42, 43] (by decide +kernel) (by decide +kernel)
set_option maxRecDepth 20000 in
theorem gX2_withBlocks_X2_mixed : GoodIn wsX2_withBlocks (va_wsS RX2 190 yX2_mixed wsX2_mixed) := goodIn_app (goodIn_of _ (by decide +kernel)) ggX2_withBlocks_X2_mixed
theorem dX2_withBlocks_0 : decode cX2_withBlocks 0 = .ok (.lload_n 1, 1) := by decide +kernel
theorem dX2_withBlocks_1 : decode cX2_withBlocks 1 = .ok (.lstore_n 3, 1) := by decide +kernel
theorem dX2_withBlocks_2 : decode cX2_withBlocks 2 = .ok (.iconst 0, 1) := by decide +kernel
theorem dX2_withBlocks_3 : decode cX2_withBlocks 3 = .ok (.istore 5, 2) := by decide +kernel
theorem dX2_withBlocks_5 : decode cX2_withBlocks 5 = .ok (.iload 5, 2) := by decide +kernel
theorem dX2_withBlocks_7 : decode cX2_withBlocks 7 = .ok (.bipush 12, 2) := by decide +kernel
theorem dX2_withBlocks_9 : decode cX2_withBlocks 9 = .ok (.if_icmp .ge 80, 3) := by decide +kernel
theorem dX2_withBlocks_12 : decode cX2_withBlocks 12 = .ok (.iconst 0, 1) := by decide +kernel
theorem dX2_withBlocks_13 : decode cX2_withBlocks 13 = .ok (.istore 6, 2) := by decide +kernel
theorem dX2_withBlocks_15 : decode cX2_withBlocks 15 = .ok (.iload 6, 2) := by decide +kernel
theorem dX2_withBlocks_17 : decode cX2_withBlocks 17 = .ok (.bipush 8, 2) := by decide +kernel
theorem dX2_withBlocks_19 : decode cX2_withBlocks 19 = .ok (.if_icmp .ge 26, 3) := by decide +kernel
theorem dX2_withBlocks_22 : decode cX2_withBlocks 22 = .ok (.lload_n 3, 1) := by decide +kernel
theorem dX2_withBlocks_23 : decode cX2_withBlocks 23 = .ok (.aload_n 0, 1) := by decide +kernel
theorem dX2_withBlocks_24 : decode cX2_withBlocks 24 = .ok (.getfield 10, 3) := by decide +kernel
theorem dX2_withBlocks_27 : decode cX2_withBlocks 27 = .ok (.iload 5, 2) := by decide +kernel
theorem dX2_withBlocks_29 : decode cX2_withBlocks 29 = .ok (.iload 6, 2) := by decide +kernel
theorem dX2_withBlocks_31 : decode cX2_withBlocks 31 = .ok (.invokevirtual 151, 3) := by decide +kernel
theorem dX2_withBlocks_34 : decode cX2_withBlocks 34 = .ok (.i2l, 1) := by decide +kernel
theorem dX2_withBlocks_35 : decode cX2_withBlocks 35 = .ok (.invokestatic 190, 3) := by decide +kernel
theorem dX2_withBlocks_38 : decode cX2_withBlocks 38 = .ok (.lstore_n 3, 1) := by decide +kernel
theorem dX2_withBlocks_39 : decode cX2_withBlocks 39 = .ok (.iinc 6 1, 3) := by decide +kernel
theorem dX2_withBlocks_42 : decode cX2_withBlocks 42 = .ok (.goto (-27), 3) := by decide +kernel
theorem dX2_withBlocks_45 : decode cX2_withBlocks 45 = .ok (.iconst 0, 1) := by decide +kernel
theorem dX2_withBlocks_46 : decode cX2_withBlocks 46 = .ok (.istore 6, 2) := by decide +kernel
theorem dX2_withBlocks_48 : decode cX2_withBlocks 48 = .ok (.iload 6, 2) := by decide +kernel
theorem dX2_withBlocks_50 : decode cX2_withBlocks 50 = .ok (.bipush 8, 2) := by decide +kernel
theorem dX2_withBlocks_52 : decode cX2_withBlocks 52 = .ok (.if_icmp .ge 31, 3) := by decide +kernel
theorem dX2_withBlocks_55 : decode cX2_withBlocks 55 = .ok (.lload_n 3, 1) := by decide +kernel
theorem dX2_withBlocks_56 : decode cX2_withBlocks 56 = .ok (.aload_n 0, 1) := by decide +kernel
theorem dX2_withBlocks_57 : decode cX2_withBlocks 57 = .ok (.getfield 10, 3) := by decide +kernel
theorem dX2_withBlocks_60 : decode cX2_withBlocks 60 = .ok (.getfield 159, 3) := by decide +kernel
theorem dX2_withBlocks_63 : decode cX2_withBlocks 63 = .ok (.iload 5, 2) := by decide +kernel
theorem dX2_withBlocks_65 : decode cX2_withBlocks 65 = .ok (.bipush 8, 2) := by decide +kernel
theorem dX2_withBlocks_67 : decode cX2_withBlocks 67 = .ok (.imul, 1) := by decide +kernel
theorem dX2_withBlocks_68 : decode cX2_withBlocks 68 = .ok (.iload 6, 2) := by decide +kernel
theorem dX2_withBlocks_70 : decode cX2_withBlocks 70 = .ok (.iadd, 1) := by decide +kernel
theorem dX2_withBlocks_71 : decode cX2_withBlocks 71 = .ok (.iaload, 1) := by decide +kernel
theorem dX2_withBlocks_72 : decode cX2_withBlocks 72 = .ok (.i2l, 1) := by decide +kernel
theorem dX2_withBlocks_73 : decode cX2_withBlocks 73 = .ok (.invokestatic 190, 3) := by decide +kernel
theorem dX2_withBlocks_76 : decode cX2_withBlocks 76 = .ok (.lstore_n 3, 1) := by decide +kernel
theorem dX2_withBlocks_77 : decode cX2_withBlocks 77 = .ok (.iinc 6 1, 3) := by decide +kernel
theorem dX2_withBlocks_80 : decode cX2_withBlocks 80 = .ok (.goto (-32), 3) := by decide +kernel
theorem dX2_withBlocks_83 : decode cX2_withBlocks 83 = .ok (.iinc 5 1, 3) := by decide +kernel
theorem dX2_withBlocks_86 : decode cX2_withBlocks 86 = .ok (.goto (-81), 3) := by decide +kernel
theorem dX2_withBlocks_89 : decode cX2_withBlocks 89 = .ok (.lload_n 3, 1) := by decide +kernel
theorem dX2_withBlocks_90 : decode cX2_withBlocks 90 = .ok (.lreturn, 1) := by decide +kernel
set_option maxRecDepth 20000 in
theorem ggX2_withStreams_X1_streamProperty : GoodIn wsX2_withStreams wsX1_streamProperty := goodIn_r _ [6, 7, 8, 9, 10, 11, 12, 5, 13, 14, 15, 16, 17, 18, 19, 20, 21, 22, 23, 36, 37, 38, 39, 40, 41, 42, 43, 44, 45, 46, 47, 48, 49, 50, 51, 52] (by decide +kernel) (by decide +kernel)
set_option maxRecDepth 20000 in
theorem gX2_withStreams_X1_streamProperty : GoodIn wsX2_withStreams (wsV RX2 164 RX1 yX1_streamProperty wsX1_streamProperty) := goodIn_app (goodIn_of _ (by decide +kernel)) ggX2_withStreams_X1_streamProperty
set_option maxRecDepth 20000 in
theorem ggX2_withStreams_X2_mixed : GoodIn wsX2_withStreams wsX2_mixed := goodIn_r _ [27, 28] (by decide +kernel) (by decide +kernel)
set_option maxRecDepth 20000 in
theorem gX2_withStreams_X2_mixed : GoodIn wsX2_withStreams (va_wsS RX2 190 yX2_mixed wsX2_mixed) := goodIn_app (goodIn_of _ (by decide +kernel)) ggX2_withStreams_X2_mixed
theorem dX2_withStreams_0 : decode cX2_withStreams 0 = .ok (.lload_n 1, 1) := by decide +kernel
theorem dX2_withStreams_1 : decode cX2_withStreams 1 = .ok (.lstore_n 3, 1) := by decide +kernel
theorem dX2_withStreams_2 : decode cX2_withStreams 2 = .ok (.iconst 0, 1) := by decide +kernel
theorem dX2_withStreams_3 : decode cX2_withStreams 3 = .ok (.istore 5, 2) := by decide +kernel
theorem dX2_withStreams_5 : decode cX2_withStreams 5 = .ok (.iload 5, 2) := by decide +kernel
theorem dX2_withStreams_7 : decode cX2_withStreams 7 = .ok (.iconst 5, 1) := by decide +kernel
theorem dX2_withStreams_8 : decode cX2_withStreams 8 = .ok (.if_icmp .ge 41, 3) := by decide +kernel
theorem dX2_withStreams_11 : decode cX2_withStreams 11 = .ok (.iconst 0, 1) := by decide +kernel
theorem dX2_withStreams_12 : decode cX2_withStreams 12 = .ok (.istore 6, 2) := by decide +kernel
theorem dX2_withStreams_14 : decode cX2_withStreams 14 = .ok (.iload 6, 2) := by decide +kernel
theorem dX2_withStreams_16 : decode cX2_withStreams 16 = .ok (.iconst 5, 1) := by decide +kernel
theorem dX2_withStreams_17 : decode cX2_withStreams 17 = .ok (.if_icmp .ge 26, 3) := by decide +kernel
theorem dX2_withStreams_20 : decode cX2_withStreams 20 = .ok (.lload_n 3, 1) := by decide +kernel
theorem dX2_withStreams_21 : decode cX2_withStreams 21 = .ok (.aload_n 0, 1) := by decide +kernel
theorem dX2_withStreams_22 : decode cX2_withStreams 22 = .ok (.getfield 10, 3) := by decide +kernel
theorem dX2_withStreams_25 : decode cX2_withStreams 25 = .ok (.iload 5, 2) := by decide +kernel
theorem dX2_withStreams_27 : decode cX2_withStreams 27 = .ok (.iload 6, 2) := by decide +kernel
theorem dX2_withStreams_29 : decode cX2_withStreams 29 = .ok (.invokevirtual 164, 3) := by decide +kernel
theorem dX2_withStreams_32 : decode cX2_withStreams 32 = .ok (.i2l, 1) := by decide +kernel
theorem dX2_withStreams_33 : decode cX2_withStreams 33 = .ok (.invokestatic 190, 3) := by decide +kernel
theorem dX2_withStreams_36 : decode cX2_withStreams 36 = .ok (.lstore_n 3, 1) := by decide +kernel
theorem dX2_withStreams_37 : decode cX2_withStreams 37 = .ok (.iinc 6 1, 3) := by decide +kernel
theorem dX2_withStreams_40 : decode cX2_withStreams 40 = .ok (.goto (-26), 3) := by decide +kernel
theorem dX2_withStreams_43 : decode cX2_withStreams 43 = .ok (.iinc 5 1, 3) := by decide +kernel
theorem dX2_withStreams_46 : decode cX2_withStreams 46 = .ok (.goto (-41), 3) := by decide +kernel
theorem dX2_withStreams_49 : decode cX2_withStreams 49 = .ok (.lload_n 3, 1) := by decide +kernel
theorem dX2_withStreams_50 : decode cX2_withStreams 50 = .ok (.lreturn, 1) := by decide +kernel
set_option maxRecDepth 20000 in
theorem ggX2_withForecasts_X2_tryWriting : GoodIn wsX2_withForecasts wsX2_tryWriting := goodIn_r _ [5, 6, 7, 8, 9, 10, 11, 12, 13, 14, 15, 16, 17, 18, 19, 20, 21, 22, 23, 24, 25, 26, 27, 28, 29, 30, 31, 32, 33, 34, 35, 36, 37, 38, 39, 40, 41, 42, 43, 44, 45, 46, 47, 48, 49, 50, 51, 52, 53, 54, 55, 56, 57, 58, 59, 60, 61, 62, 63, 64, 65, 66, 67, 68, 69, 70, 71, 72, 73, 74, 75, 76, 77, 105, 106, 107, 108, 109, 110, 111, 112, 113, 114, 115, 116, 117, 118, 119, 120, 121, 122, 123, 124, 125, 126, 127, 128] (by decide +kernel) (by decide +kernel)
set_option maxRecDepth 20000 in
theorem gX2_withForecasts_X2_tryWriting : GoodIn wsX2_withForecasts (wsV RX2 170 RX2 yX2_tryWriting wsX2_tryWriting) := goodIn_app (goodIn_of _ (by decide +kernel)) ggX2_withForecasts_X2_tryWriting
set_option maxRecDepth 20000 in
theorem ggX2_withForecasts_X2_forecast : GoodIn wsX2_withForecasts wsX2_forecast := goodIn_r _ [81, 6, 7, 82, 83, 84, 11, 85, 25, 86, 87, 88, 89, 13, 90, 91, 92, 93, 94, 95, 96, 97, 22, 98, 99, 100, 105, 106, 107, 108, 109, 110, 111, 112, 113, 114, 115, 116, 117, 118, 119, 120, 121, 122, 123, 124, 125, 126, 127, 128] (by decide +kernel) (by decide +kernel)
set_option maxRecDepth 20000 in
theorem gX2_withForecasts_X2_forecast : GoodIn wsX2_withForecasts (wsV RX2 174 RX2 yX2_forecast wsX2_forecast) := goodIn_app (goodIn_of _ (by decide +kernel)) ggX2_withForecasts_X2_forecast
set_option maxRecDepth 20000 in
theorem ggX2_withForecasts_X2_mixed : GoodIn wsX2_withForecasts wsX2_mixed := goodIn_r _ [103, 104] (by decide +kernel) (by decide +kernel)
set_option maxRecDepth 20000 in
theorem gX2_withForecasts_X2_mixed : GoodIn wsX2_withForecasts (va_wsS RX2 190 yX2_mixed wsX2_mixed) := goodIn_app (goodIn_of _ (by decide +kernel)) ggX2_withForecasts_X2_mixed
theorem dX2_withForecasts_0 : decode cX2_withForecasts 0 = .ok (.lload_n 1, 1) := by decide +kernel
theorem dX2_withForecasts_1 : decode cX2_withForecasts 1 = .ok (.lstore_n 3, 1) := by decide +kernel
theorem dX2_withForecasts_2 : decode cX2_withForecasts 2 = .ok (.iconst 0, 1) := by decide +kernel
theorem dX2_withForecasts_3 : decode cX2_withForecasts 3 = .ok (.istore 5, 2) := by decide +kernel
theorem dX2_withForecasts_5 : decode cX2_withForecasts 5 = .ok (.iload 5, 2) := by decide +kernel
theorem dX2_withForecasts_7 : decode cX2_withForecasts 7 = .ok (.iconst 4, 1) := by decide +kernel
theorem dX2_withForecasts_8 : decode cX2_withForecasts 8 = .ok (.if_icmp .ge 44, 3) := by decide +kernel
theorem dX2_withForecasts_11 : decode cX2_withForecasts 11 = .ok (.aload_n 0, 1) := by decide +kernel
theorem dX2_withForecasts_12 : decode cX2_withForecasts 12 = .ok (.iconst 0, 1) := by decide +kernel
theorem dX2_withForecasts_13 : decode cX2_withForecasts 13 = .ok (.iload 5, 2) := by decide +kernel
theorem dX2_withForecasts_15 : decode cX2_withForecasts 15 = .ok (.invokevirtual 170, 3) := by decide +kernel
theorem dX2_withForecasts_18 : decode cX2_withForecasts 18 = .ok (.iconst 0, 1) := by decide +kernel
theorem dX2_withForecasts_19 : decode cX2_withForecasts 19 = .ok (.istore 6, 2) := by decide +kernel
theorem dX2_withForecasts_21 : decode cX2_withForecasts 21 = .ok (.iload 6, 2) := by decide +kernel
theorem dX2_withForecasts_23 : decode cX2_withForecasts 23 = .ok (.iconst 3, 1) := by decide +kernel
theorem dX2_withForecasts_24 : decode cX2_withForecasts 24 = .ok (.if_icmp .ge 22, 3) := by decide +kernel
theorem dX2_withForecasts_27 : decode cX2_withForecasts 27 = .ok (.lload_n 3, 1) := by decide +kernel
theorem dX2_withForecasts_28 : decode cX2_withForecasts 28 = .ok (.aload_n 0, 1) := by decide +kernel
theorem dX2_withForecasts_29 : decode cX2_withForecasts 29 = .ok (.iconst 0, 1) := by decide +kernel
theorem dX2_withForecasts_30 : decode cX2_withForecasts 30 = .ok (.iload 6, 2) := by decide +kernel
theorem dX2_withForecasts_32 : decode cX2_withForecasts 32 = .ok (.invokevirtual 174, 3) := by decide +kernel
theorem dX2_withForecasts_35 : decode cX2_withForecasts 35 = .ok (.i2l, 1) := by decide +kernel
theorem dX2_withForecasts_36 : decode cX2_withForecasts 36 = .ok (.invokestatic 190, 3) := by decide +kernel
theorem dX2_withForecasts_39 : decode cX2_withForecasts 39 = .ok (.lstore_n 3, 1) := by decide +kernel
theorem dX2_withForecasts_40 : decode cX2_withForecasts 40 = .ok (.iinc 6 1, 3) := by decide +kernel
theorem dX2_withForecasts_43 : decode cX2_withForecasts 43 = .ok (.goto (-22), 3) := by decide +kernel
theorem dX2_withForecasts_46 : decode cX2_withForecasts 46 = .ok (.iinc 5 1, 3) := by decide +kernel
theorem dX2_withForecasts_49 : decode cX2_withForecasts 49 = .ok (.goto (-44), 3) := by decide +kernel
theorem dX2_withForecasts_52 : decode cX2_withForecasts 52 = .ok (.lload_n 3, 1) := by decide +kernel
theorem dX2_withForecasts_53 : decode cX2_withForecasts 53 = .ok (.lreturn, 1) := by decide +kernel
theorem dX2_bitsOf_0 : decode cX2_bitsOf 0 = .ok (.dload_n 0, 1) := by decide +kernel
theorem dX2_bitsOf_1 : decode cX2_bitsOf 1 = .ok (.dstore_n 2, 1) := by decide +kernel
theorem dX2_bitsOf_2 : decode cX2_bitsOf 2 = .ok (.ldc2_w 236, 3) := by decide +kernel
theorem dX2_bitsOf_5 : decode cX2_bitsOf 5 = .ok (.lstore 4, 2) := by decide +kernel
theorem dX2_bitsOf_7 : decode cX2_bitsOf 7 = .ok (.iconst 0, 1) := by decide +kernel
theorem dX2_bitsOf_8 : decode cX2_bitsOf 8 = .ok (.istore 6, 2) := by decide +kernel
theorem dX2_bitsOf_10 : decode cX2_bitsOf 10 = .ok (.iload 6, 2) := by decide +kernel
theorem dX2_bitsOf_12 : decode cX2_bitsOf 12 = .ok (.sipush 1023, 3) := by decide +kernel
theorem dX2_bitsOf_15 : decode cX2_bitsOf 15 = .ok (.if_icmp .ge 29, 3) := by decide +kernel
theorem dX2_bitsOf_18 : decode cX2_bitsOf 18 = .ok (.dload_n 2, 1) := by decide +kernel
theorem dX2_bitsOf_19 : decode cX2_bitsOf 19 = .ok (.ldc2_w 238, 3) := by decide +kernel
theorem dX2_bitsOf_22 : decode cX2_bitsOf 22 = .ok (.dcmp .l, 1) := by decide +kernel
theorem dX2_bitsOf_23 : decode cX2_bitsOf 23 = .ok (.ifCond .lt 21, 3) := by decide +kernel
theorem dX2_bitsOf_26 : decode cX2_bitsOf 26 = .ok (.dload_n 2, 1) := by decide +kernel
theorem dX2_bitsOf_27 : decode cX2_bitsOf 27 = .ok (.ldc2_w 238, 3) := by decide +kernel
theorem dX2_bitsOf_30 : decode cX2_bitsOf 30 = .ok (.ddiv, 1) := by decide +kernel
theorem dX2_bitsOf_31 : decode cX2_bitsOf 31 = .ok (.dstore_n 2, 1) := by decide +kernel
theorem dX2_bitsOf_32 : decode cX2_bitsOf 32 = .ok (.lload 4, 2) := by decide +kernel
theorem dX2_bitsOf_34 : decode cX2_bitsOf 34 = .ok (.lconst 1, 1) := by decide +kernel
theorem dX2_bitsOf_35 : decode cX2_bitsOf 35 = .ok (.ladd, 1) := by decide +kernel
theorem dX2_bitsOf_36 : decode cX2_bitsOf 36 = .ok (.lstore 4, 2) := by decide +kernel
theorem dX2_bitsOf_38 : decode cX2_bitsOf 38 = .ok (.iinc 6 1, 3) := by decide +kernel
theorem dX2_bitsOf_41 : decode cX2_bitsOf 41 = .ok (.goto (-31), 3) := by decide +kernel
theorem dX2_bitsOf_44 : decode cX2_bitsOf 44 = .ok (.lload 4, 2) := by decide +kernel
theorem dX2_bitsOf_46 : decode cX2_bitsOf 46 = .ok (.bipush 52, 2) := by decide +kernel
theorem dX2_bitsOf_48 : decode cX2_bitsOf 48 = .ok (.lshl, 1) := by decide +kernel
theorem dX2_bitsOf_49 : decode cX2_bitsOf 49 = .ok (.dload_n 2, 1) := by decide +kernel
theorem dX2_bitsOf_50 : decode cX2_bitsOf 50 = .ok (.dconst 1, 1) := by decide +kernel
theorem dX2_bitsOf_51 : decode cX2_bitsOf 51 = .ok (.dsub, 1) := by decide +kernel
theorem dX2_bitsOf_52 : decode cX2_bitsOf 52 = .ok (.ldc2_w 240, 3) := by decide +kernel
theorem dX2_bitsOf_55 : decode cX2_bitsOf 55 = .ok (.dmul, 1) := by decide +kernel
theorem dX2_bitsOf_56 : decode cX2_bitsOf 56 = .ok (.d2l, 1) := by decide +kernel
theorem dX2_bitsOf_57 : decode cX2_bitsOf 57 = .ok (.ladd, 1) := by decide +kernel
theorem dX2_bitsOf_58 : decode cX2_bitsOf 58 = .ok (.lreturn, 1) := by decide +kernel
