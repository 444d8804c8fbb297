theorem dX0_init_0 : decode cX0_init 0 = .ok (.aload_n 0, 1) := by decide +kernel
theorem dX0_init_1 : decode cX0_init 1 = .ok (.invokespecial 3, 3) := by decide +kernel
theorem dX0_init_4 : decode cX0_init 4 = .ok (.aload_n 0, 1) := by decide +kernel
theorem dX0_init_5 : decode cX0_init 5 = .ok (.iconst 0, 1) := by decide +kernel
theorem dX0_init_6 : decode cX0_init 6 = .ok (.putfield 11, 3) := by decide +kernel
theorem dX0_init_9 : decode cX0_init 9 = .ok (.aload_n 0, 1) := by decide +kernel
theorem dX0_init_10 : decode cX0_init 10 = .ok (.iconst 0, 1) := by decide +kernel
theorem dX0_init_11 : decode cX0_init 11 = .ok (.putfield 15, 3) := by decide +kernel
theorem dX0_init_14 : decode cX0_init 14 = .ok (.aload_n 0, 1) := by decide +kernel
theorem dX0_init_15 : decode cX0_init 15 = .ok (.iconst 0, 1) := by decide +kernel
theorem dX0_init_16 : decode cX0_init 16 = .ok (.putfield 18, 3) := by decide +kernel
theorem dX0_init_19 : decode cX0_init 19 = .ok (.aload_n 0, 1) := by decide +kernel
theorem dX0_init_20 : decode cX0_init 20 = .ok (.iconst 0, 1) := by decide +kernel
theorem dX0_init_21 : decode cX0_init 21 = .ok (.putfield 21, 3) := by decide +kernel
theorem dX0_init_24 : decode cX0_init 24 = .ok (.return_, 1) := by decide +kernel
theorem dX0_restart_0 : decode cX0_restart 0 = .ok (.aload_n 0, 1) := by decide +kernel
theorem dX0_restart_1 : decode cX0_restart 1 = .ok (.iconst 0, 1) := by decide +kernel
theorem dX0_restart_2 : decode cX0_restart 2 = .ok (.putfield 11, 3) := by decide +kernel
theorem dX0_restart_5 : decode cX0_restart 5 = .ok (.return_, 1) := by decide +kernel
theorem dX0_isPartWhole_0 : decode cX0_isPartWhole 0 = .ok (.aload_n 0, 1) := by decide +kernel
theorem dX0_isPartWhole_1 : decode cX0_isPartWhole 1 = .ok (.getfield 11, 3) := by decide +kernel
theorem dX0_isPartWhole_4 : decode cX0_isPartWhole 4 = .ok (.iconst 1, 1) := by decide +kernel
theorem dX0_isPartWhole_5 : decode cX0_isPartWhole 5 = .ok (.if_icmp .eq 30, 3) := by decide +kernel
theorem dX0_isPartWhole_8 : decode cX0_isPartWhole 8 = .ok (.aload_n 0, 1) := by decide +kernel
theorem dX0_isPartWhole_9 : decode cX0_isPartWhole 9 = .ok (.getfield 11, 3) := by decide +kernel
theorem dX0_isPartWhole_12 : decode cX0_isPartWhole 12 = .ok (.iconst 5, 1) := by decide +kernel
theorem dX0_isPartWhole_13 : decode cX0_isPartWhole 13 = .ok (.if_icmp .eq 22, 3) := by decide +kernel
theorem dX0_isPartWhole_16 : decode cX0_isPartWhole 16 = .ok (.aload_n 0, 1) := by decide +kernel
theorem dX0_isPartWhole_17 : decode cX0_isPartWhole 17 = .ok (.getfield 11, 3) := by decide +kernel
theorem dX0_isPartWhole_20 : decode cX0_isPartWhole 20 = .ok (.iconst 3, 1) := by decide +kernel
theorem dX0_isPartWhole_21 : decode cX0_isPartWhole 21 = .ok (.if_icmp .ne 18, 3) := by decide +kernel
theorem dX0_isPartWhole_24 : decode cX0_isPartWhole 24 = .ok (.aload_n 0, 1) := by decide +kernel
theorem dX0_isPartWhole_25 : decode cX0_isPartWhole 25 = .ok (.getfield 18, 3) := by decide +kernel
theorem dX0_isPartWhole_28 : decode cX0_isPartWhole 28 = .ok (.aload_n 0, 1) := by decide +kernel
theorem dX0_isPartWhole_29 : decode cX0_isPartWhole 29 = .ok (.getfield 15, 3) := by decide +kernel
theorem dX0_isPartWhole_32 : decode cX0_isPartWhole 32 = .ok (.if_icmp .le 7, 3) := by decide +kernel
theorem dX0_isPartWhole_35 : decode cX0_isPartWhole 35 = .ok (.iconst 1, 1) := by decide +kernel
theorem dX0_isPartWhole_36 : decode cX0_isPartWhole 36 = .ok (.goto 4, 3) := by decide +kernel
theorem dX0_isPartWhole_39 : decode cX0_isPartWhole 39 = .ok (.iconst 0, 1) := by decide +kernel
theorem dX0_isPartWhole_40 : decode cX0_isPartWhole 40 = .ok (.ireturn, 1) := by decide +kernel
set_option maxRecDepth 20000 in
theorem ggX0_accepts_X0_acceptsDigit : GoodIn wsX0_accepts wsX0_acceptsDigit := goodIn_r _ [7, 1, 2, 8, 9, 10, 11, 12, 6, 13, 14, 15, 16, 17, 18, 19, 20, 21, 22, 23, 24, 25, 26, 27, 28, 33, 34, 35, 36] (by decide +kernel) (by decide +kernel)
set_option maxRecDepth 20000 in
theorem gX0_accepts_X0_acceptsDigit : GoodIn wsX0_accepts (wsV RX0 24 RX0 yX0_acceptsDigit wsX0_acceptsDigit) := goodIn_app (goodIn_of _ (by decide +kernel)) ggX0_accepts_X0_acceptsDigit
set_option maxRecDepth 20000 in
theorem ggX0_accepts_X0_goesOn : GoodIn wsX0_accepts wsX0_goesOn := goodIn_r _ [13, 1, 33, 34, 35, 36] (by decide +kernel) (by decide +kernel)
set_option maxRecDepth 20000 in
theorem gX0_accepts_X0_goesOn : GoodIn wsX0_accepts (wsV RX0 28 RX0 yX0_goesOn wsX0_goesOn) := goodIn_app (goodIn_of _ (by decide +kernel)) ggX0_accepts_X0_goesOn
set_option maxRecDepth 20000 in
theorem ggX0_accepts_X0_isPartWhole : GoodIn wsX0_accepts wsX0_isPartWhole := goodIn_r _ [32, 1, 8, 2, 33, 34, 35, 36] (by decide +kernel) (by decide +kernel)
set_option maxRecDepth 20000 in
theorem gX0_accepts_X0_isPartWhole : GoodIn wsX0_accepts (wsV RX0 32 RX0 yX0_isPartWhole wsX0_isPartWhole) := goodIn_app (goodIn_of _ (by decide +kernel)) ggX0_accepts_X0_isPartWhole
theorem dX0_accepts_0 : decode cX0_accepts 0 = .ok (.iload_n 1, 1) := by decide +kernel
theorem dX0_accepts_1 : decode cX0_accepts 1 = .ok (.bipush 48, 2) := by decide +kernel
theorem dX0_accepts_3 : decode cX0_accepts 3 = .ok (.if_icmp .lt 18, 3) := by decide +kernel
theorem dX0_accepts_6 : decode cX0_accepts 6 = .ok (.iload_n 1, 1) := by decide +kernel
theorem dX0_accepts_7 : decode cX0_accepts 7 = .ok (.bipush 57, 2) := by decide +kernel
theorem dX0_accepts_9 : decode cX0_accepts 9 = .ok (.if_icmp .gt 12, 3) := by decide +kernel
theorem dX0_accepts_12 : decode cX0_accepts 12 = .ok (.aload_n 0, 1) := by decide +kernel
theorem dX0_accepts_13 : decode cX0_accepts 13 = .ok (.iload_n 1, 1) := by decide +kernel
theorem dX0_accepts_14 : decode cX0_accepts 14 = .ok (.bipush 48, 2) := by decide +kernel
theorem dX0_accepts_16 : decode cX0_accepts 16 = .ok (.isub, 1) := by decide +kernel
theorem dX0_accepts_17 : decode cX0_accepts 17 = .ok (.invokevirtual 24, 3) := by decide +kernel
theorem dX0_accepts_20 : decode cX0_accepts 20 = .ok (.ireturn, 1) := by decide +kernel
theorem dX0_accepts_21 : decode cX0_accepts 21 = .ok (.iload_n 1, 1) := by decide +kernel
theorem dX0_accepts_22 : decode cX0_accepts 22 = .ok (.lookupswitch 98 #[(45, 34), (59, 88), (104, 62)], 34) := by decide +kernel
theorem dX0_accepts_56 : decode cX0_accepts 56 = .ok (.aload_n 0, 1) := by decide +kernel
theorem dX0_accepts_57 : decode cX0_accepts 57 = .ok (.aload_n 0, 1) := by decide +kernel
theorem dX0_accepts_58 : decode cX0_accepts 58 = .ok (.getfield 11, 3) := by decide +kernel
theorem dX0_accepts_61 : decode cX0_accepts 61 = .ok (.iconst 1, 1) := by decide +kernel
theorem dX0_accepts_62 : decode cX0_accepts 62 = .ok (.if_icmp .ne 16, 3) := by decide +kernel
theorem dX0_accepts_65 : decode cX0_accepts 65 = .ok (.aload_n 0, 1) := by decide +kernel
theorem dX0_accepts_66 : decode cX0_accepts 66 = .ok (.getfield 15, 3) := by decide +kernel
theorem dX0_accepts_69 : decode cX0_accepts 69 = .ok (.bipush 39, 2) := by decide +kernel
theorem dX0_accepts_71 : decode cX0_accepts 71 = .ok (.if_icmp .ge 7, 3) := by decide +kernel
theorem dX0_accepts_74 : decode cX0_accepts 74 = .ok (.iconst 1, 1) := by decide +kernel
theorem dX0_accepts_75 : decode cX0_accepts 75 = .ok (.goto 4, 3) := by decide +kernel
theorem dX0_accepts_78 : decode cX0_accepts 78 = .ok (.iconst 0, 1) := by decide +kernel
theorem dX0_accepts_79 : decode cX0_accepts 79 = .ok (.iconst 2, 1) := by decide +kernel
theorem dX0_accepts_80 : decode cX0_accepts 80 = .ok (.invokevirtual 28, 3) := by decide +kernel
theorem dX0_accepts_83 : decode cX0_accepts 83 = .ok (.ireturn, 1) := by decide +kernel
theorem dX0_accepts_84 : decode cX0_accepts 84 = .ok (.aload_n 0, 1) := by decide +kernel
theorem dX0_accepts_85 : decode cX0_accepts 85 = .ok (.aload_n 0, 1) := by decide +kernel
theorem dX0_accepts_86 : decode cX0_accepts 86 = .ok (.invokevirtual 32, 3) := by decide +kernel
theorem dX0_accepts_89 : decode cX0_accepts 89 = .ok (.ifCond .eq 15, 3) := by decide +kernel
theorem dX0_accepts_92 : decode cX0_accepts 92 = .ok (.aload_n 0, 1) := by decide +kernel
theorem dX0_accepts_93 : decode cX0_accepts 93 = .ok (.getfield 11, 3) := by decide +kernel
theorem dX0_accepts_96 : decode cX0_accepts 96 = .ok (.iconst 5, 1) := by decide +kernel
theorem dX0_accepts_97 : decode cX0_accepts 97 = .ok (.if_icmp .eq 7, 3) := by decide +kernel
theorem dX0_accepts_100 : decode cX0_accepts 100 = .ok (.iconst 1, 1) := by decide +kernel
theorem dX0_accepts_101 : decode cX0_accepts 101 = .ok (.goto 4, 3) := by decide +kernel
theorem dX0_accepts_104 : decode cX0_accepts 104 = .ok (.iconst 0, 1) := by decide +kernel
theorem dX0_accepts_105 : decode cX0_accepts 105 = .ok (.iconst 4, 1) := by decide +kernel
theorem dX0_accepts_106 : decode cX0_accepts 106 = .ok (.invokevirtual 28, 3) := by decide +kernel
theorem dX0_accepts_109 : decode cX0_accepts 109 = .ok (.ireturn, 1) := by decide +kernel
theorem dX0_accepts_110 : decode cX0_accepts 110 = .ok (.aload_n 0, 1) := by decide +kernel
theorem dX0_accepts_111 : decode cX0_accepts 111 = .ok (.aload_n 0, 1) := by decide +kernel
theorem dX0_accepts_112 : decode cX0_accepts 112 = .ok (.invokevirtual 32, 3) := by decide +kernel
theorem dX0_accepts_115 : decode cX0_accepts 115 = .ok (.iconst 0, 1) := by decide +kernel
theorem dX0_accepts_116 : decode cX0_accepts 116 = .ok (.invokevirtual 28, 3) := by decide +kernel
theorem dX0_accepts_119 : decode cX0_accepts 119 = .ok (.ireturn, 1) := by decide +kernel
theorem dX0_accepts_120 : decode cX0_accepts 120 = .ok (.iconst 0, 1) := by decide +kernel
theorem dX0_accepts_121 : decode cX0_accepts 121 = .ok (.ireturn, 1) := by decide +kernel
set_option maxRecDepth 20000 in
theorem ggX0_acceptsDigit_X0_goesOn : GoodIn wsX0_acceptsDigit wsX0_goesOn := goodIn_r _ [9, 1, 25, 26, 27, 28] (by decide +kernel) (by decide +kernel)
set_option maxRecDepth 20000 in
theorem gX0_acceptsDigit_X0_goesOn : GoodIn wsX0_acceptsDigit (wsV RX0 28 RX0 yX0_goesOn wsX0_goesOn) := goodIn_app (goodIn_of _ (by decide +kernel)) ggX0_acceptsDigit_X0_goesOn
set_option maxRecDepth 20000 in
theorem ggX0_acceptsDigit_X0_acceptsFirst : GoodIn wsX0_acceptsDigit wsX0_acceptsFirst := goodIn_r _ [13, 2, 3, 14, 15, 8, 16, 25, 26, 27, 28] (by decide +kernel) (by decide +kernel)
set_option maxRecDepth 20000 in
theorem gX0_acceptsDigit_X0_acceptsFirst : GoodIn wsX0_acceptsDigit (wsV RX0 36 RX0 yX0_acceptsFirst wsX0_acceptsFirst) := goodIn_app (goodIn_of _ (by decide +kernel)) ggX0_acceptsDigit_X0_acceptsFirst
set_option maxRecDepth 20000 in
theorem ggX0_acceptsDigit_X0_mayGrow : GoodIn wsX0_acceptsDigit wsX0_mayGrow := goodIn_r _ [16] (by decide +kernel) (by decide +kernel)
set_option maxRecDepth 20000 in
theorem gX0_acceptsDigit_X0_mayGrow : GoodIn wsX0_acceptsDigit (va_wsS RX0 39 yX0_mayGrow wsX0_mayGrow) := goodIn_app (goodIn_of _ (by decide +kernel)) ggX0_acceptsDigit_X0_mayGrow
set_option maxRecDepth 20000 in
theorem ggX0_acceptsDigit_X0_acceptsLast : GoodIn wsX0_acceptsDigit wsX0_acceptsLast := goodIn_r _ [20, 3, 5, 6, 7, 8, 9, 1, 25, 26, 27, 28] (by decide +kernel) (by decide +kernel)
set_option maxRecDepth 20000 in
theorem gX0_acceptsDigit_X0_acceptsLast : GoodIn wsX0_acceptsDigit (wsV RX0 42 RX0 yX0_acceptsLast wsX0_acceptsLast) := goodIn_app (goodIn_of _ (by decide +kernel)) ggX0_acceptsDigit_X0_acceptsLast
set_option maxRecDepth 20000 in
theorem ggX0_acceptsDigit_X0_acceptsHint : GoodIn wsX0_acceptsDigit wsX0_acceptsHint := goodIn_r _ [24, 4, 5, 6, 7, 8, 9, 1, 25, 26, 27, 28] (by decide +kernel) (by decide +kernel)
set_option maxRecDepth 20000 in
theorem gX0_acceptsDigit_X0_acceptsHint : GoodIn wsX0_acceptsDigit (wsV RX0 46 RX0 yX0_acceptsHint wsX0_acceptsHint) := goodIn_app (goodIn_of _ (by decide +kernel)) ggX0_acceptsDigit_X0_acceptsHint
theorem dX0_acceptsDigit_0 : decode cX0_acceptsDigit 0 = .ok (.aload_n 0, 1) := by decide +kernel
theorem dX0_acceptsDigit_1 : decode cX0_acceptsDigit 1 = .ok (.getfield 11, 3) := by decide +kernel
theorem dX0_acceptsDigit_4 : decode cX0_acceptsDigit 4 = .ok (.tableswitch 163 0 4 #[36, 58, 72, 112, 157], 36) := by decide +kernel
theorem dX0_acceptsDigit_40 : decode cX0_acceptsDigit 40 = .ok (.aload_n 0, 1) := by decide +kernel
theorem dX0_acceptsDigit_41 : decode cX0_acceptsDigit 41 = .ok (.iload_n 1, 1) := by decide +kernel
theorem dX0_acceptsDigit_42 : decode cX0_acceptsDigit 42 = .ok (.putfield 15, 3) := by decide +kernel
theorem dX0_acceptsDigit_45 : decode cX0_acceptsDigit 45 = .ok (.aload_n 0, 1) := by decide +kernel
theorem dX0_acceptsDigit_46 : decode cX0_acceptsDigit 46 = .ok (.iload_n 1, 1) := by decide +kernel
theorem dX0_acceptsDigit_47 : decode cX0_acceptsDigit 47 = .ok (.putfield 18, 3) := by decide +kernel
theorem dX0_acceptsDigit_50 : decode cX0_acceptsDigit 50 = .ok (.aload_n 0, 1) := by decide +kernel
theorem dX0_acceptsDigit_51 : decode cX0_acceptsDigit 51 = .ok (.iconst 0, 1) := by decide +kernel
theorem dX0_acceptsDigit_52 : decode cX0_acceptsDigit 52 = .ok (.putfield 21, 3) := by decide +kernel
theorem dX0_acceptsDigit_55 : decode cX0_acceptsDigit 55 = .ok (.aload_n 0, 1) := by decide +kernel
theorem dX0_acceptsDigit_56 : decode cX0_acceptsDigit 56 = .ok (.iconst 1, 1) := by decide +kernel
theorem dX0_acceptsDigit_57 : decode cX0_acceptsDigit 57 = .ok (.iconst 1, 1) := by decide +kernel
theorem dX0_acceptsDigit_58 : decode cX0_acceptsDigit 58 = .ok (.invokevirtual 28, 3) := by decide +kernel
theorem dX0_acceptsDigit_61 : decode cX0_acceptsDigit 61 = .ok (.ireturn, 1) := by decide +kernel
theorem dX0_acceptsDigit_62 : decode cX0_acceptsDigit 62 = .ok (.aload_n 0, 1) := by decide +kernel
theorem dX0_acceptsDigit_63 : decode cX0_acceptsDigit 63 = .ok (.aload_n 0, 1) := by decide +kernel
theorem dX0_acceptsDigit_64 : decode cX0_acceptsDigit 64 = .ok (.getfield 15, 3) := by decide +kernel
theorem dX0_acceptsDigit_67 : decode cX0_acceptsDigit 67 = .ok (.bipush 10, 2) := by decide +kernel
theorem dX0_acceptsDigit_69 : decode cX0_acceptsDigit 69 = .ok (.imul, 1) := by decide +kernel
theorem dX0_acceptsDigit_70 : decode cX0_acceptsDigit 70 = .ok (.iload_n 1, 1) := by decide +kernel
theorem dX0_acceptsDigit_71 : decode cX0_acceptsDigit 71 = .ok (.iadd, 1) := by decide +kernel
theorem dX0_acceptsDigit_72 : decode cX0_acceptsDigit 72 = .ok (.invokevirtual 36, 3) := by decide +kernel
theorem dX0_acceptsDigit_75 : decode cX0_acceptsDigit 75 = .ok (.ireturn, 1) := by decide +kernel
theorem dX0_acceptsDigit_76 : decode cX0_acceptsDigit 76 = .ok (.aload_n 0, 1) := by decide +kernel
theorem dX0_acceptsDigit_77 : decode cX0_acceptsDigit 77 = .ok (.iload_n 1, 1) := by decide +kernel
theorem dX0_acceptsDigit_78 : decode cX0_acceptsDigit 78 = .ok (.iload_n 1, 1) := by decide +kernel
theorem dX0_acceptsDigit_79 : decode cX0_acceptsDigit 79 = .ok (.aload_n 0, 1) := by decide +kernel
theorem dX0_acceptsDigit_80 : decode cX0_acceptsDigit 80 = .ok (.getfield 15, 3) := by decide +kernel
theorem dX0_acceptsDigit_83 : decode cX0_acceptsDigit 83 = .ok (.if_icmp .gt 24, 3) := by decide +kernel
theorem dX0_acceptsDigit_86 : decode cX0_acceptsDigit 86 = .ok (.iload_n 1, 1) := by decide +kernel
theorem dX0_acceptsDigit_87 : decode cX0_acceptsDigit 87 = .ok (.invokestatic 39, 3) := by decide +kernel
theorem dX0_acceptsDigit_90 : decode cX0_acceptsDigit 90 = .ok (.ifCond .eq 21, 3) := by decide +kernel
theorem dX0_acceptsDigit_93 : decode cX0_acceptsDigit 93 = .ok (.iload_n 1, 1) := by decide +kernel
theorem dX0_acceptsDigit_94 : decode cX0_acceptsDigit 94 = .ok (.bipush 10, 2) := by decide +kernel
theorem dX0_acceptsDigit_96 : decode cX0_acceptsDigit 96 = .ok (.imul, 1) := by decide +kernel
theorem dX0_acceptsDigit_97 : decode cX0_acceptsDigit 97 = .ok (.bipush 9, 2) := by decide +kernel
theorem dX0_acceptsDigit_99 : decode cX0_acceptsDigit 99 = .ok (.iadd, 1) := by decide +kernel
theorem dX0_acceptsDigit_100 : decode cX0_acceptsDigit 100 = .ok (.aload_n 0, 1) := by decide +kernel
theorem dX0_acceptsDigit_101 : decode cX0_acceptsDigit 101 = .ok (.getfield 15, 3) := by decide +kernel
theorem dX0_acceptsDigit_104 : decode cX0_acceptsDigit 104 = .ok (.if_icmp .le 7, 3) := by decide +kernel
theorem dX0_acceptsDigit_107 : decode cX0_acceptsDigit 107 = .ok (.iconst 1, 1) := by decide +kernel
theorem dX0_acceptsDigit_108 : decode cX0_acceptsDigit 108 = .ok (.goto 4, 3) := by decide +kernel
theorem dX0_acceptsDigit_111 : decode cX0_acceptsDigit 111 = .ok (.iconst 0, 1) := by decide +kernel
theorem dX0_acceptsDigit_112 : decode cX0_acceptsDigit 112 = .ok (.invokevirtual 42, 3) := by decide +kernel
theorem dX0_acceptsDigit_115 : decode cX0_acceptsDigit 115 = .ok (.ireturn, 1) := by decide +kernel
theorem dX0_acceptsDigit_116 : decode cX0_acceptsDigit 116 = .ok (.aload_n 0, 1) := by decide +kernel
theorem dX0_acceptsDigit_117 : decode cX0_acceptsDigit 117 = .ok (.aload_n 0, 1) := by decide +kernel
theorem dX0_acceptsDigit_118 : decode cX0_acceptsDigit 118 = .ok (.getfield 18, 3) := by decide +kernel
theorem dX0_acceptsDigit_121 : decode cX0_acceptsDigit 121 = .ok (.bipush 10, 2) := by decide +kernel
theorem dX0_acceptsDigit_123 : decode cX0_acceptsDigit 123 = .ok (.imul, 1) := by decide +kernel
theorem dX0_acceptsDigit_124 : decode cX0_acceptsDigit 124 = .ok (.iload_n 1, 1) := by decide +kernel
theorem dX0_acceptsDigit_125 : decode cX0_acceptsDigit 125 = .ok (.iadd, 1) := by decide +kernel
theorem dX0_acceptsDigit_126 : decode cX0_acceptsDigit 126 = .ok (.aload_n 0, 1) := by decide +kernel
theorem dX0_acceptsDigit_127 : decode cX0_acceptsDigit 127 = .ok (.getfield 18, 3) := by decide +kernel
theorem dX0_acceptsDigit_130 : decode cX0_acceptsDigit 130 = .ok (.invokestatic 39, 3) := by decide +kernel
theorem dX0_acceptsDigit_133 : decode cX0_acceptsDigit 133 = .ok (.ifCond .eq 23, 3) := by decide +kernel
theorem dX0_acceptsDigit_136 : decode cX0_acceptsDigit 136 = .ok (.aload_n 0, 1) := by decide +kernel
theorem dX0_acceptsDigit_137 : decode cX0_acceptsDigit 137 = .ok (.getfield 18, 3) := by decide +kernel
theorem dX0_acceptsDigit_140 : decode cX0_acceptsDigit 140 = .ok (.bipush 10, 2) := by decide +kernel
theorem dX0_acceptsDigit_142 : decode cX0_acceptsDigit 142 = .ok (.imul, 1) := by decide +kernel
theorem dX0_acceptsDigit_143 : decode cX0_acceptsDigit 143 = .ok (.iload_n 1, 1) := by decide +kernel
theorem dX0_acceptsDigit_144 : decode cX0_acceptsDigit 144 = .ok (.iadd, 1) := by decide +kernel
theorem dX0_acceptsDigit_145 : decode cX0_acceptsDigit 145 = .ok (.aload_n 0, 1) := by decide +kernel
theorem dX0_acceptsDigit_146 : decode cX0_acceptsDigit 146 = .ok (.getfield 15, 3) := by decide +kernel
theorem dX0_acceptsDigit_149 : decode cX0_acceptsDigit 149 = .ok (.if_icmp .le 7, 3) := by decide +kernel
theorem dX0_acceptsDigit_152 : decode cX0_acceptsDigit 152 = .ok (.iconst 1, 1) := by decide +kernel
theorem dX0_acceptsDigit_153 : decode cX0_acceptsDigit 153 = .ok (.goto 4, 3) := by decide +kernel
theorem dX0_acceptsDigit_156 : decode cX0_acceptsDigit 156 = .ok (.iconst 0, 1) := by decide +kernel
theorem dX0_acceptsDigit_157 : decode cX0_acceptsDigit 157 = .ok (.invokevirtual 42, 3) := by decide +kernel
theorem dX0_acceptsDigit_160 : decode cX0_acceptsDigit 160 = .ok (.ireturn, 1) := by decide +kernel
theorem dX0_acceptsDigit_161 : decode cX0_acceptsDigit 161 = .ok (.aload_n 0, 1) := by decide +kernel
theorem dX0_acceptsDigit_162 : decode cX0_acceptsDigit 162 = .ok (.iload_n 1, 1) := by decide +kernel
theorem dX0_acceptsDigit_163 : decode cX0_acceptsDigit 163 = .ok (.invokevirtual 46, 3) := by decide +kernel
theorem dX0_acceptsDigit_166 : decode cX0_acceptsDigit 166 = .ok (.ireturn, 1) := by decide +kernel
theorem dX0_acceptsDigit_167 : decode cX0_acceptsDigit 167 = .ok (.iconst 0, 1) := by decide +kernel
theorem dX0_acceptsDigit_168 : decode cX0_acceptsDigit 168 = .ok (.ireturn, 1) := by decide +kernel
set_option maxRecDepth 20000 in
theorem ggX0_acceptsFirst_X0_mayGrow : GoodIn wsX0_acceptsFirst wsX0_mayGrow := goodIn_r _ [6] (by decide +kernel) (by decide +kernel)
set_option maxRecDepth 20000 in
theorem gX0_acceptsFirst_X0_mayGrow : GoodIn wsX0_acceptsFirst (va_wsS RX0 39 yX0_mayGrow wsX0_mayGrow) := goodIn_app (goodIn_of _ (by decide +kernel)) ggX0_acceptsFirst_X0_mayGrow
theorem dX0_acceptsFirst_0 : decode cX0_acceptsFirst 0 = .ok (.aload_n 0, 1) := by decide +kernel
theorem dX0_acceptsFirst_1 : decode cX0_acceptsFirst 1 = .ok (.getfield 15, 3) := by decide +kernel
theorem dX0_acceptsFirst_4 : decode cX0_acceptsFirst 4 = .ok (.invokestatic 39, 3) := by decide +kernel
theorem dX0_acceptsFirst_7 : decode cX0_acceptsFirst 7 = .ok (.ifCond .ne 5, 3) := by decide +kernel
theorem dX0_acceptsFirst_10 : decode cX0_acceptsFirst 10 = .ok (.iconst 0, 1) := by decide +kernel
theorem dX0_acceptsFirst_11 : decode cX0_acceptsFirst 11 = .ok (.ireturn, 1) := by decide +kernel
theorem dX0_acceptsFirst_12 : decode cX0_acceptsFirst 12 = .ok (.aload_n 0, 1) := by decide +kernel
theorem dX0_acceptsFirst_13 : decode cX0_acceptsFirst 13 = .ok (.iload_n 1, 1) := by decide +kernel
theorem dX0_acceptsFirst_14 : decode cX0_acceptsFirst 14 = .ok (.putfield 15, 3) := by decide +kernel
theorem dX0_acceptsFirst_17 : decode cX0_acceptsFirst 17 = .ok (.aload_n 0, 1) := by decide +kernel
theorem dX0_acceptsFirst_18 : decode cX0_acceptsFirst 18 = .ok (.iload_n 1, 1) := by decide +kernel
theorem dX0_acceptsFirst_19 : decode cX0_acceptsFirst 19 = .ok (.putfield 18, 3) := by decide +kernel
theorem dX0_acceptsFirst_22 : decode cX0_acceptsFirst 22 = .ok (.iconst 1, 1) := by decide +kernel
theorem dX0_acceptsFirst_23 : decode cX0_acceptsFirst 23 = .ok (.ireturn, 1) := by decide +kernel
set_option maxRecDepth 20000 in
theorem ggX0_acceptsLast_X0_goesOn : GoodIn wsX0_acceptsLast wsX0_goesOn := goodIn_r _ [6, 7, 8, 9, 10, 11] (by decide +kernel) (by decide +kernel)
set_option maxRecDepth 20000 in
theorem gX0_acceptsLast_X0_goesOn : GoodIn wsX0_acceptsLast (wsV RX0 28 RX0 yX0_goesOn wsX0_goesOn) := goodIn_app (goodIn_of _ (by decide +kernel)) ggX0_acceptsLast_X0_goesOn
theorem dX0_acceptsLast_0 : decode cX0_acceptsLast 0 = .ok (.iload_n 2, 1) := by decide +kernel
theorem dX0_acceptsLast_1 : decode cX0_acceptsLast 1 = .ok (.ifCond .ne 5, 3) := by decide +kernel
theorem dX0_acceptsLast_4 : decode cX0_acceptsLast 4 = .ok (.iconst 0, 1) := by decide +kernel
theorem dX0_acceptsLast_5 : decode cX0_acceptsLast 5 = .ok (.ireturn, 1) := by decide +kernel
theorem dX0_acceptsLast_6 : decode cX0_acceptsLast 6 = .ok (.aload_n 0, 1) := by decide +kernel
theorem dX0_acceptsLast_7 : decode cX0_acceptsLast 7 = .ok (.iload_n 1, 1) := by decide +kernel
theorem dX0_acceptsLast_8 : decode cX0_acceptsLast 8 = .ok (.putfield 18, 3) := by decide +kernel
theorem dX0_acceptsLast_11 : decode cX0_acceptsLast 11 = .ok (.aload_n 0, 1) := by decide +kernel
theorem dX0_acceptsLast_12 : decode cX0_acceptsLast 12 = .ok (.iconst 1, 1) := by decide +kernel
theorem dX0_acceptsLast_13 : decode cX0_acceptsLast 13 = .ok (.iconst 3, 1) := by decide +kernel
theorem dX0_acceptsLast_14 : decode cX0_acceptsLast 14 = .ok (.invokevirtual 28, 3) := by decide +kernel
theorem dX0_acceptsLast_17 : decode cX0_acceptsLast 17 = .ok (.ireturn, 1) := by decide +kernel
set_option maxRecDepth 20000 in
theorem ggX0_acceptsHint_X0_goesOn : GoodIn wsX0_acceptsHint wsX0_goesOn := goodIn_r _ [6, 7, 8, 9, 10, 11] (by decide +kernel) (by decide +kernel)
set_option maxRecDepth 20000 in
theorem gX0_acceptsHint_X0_goesOn : GoodIn wsX0_acceptsHint (wsV RX0 28 RX0 yX0_goesOn wsX0_goesOn) := goodIn_app (goodIn_of _ (by decide +kernel)) ggX0_acceptsHint_X0_goesOn
theorem dX0_acceptsHint_0 : decode cX0_acceptsHint 0 = .ok (.iload_n 1, 1) := by decide +kernel
theorem dX0_acceptsHint_1 : decode cX0_acceptsHint 1 = .ok (.iconst 4, 1) := by decide +kernel
theorem dX0_acceptsHint_2 : decode cX0_acceptsHint 2 = .ok (.if_icmp .lt 5, 3) := by decide +kernel
theorem dX0_acceptsHint_5 : decode cX0_acceptsHint 5 = .ok (.iconst 0, 1) := by decide +kernel
theorem dX0_acceptsHint_6 : decode cX0_acceptsHint 6 = .ok (.ireturn, 1) := by decide +kernel
theorem dX0_acceptsHint_7 : decode cX0_acceptsHint 7 = .ok (.aload_n 0, 1) := by decide +kernel
theorem dX0_acceptsHint_8 : decode cX0_acceptsHint 8 = .ok (.iload_n 1, 1) := by decide +kernel
theorem dX0_acceptsHint_9 : decode cX0_acceptsHint 9 = .ok (.putfield 21, 3) := by decide +kernel
theorem dX0_acceptsHint_12 : decode cX0_acceptsHint 12 = .ok (.aload_n 0, 1) := by decide +kernel
theorem dX0_acceptsHint_13 : decode cX0_acceptsHint 13 = .ok (.iconst 1, 1) := by decide +kernel
theorem dX0_acceptsHint_14 : decode cX0_acceptsHint 14 = .ok (.iconst 5, 1) := by decide +kernel
theorem dX0_acceptsHint_15 : decode cX0_acceptsHint 15 = .ok (.invokevirtual 28, 3) := by decide +kernel
theorem dX0_acceptsHint_18 : decode cX0_acceptsHint 18 = .ok (.ireturn, 1) := by decide +kernel
theorem dX0_goesOn_0 : decode cX0_goesOn 0 = .ok (.iload_n 1, 1) := by decide +kernel
theorem dX0_goesOn_1 : decode cX0_goesOn 1 = .ok (.ifCond .eq 8, 3) := by decide +kernel
theorem dX0_goesOn_4 : decode cX0_goesOn 4 = .ok (.aload_n 0, 1) := by decide +kernel
theorem dX0_goesOn_5 : decode cX0_goesOn 5 = .ok (.iload_n 2, 1) := by decide +kernel
theorem dX0_goesOn_6 : decode cX0_goesOn 6 = .ok (.putfield 11, 3) := by decide +kernel
theorem dX0_goesOn_9 : decode cX0_goesOn 9 = .ok (.iload_n 1, 1) := by decide +kernel
theorem dX0_goesOn_10 : decode cX0_goesOn 10 = .ok (.ireturn, 1) := by decide +kernel
theorem dX0_mayGrow_0 : decode cX0_mayGrow 0 = .ok (.iload_n 0, 1) := by decide +kernel
theorem dX0_mayGrow_1 : decode cX0_mayGrow 1 = .ok (.iconst 1, 1) := by decide +kernel
theorem dX0_mayGrow_2 : decode cX0_mayGrow 2 = .ok (.if_icmp .lt 12, 3) := by decide +kernel
theorem dX0_mayGrow_5 : decode cX0_mayGrow 5 = .ok (.iload_n 0, 1) := by decide +kernel
theorem dX0_mayGrow_6 : decode cX0_mayGrow 6 = .ok (.iconst 3, 1) := by decide +kernel
theorem dX0_mayGrow_7 : decode cX0_mayGrow 7 = .ok (.if_icmp .gt 7, 3) := by decide +kernel
theorem dX0_mayGrow_10 : decode cX0_mayGrow 10 = .ok (.iconst 1, 1) := by decide +kernel
theorem dX0_mayGrow_11 : decode cX0_mayGrow 11 = .ok (.goto 4, 3) := by decide +kernel
theorem dX0_mayGrow_14 : decode cX0_mayGrow 14 = .ok (.iconst 0, 1) := by decide +kernel
theorem dX0_mayGrow_15 : decode cX0_mayGrow 15 = .ok (.ireturn, 1) := by decide +kernel
set_option maxRecDepth 20000 in
theorem ggX1_init_J7_fill_53178 : GoodIn wsX1_init wsJ7_fill_53178 := goodIn_r _ [25] (by decide +kernel) (by decide +kernel)
set_option maxRecDepth 20000 in
theorem gX1_init_J7_fill_53178 : GoodIn wsX1_init (va_wsS RX1 64 yJ7_fill_53178 wsJ7_fill_53178) := goodIn_app (goodIn_of _ (by decide +kernel)) ggX1_init_J7_fill_53178
theorem dX1_init_0 : decode cX1_init 0 = .ok (.aload_n 0, 1) := by decide +kernel
theorem dX1_init_1 : decode cX1_init 1 = .ok (.invokespecial 3, 3) := by decide +kernel
theorem dX1_init_4 : decode cX1_init 4 = .ok (.aload_n 0, 1) := by decide +kernel
theorem dX1_init_5 : decode cX1_init 5 = .ok (.bipush 40, 2) := by decide +kernel
theorem dX1_init_7 : decode cX1_init 7 = .ok (.newarray .int, 2) := by decide +kernel
theorem dX1_init_9 : decode cX1_init 9 = .ok (.putfield 9, 3) := by decide +kernel
theorem dX1_init_12 : decode cX1_init 12 = .ok (.aload_n 0, 1) := by decide +kernel
theorem dX1_init_13 : decode cX1_init 13 = .ok (.bipush 40, 2) := by decide +kernel
theorem dX1_init_15 : decode cX1_init 15 = .ok (.newarray .int, 2) := by decide +kernel
theorem dX1_init_17 : decode cX1_init 17 = .ok (.putfield 15, 3) := by decide +kernel
theorem dX1_init_20 : decode cX1_init 20 = .ok (.aload_n 0, 1) := by decide +kernel
theorem dX1_init_21 : decode cX1_init 21 = .ok (.bipush 40, 2) := by decide +kernel
theorem dX1_init_23 : decode cX1_init 23 = .ok (.newarray .int, 2) := by decide +kernel
theorem dX1_init_25 : decode cX1_init 25 = .ok (.putfield 18, 3) := by decide +kernel
theorem dX1_init_28 : decode cX1_init 28 = .ok (.aload_n 0, 1) := by decide +kernel
theorem dX1_init_29 : decode cX1_init 29 = .ok (.bipush 40, 2) := by decide +kernel
theorem dX1_init_31 : decode cX1_init 31 = .ok (.newarray .int, 2) := by decide +kernel
theorem dX1_init_33 : decode cX1_init 33 = .ok (.putfield 21, 3) := by decide +kernel
theorem dX1_init_36 : decode cX1_init 36 = .ok (.aload_n 0, 1) := by decide +kernel
theorem dX1_init_37 : decode cX1_init 37 = .ok (.bipush 40, 2) := by decide +kernel
theorem dX1_init_39 : decode cX1_init 39 = .ok (.newarray .int, 2) := by decide +kernel
theorem dX1_init_41 : decode cX1_init 41 = .ok (.putfield 24, 3) := by decide +kernel
theorem dX1_init_44 : decode cX1_init 44 = .ok (.aload_n 0, 1) := by decide +kernel
theorem dX1_init_45 : decode cX1_init 45 = .ok (.bipush 96, 2) := by decide +kernel
theorem dX1_init_47 : decode cX1_init 47 = .ok (.newarray .int, 2) := by decide +kernel
theorem dX1_init_49 : decode cX1_init 49 = .ok (.putfield 27, 3) := by decide +kernel
theorem dX1_init_52 : decode cX1_init 52 = .ok (.aload_n 0, 1) := by decide +kernel
theorem dX1_init_53 : decode cX1_init 53 = .ok (.bipush 12, 2) := by decide +kernel
theorem dX1_init_55 : decode cX1_init 55 = .ok (.newarray .int, 2) := by decide +kernel
theorem dX1_init_57 : decode cX1_init 57 = .ok (.putfield 30, 3) := by decide +kernel
theorem dX1_init_60 : decode cX1_init 60 = .ok (.aload_n 0, 1) := by decide +kernel
theorem dX1_init_61 : decode cX1_init 61 = .ok (.bipush 12, 2) := by decide +kernel
theorem dX1_init_63 : decode cX1_init 63 = .ok (.newarray .int, 2) := by decide +kernel
theorem dX1_init_65 : decode cX1_init 65 = .ok (.putfield 33, 3) := by decide +kernel
theorem dX1_init_68 : decode cX1_init 68 = .ok (.aload_n 0, 1) := by decide +kernel
theorem dX1_init_69 : decode cX1_init 69 = .ok (.bipush 12, 2) := by decide +kernel
theorem dX1_init_71 : decode cX1_init 71 = .ok (.newarray .int, 2) := by decide +kernel
theorem dX1_init_73 : decode cX1_init 73 = .ok (.putfield 36, 3) := by decide +kernel
theorem dX1_init_76 : decode cX1_init 76 = .ok (.aload_n 0, 1) := by decide +kernel
theorem dX1_init_77 : decode cX1_init 77 = .ok (.bipush 12, 2) := by decide +kernel
theorem dX1_init_79 : decode cX1_init 79 = .ok (.newarray .int, 2) := by decide +kernel
theorem dX1_init_81 : decode cX1_init 81 = .ok (.putfield 39, 3) := by decide +kernel
theorem dX1_init_84 : decode cX1_init 84 = .ok (.aload_n 0, 1) := by decide +kernel
theorem dX1_init_85 : decode cX1_init 85 = .ok (.bipush 12, 2) := by decide +kernel
theorem dX1_init_87 : decode cX1_init 87 = .ok (.newarray .int, 2) := by decide +kernel
theorem dX1_init_89 : decode cX1_init 89 = .ok (.putfield 42, 3) := by decide +kernel
theorem dX1_init_92 : decode cX1_init 92 = .ok (.aload_n 0, 1) := by decide +kernel
theorem dX1_init_93 : decode cX1_init 93 = .ok (.iconst 5, 1) := by decide +kernel
theorem dX1_init_94 : decode cX1_init 94 = .ok (.newarray .int, 2) := by decide +kernel
theorem dX1_init_96 : decode cX1_init 96 = .ok (.putfield 45, 3) := by decide +kernel
theorem dX1_init_99 : decode cX1_init 99 = .ok (.aload_n 0, 1) := by decide +kernel
theorem dX1_init_100 : decode cX1_init 100 = .ok (.iconst 5, 1) := by decide +kernel
theorem dX1_init_101 : decode cX1_init 101 = .ok (.newarray .int, 2) := by decide +kernel
theorem dX1_init_103 : decode cX1_init 103 = .ok (.putfield 48, 3) := by decide +kernel
theorem dX1_init_106 : decode cX1_init 106 = .ok (.aload_n 0, 1) := by decide +kernel
theorem dX1_init_107 : decode cX1_init 107 = .ok (.iconst 5, 1) := by decide +kernel
theorem dX1_init_108 : decode cX1_init 108 = .ok (.newarray .int, 2) := by decide +kernel
theorem dX1_init_110 : decode cX1_init 110 = .ok (.putfield 51, 3) := by decide +kernel
theorem dX1_init_113 : decode cX1_init 113 = .ok (.aload_n 0, 1) := by decide +kernel
theorem dX1_init_114 : decode cX1_init 114 = .ok (.iconst 2, 1) := by decide +kernel
theorem dX1_init_115 : decode cX1_init 115 = .ok (.newarray .int, 2) := by decide +kernel
theorem dX1_init_117 : decode cX1_init 117 = .ok (.putfield 54, 3) := by decide +kernel
theorem dX1_init_120 : decode cX1_init 120 = .ok (.aload_n 0, 1) := by decide +kernel
theorem dX1_init_121 : decode cX1_init 121 = .ok (.bipush 12, 2) := by decide +kernel
theorem dX1_init_123 : decode cX1_init 123 = .ok (.putfield 57, 3) := by decide +kernel
theorem dX1_init_126 : decode cX1_init 126 = .ok (.aload_n 0, 1) := by decide +kernel
theorem dX1_init_127 : decode cX1_init 127 = .ok (.iconst 0, 1) := by decide +kernel
theorem dX1_init_128 : decode cX1_init 128 = .ok (.putfield 61, 3) := by decide +kernel
theorem dX1_init_131 : decode cX1_init 131 = .ok (.aload_n 0, 1) := by decide +kernel
theorem dX1_init_132 : decode cX1_init 132 = .ok (.getfield 9, 3) := by decide +kernel
theorem dX1_init_135 : decode cX1_init 135 = .ok (.iconst (-1), 1) := by decide +kernel
theorem dX1_init_136 : decode cX1_init 136 = .ok (.invokestatic 64, 3) := by decide +kernel
theorem dX1_init_139 : decode cX1_init 139 = .ok (.aload_n 0, 1) := by decide +kernel
theorem dX1_init_140 : decode cX1_init 140 = .ok (.getfield 27, 3) := by decide +kernel
theorem dX1_init_143 : decode cX1_init 143 = .ok (.iconst (-1), 1) := by decide +kernel
theorem dX1_init_144 : decode cX1_init 144 = .ok (.invokestatic 64, 3) := by decide +kernel
theorem dX1_init_147 : decode cX1_init 147 = .ok (.aload_n 0, 1) := by decide +kernel
theorem dX1_init_148 : decode cX1_init 148 = .ok (.getfield 30, 3) := by decide +kernel
theorem dX1_init_151 : decode cX1_init 151 = .ok (.iconst (-1), 1) := by decide +kernel
theorem dX1_init_152 : decode cX1_init 152 = .ok (.invokestatic 64, 3) := by decide +kernel
theorem dX1_init_155 : decode cX1_init 155 = .ok (.aload_n 0, 1) := by decide +kernel
theorem dX1_init_156 : decode cX1_init 156 = .ok (.getfield 45, 3) := by decide +kernel
theorem dX1_init_159 : decode cX1_init 159 = .ok (.iconst (-1), 1) := by decide +kernel
theorem dX1_init_160 : decode cX1_init 160 = .ok (.invokestatic 64, 3) := by decide +kernel
theorem dX1_init_163 : decode cX1_init 163 = .ok (.aload_n 0, 1) := by decide +kernel
theorem dX1_init_164 : decode cX1_init 164 = .ok (.getfield 54, 3) := by decide +kernel
theorem dX1_init_167 : decode cX1_init 167 = .ok (.iconst 1, 1) := by decide +kernel
theorem dX1_init_168 : decode cX1_init 168 = .ok (.iconst 2, 1) := by decide +kernel
theorem dX1_init_169 : decode cX1_init 169 = .ok (.iastore, 1) := by decide +kernel
theorem dX1_init_170 : decode cX1_init 170 = .ok (.return_, 1) := by decide +kernel
set_option maxRecDepth 20000 in
theorem ggX1_becomeLike_X1_copyRow : GoodIn wsX1_becomeLike wsX1_copyRow := goodIn_r _ [21, 22, 23, 24, 25, 26, 27, 28, 29] (by decide +kernel) (by decide +kernel)
set_option maxRecDepth 20000 in
theorem gX1_becomeLike_X1_copyRow : GoodIn wsX1_becomeLike (va_wsS RX1 70 yX1_copyRow wsX1_copyRow) := goodIn_app (goodIn_of _ (by decide +kernel)) ggX1_becomeLike_X1_copyRow
theorem dX1_becomeLike_0 : decode cX1_becomeLike 0 = .ok (.aload_n 1, 1) := by decide +kernel
theorem dX1_becomeLike_1 : decode cX1_becomeLike 1 = .ok (.getfield 9, 3) := by decide +kernel
theorem dX1_becomeLike_4 : decode cX1_becomeLike 4 = .ok (.aload_n 0, 1) := by decide +kernel
theorem dX1_becomeLike_5 : decode cX1_becomeLike 5 = .ok (.getfield 9, 3) := by decide +kernel
theorem dX1_becomeLike_8 : decode cX1_becomeLike 8 = .ok (.invokestatic 70, 3) := by decide +kernel
theorem dX1_becomeLike_11 : decode cX1_becomeLike 11 = .ok (.aload_n 1, 1) := by decide +kernel
theorem dX1_becomeLike_12 : decode cX1_becomeLike 12 = .ok (.getfield 15, 3) := by decide +kernel
theorem dX1_becomeLike_15 : decode cX1_becomeLike 15 = .ok (.aload_n 0, 1) := by decide +kernel
theorem dX1_becomeLike_16 : decode cX1_becomeLike 16 = .ok (.getfield 15, 3) := by decide +kernel
theorem dX1_becomeLike_19 : decode cX1_becomeLike 19 = .ok (.invokestatic 70, 3) := by decide +kernel
theorem dX1_becomeLike_22 : decode cX1_becomeLike 22 = .ok (.aload_n 1, 1) := by decide +kernel
theorem dX1_becomeLike_23 : decode cX1_becomeLike 23 = .ok (.getfield 18, 3) := by decide +kernel
theorem dX1_becomeLike_26 : decode cX1_becomeLike 26 = .ok (.aload_n 0, 1) := by decide +kernel
theorem dX1_becomeLike_27 : decode cX1_becomeLike 27 = .ok (.getfield 18, 3) := by decide +kernel
theorem dX1_becomeLike_30 : decode cX1_becomeLike 30 = .ok (.invokestatic 70, 3) := by decide +kernel
theorem dX1_becomeLike_33 : decode cX1_becomeLike 33 = .ok (.aload_n 1, 1) := by decide +kernel
theorem dX1_becomeLike_34 : decode cX1_becomeLike 34 = .ok (.getfield 21, 3) := by decide +kernel
theorem dX1_becomeLike_37 : decode cX1_becomeLike 37 = .ok (.aload_n 0, 1) := by decide +kernel
theorem dX1_becomeLike_38 : decode cX1_becomeLike 38 = .ok (.getfield 21, 3) := by decide +kernel
theorem dX1_becomeLike_41 : decode cX1_becomeLike 41 = .ok (.invokestatic 70, 3) := by decide +kernel
theorem dX1_becomeLike_44 : decode cX1_becomeLike 44 = .ok (.aload_n 1, 1) := by decide +kernel
theorem dX1_becomeLike_45 : decode cX1_becomeLike 45 = .ok (.getfield 24, 3) := by decide +kernel
theorem dX1_becomeLike_48 : decode cX1_becomeLike 48 = .ok (.aload_n 0, 1) := by decide +kernel
theorem dX1_becomeLike_49 : decode cX1_becomeLike 49 = .ok (.getfield 24, 3) := by decide +kernel
theorem dX1_becomeLike_52 : decode cX1_becomeLike 52 = .ok (.invokestatic 70, 3) := by decide +kernel
theorem dX1_becomeLike_55 : decode cX1_becomeLike 55 = .ok (.aload_n 1, 1) := by decide +kernel
theorem dX1_becomeLike_56 : decode cX1_becomeLike 56 = .ok (.getfield 27, 3) := by decide +kernel
theorem dX1_becomeLike_59 : decode cX1_becomeLike 59 = .ok (.aload_n 0, 1) := by decide +kernel
theorem dX1_becomeLike_60 : decode cX1_becomeLike 60 = .ok (.getfield 27, 3) := by decide +kernel
theorem dX1_becomeLike_63 : decode cX1_becomeLike 63 = .ok (.invokestatic 70, 3) := by decide +kernel
theorem dX1_becomeLike_66 : decode cX1_becomeLike 66 = .ok (.aload_n 1, 1) := by decide +kernel
theorem dX1_becomeLike_67 : decode cX1_becomeLike 67 = .ok (.getfield 30, 3) := by decide +kernel
theorem dX1_becomeLike_70 : decode cX1_becomeLike 70 = .ok (.aload_n 0, 1) := by decide +kernel
theorem dX1_becomeLike_71 : decode cX1_becomeLike 71 = .ok (.getfield 30, 3) := by decide +kernel
theorem dX1_becomeLike_74 : decode cX1_becomeLike 74 = .ok (.invokestatic 70, 3) := by decide +kernel
theorem dX1_becomeLike_77 : decode cX1_becomeLike 77 = .ok (.aload_n 1, 1) := by decide +kernel
theorem dX1_becomeLike_78 : decode cX1_becomeLike 78 = .ok (.getfield 33, 3) := by decide +kernel
theorem dX1_becomeLike_81 : decode cX1_becomeLike 81 = .ok (.aload_n 0, 1) := by decide +kernel
theorem dX1_becomeLike_82 : decode cX1_becomeLike 82 = .ok (.getfield 33, 3) := by decide +kernel
theorem dX1_becomeLike_85 : decode cX1_becomeLike 85 = .ok (.invokestatic 70, 3) := by decide +kernel
theorem dX1_becomeLike_88 : decode cX1_becomeLike 88 = .ok (.aload_n 1, 1) := by decide +kernel
theorem dX1_becomeLike_89 : decode cX1_becomeLike 89 = .ok (.getfield 36, 3) := by decide +kernel
theorem dX1_becomeLike_92 : decode cX1_becomeLike 92 = .ok (.aload_n 0, 1) := by decide +kernel
theorem dX1_becomeLike_93 : decode cX1_becomeLike 93 = .ok (.getfield 36, 3) := by decide +kernel
theorem dX1_becomeLike_96 : decode cX1_becomeLike 96 = .ok (.invokestatic 70, 3) := by decide +kernel
theorem dX1_becomeLike_99 : decode cX1_becomeLike 99 = .ok (.aload_n 1, 1) := by decide +kernel
theorem dX1_becomeLike_100 : decode cX1_becomeLike 100 = .ok (.getfield 39, 3) := by decide +kernel
theorem dX1_becomeLike_103 : decode cX1_becomeLike 103 = .ok (.aload_n 0, 1) := by decide +kernel
theorem dX1_becomeLike_104 : decode cX1_becomeLike 104 = .ok (.getfield 39, 3) := by decide +kernel
theorem dX1_becomeLike_107 : decode cX1_becomeLike 107 = .ok (.invokestatic 70, 3) := by decide +kernel
theorem dX1_becomeLike_110 : decode cX1_becomeLike 110 = .ok (.aload_n 1, 1) := by decide +kernel
theorem dX1_becomeLike_111 : decode cX1_becomeLike 111 = .ok (.getfield 42, 3) := by decide +kernel
theorem dX1_becomeLike_114 : decode cX1_becomeLike 114 = .ok (.aload_n 0, 1) := by decide +kernel
theorem dX1_becomeLike_115 : decode cX1_becomeLike 115 = .ok (.getfield 42, 3) := by decide +kernel
theorem dX1_becomeLike_118 : decode cX1_becomeLike 118 = .ok (.invokestatic 70, 3) := by decide +kernel
theorem dX1_becomeLike_121 : decode cX1_becomeLike 121 = .ok (.aload_n 1, 1) := by decide +kernel
theorem dX1_becomeLike_122 : decode cX1_becomeLike 122 = .ok (.getfield 45, 3) := by decide +kernel
theorem dX1_becomeLike_125 : decode cX1_becomeLike 125 = .ok (.aload_n 0, 1) := by decide +kernel
theorem dX1_becomeLike_126 : decode cX1_becomeLike 126 = .ok (.getfield 45, 3) := by decide +kernel
theorem dX1_becomeLike_129 : decode cX1_becomeLike 129 = .ok (.invokestatic 70, 3) := by decide +kernel
theorem dX1_becomeLike_132 : decode cX1_becomeLike 132 = .ok (.aload_n 1, 1) := by decide +kernel
theorem dX1_becomeLike_133 : decode cX1_becomeLike 133 = .ok (.getfield 48, 3) := by decide +kernel
theorem dX1_becomeLike_136 : decode cX1_becomeLike 136 = .ok (.aload_n 0, 1) := by decide +kernel
theorem dX1_becomeLike_137 : decode cX1_becomeLike 137 = .ok (.getfield 48, 3) := by decide +kernel
theorem dX1_becomeLike_140 : decode cX1_becomeLike 140 = .ok (.invokestatic 70, 3) := by decide +kernel
theorem dX1_becomeLike_143 : decode cX1_becomeLike 143 = .ok (.aload_n 1, 1) := by decide +kernel
theorem dX1_becomeLike_144 : decode cX1_becomeLike 144 = .ok (.getfield 51, 3) := by decide +kernel
theorem dX1_becomeLike_147 : decode cX1_becomeLike 147 = .ok (.aload_n 0, 1) := by decide +kernel
theorem dX1_becomeLike_148 : decode cX1_becomeLike 148 = .ok (.getfield 51, 3) := by decide +kernel
theorem dX1_becomeLike_151 : decode cX1_becomeLike 151 = .ok (.invokestatic 70, 3) := by decide +kernel
theorem dX1_becomeLike_154 : decode cX1_becomeLike 154 = .ok (.aload_n 1, 1) := by decide +kernel
theorem dX1_becomeLike_155 : decode cX1_becomeLike 155 = .ok (.getfield 54, 3) := by decide +kernel
theorem dX1_becomeLike_158 : decode cX1_becomeLike 158 = .ok (.aload_n 0, 1) := by decide +kernel
theorem dX1_becomeLike_159 : decode cX1_becomeLike 159 = .ok (.getfield 54, 3) := by decide +kernel
theorem dX1_becomeLike_162 : decode cX1_becomeLike 162 = .ok (.invokestatic 70, 3) := by decide +kernel
theorem dX1_becomeLike_165 : decode cX1_becomeLike 165 = .ok (.aload_n 0, 1) := by decide +kernel
theorem dX1_becomeLike_166 : decode cX1_becomeLike 166 = .ok (.aload_n 1, 1) := by decide +kernel
theorem dX1_becomeLike_167 : decode cX1_becomeLike 167 = .ok (.getfield 57, 3) := by decide +kernel
theorem dX1_becomeLike_170 : decode cX1_becomeLike 170 = .ok (.putfield 57, 3) := by decide +kernel
theorem dX1_becomeLike_173 : decode cX1_becomeLike 173 = .ok (.aload_n 0, 1) := by decide +kernel
theorem dX1_becomeLike_174 : decode cX1_becomeLike 174 = .ok (.aload_n 1, 1) := by decide +kernel
theorem dX1_becomeLike_175 : decode cX1_becomeLike 175 = .ok (.getfield 61, 3) := by decide +kernel
theorem dX1_becomeLike_178 : decode cX1_becomeLike 178 = .ok (.putfield 61, 3) := by decide +kernel
theorem dX1_becomeLike_181 : decode cX1_becomeLike 181 = .ok (.return_, 1) := by decide +kernel
theorem dX1_copyRow_0 : decode cX1_copyRow 0 = .ok (.aload_n 0, 1) := by decide +kernel
theorem dX1_copyRow_1 : decode cX1_copyRow 1 = .ok (.iconst 0, 1) := by decide +kernel
theorem dX1_copyRow_2 : decode cX1_copyRow 2 = .ok (.aload_n 1, 1) := by decide +kernel
theorem dX1_copyRow_3 : decode cX1_copyRow 3 = .ok (.iconst 0, 1) := by decide +kernel
theorem dX1_copyRow_4 : decode cX1_copyRow 4 = .ok (.aload_n 0, 1) := by decide +kernel
theorem dX1_copyRow_5 : decode cX1_copyRow 5 = .ok (.arraylength, 1) := by decide +kernel
theorem dX1_copyRow_6 : decode cX1_copyRow 6 = .ok (.aload_n 1, 1) := by decide +kernel
theorem dX1_copyRow_7 : decode cX1_copyRow 7 = .ok (.arraylength, 1) := by decide +kernel
theorem dX1_copyRow_8 : decode cX1_copyRow 8 = .ok (.invokestatic 74, 3) := by decide +kernel
theorem dX1_copyRow_11 : decode cX1_copyRow 11 = .ok (.invokestatic 80, 3) := by decide +kernel
theorem dX1_copyRow_14 : decode cX1_copyRow 14 = .ok (.return_, 1) := by decide +kernel
set_option maxRecDepth 20000 in
theorem ggX1_writePages_X1_copies : GoodIn wsX1_writePages wsX1_copies := goodIn_r _ [5, 6, 60, 61, 62, 63, 64, 65, 66, 67, 68, 69, 70, 71, 72, 73, 74, 75, 76] (by decide +kernel) (by decide +kernel)
set_option maxRecDepth 20000 in
theorem gX1_writePages_X1_copies : GoodIn wsX1_writePages (wsV RX1 86 RX1 yX1_copies wsX1_copies) := goodIn_app (goodIn_of _ (by decide +kernel)) ggX1_writePages_X1_copies
set_option maxRecDepth 20000 in
theorem ggX1_writePages_X1_writePage : GoodIn wsX1_writePages wsX1_writePage := goodIn_r _ [10, 11, 12, 13, 14, 15, 16, 17, 4, 18, 19, 20, 21, 22, 23, 24, 25, 26, 27, 28, 29, 30, 31, 32, 33, 34, 35, 36, 37, 38, 39, 40, 41, 42, 43, 44, 45, 46, 47, 48, 49, 50, 51, 52, 53, 54, 6, 55, 56, 57, 58, 59, 60, 61, 62, 63, 64, 65, 66, 67, 68, 69, 70, 71, 72, 73, 74, 75, 76] (by decide +kernel) (by decide +kernel)
set_option maxRecDepth 20000 in
theorem gX1_writePages_X1_writePage : GoodIn wsX1_writePages (wsV RX1 90 RX1 yX1_writePage wsX1_writePage) := goodIn_app (goodIn_of _ (by decide +kernel)) ggX1_writePages_X1_writePage
theorem dX1_writePages_0 : decode cX1_writePages 0 = .ok (.aload_n 0, 1) := by decide +kernel
theorem dX1_writePages_1 : decode cX1_writePages 1 = .ok (.invokevirtual 86, 3) := by decide +kernel
theorem dX1_writePages_4 : decode cX1_writePages 4 = .ok (.istore 4, 2) := by decide +kernel
theorem dX1_writePages_6 : decode cX1_writePages 6 = .ok (.iload_n 1, 1) := by decide +kernel
theorem dX1_writePages_7 : decode cX1_writePages 7 = .ok (.istore 5, 2) := by decide +kernel
theorem dX1_writePages_9 : decode cX1_writePages 9 = .ok (.iload 5, 2) := by decide +kernel
theorem dX1_writePages_11 : decode cX1_writePages 11 = .ok (.iload_n 2, 1) := by decide +kernel
theorem dX1_writePages_12 : decode cX1_writePages 12 = .ok (.if_icmp .gt 23, 3) := by decide +kernel
theorem dX1_writePages_15 : decode cX1_writePages 15 = .ok (.iload 5, 2) := by decide +kernel
theorem dX1_writePages_17 : decode cX1_writePages 17 = .ok (.bipush 40, 2) := by decide +kernel
theorem dX1_writePages_19 : decode cX1_writePages 19 = .ok (.if_icmp .ge 16, 3) := by decide +kernel
theorem dX1_writePages_22 : decode cX1_writePages 22 = .ok (.aload_n 0, 1) := by decide +kernel
theorem dX1_writePages_23 : decode cX1_writePages 23 = .ok (.iload 5, 2) := by decide +kernel
theorem dX1_writePages_25 : decode cX1_writePages 25 = .ok (.iload_n 3, 1) := by decide +kernel
theorem dX1_writePages_26 : decode cX1_writePages 26 = .ok (.invokevirtual 90, 3) := by decide +kernel
theorem dX1_writePages_29 : decode cX1_writePages 29 = .ok (.iinc 5 1, 3) := by decide +kernel
theorem dX1_writePages_32 : decode cX1_writePages 32 = .ok (.goto (-23), 3) := by decide +kernel
theorem dX1_writePages_35 : decode cX1_writePages 35 = .ok (.aload_n 0, 1) := by decide +kernel
theorem dX1_writePages_36 : decode cX1_writePages 36 = .ok (.invokevirtual 86, 3) := by decide +kernel
theorem dX1_writePages_39 : decode cX1_writePages 39 = .ok (.iload 4, 2) := by decide +kernel
theorem dX1_writePages_41 : decode cX1_writePages 41 = .ok (.isub, 1) := by decide +kernel
theorem dX1_writePages_42 : decode cX1_writePages 42 = .ok (.ireturn, 1) := by decide +kernel
set_option maxRecDepth 20000 in
theorem ggX1_writePage_X1_collectVictims : GoodIn wsX1_writePage wsX1_collectVictims := goodIn_r _ [9, 10, 11, 12, 13, 14, 8, 15, 16, 17, 18, 19, 20, 21, 1, 22, 23, 24, 25, 26, 27, 28, 3, 29, 2, 30, 31, 32, 33, 34, 35, 36, 37, 38, 39, 40, 41, 42, 43, 44, 45, 46, 47, 48, 49, 50, 51, 52, 53, 54, 55, 56, 57, 58, 59, 60, 61, 62, 63, 64, 65, 66, 67, 68] (by decide +kernel) (by decide +kernel)
set_option maxRecDepth 20000 in
theorem gX1_writePage_X1_collectVictims : GoodIn wsX1_writePage (wsV RX1 94 RX1 yX1_collectVictims wsX1_collectVictims) := goodIn_app (goodIn_of _ (by decide +kernel)) ggX1_writePage_X1_collectVictims
set_option maxRecDepth 20000 in
theorem ggX1_writePage_X1_openBlock : GoodIn wsX1_writePage wsX1_openBlock := goodIn_r _ [39, 40, 41, 23, 10, 52, 53, 54, 55, 56, 57, 58, 59, 60, 61, 62, 63, 64, 65, 66, 67, 68] (by decide +kernel) (by decide +kernel)
set_option maxRecDepth 20000 in
theorem gX1_writePage_X1_openBlock : GoodIn wsX1_writePage (wsV RX1 98 RX1 yX1_openBlock wsX1_openBlock) := goodIn_app (goodIn_of _ (by decide +kernel)) ggX1_writePage_X1_openBlock
set_option maxRecDepth 20000 in
theorem ggX1_writePage_X1_program : GoodIn wsX1_writePage wsX1_program := goodIn_r _ [45, 16, 35, 17, 34, 46, 40, 22, 47, 52, 53, 54, 55, 56, 57, 58, 59, 60, 61, 62, 63, 64, 65, 66, 67, 68] (by decide +kernel) (by decide +kernel)
set_option maxRecDepth 20000 in
theorem gX1_writePage_X1_program : GoodIn wsX1_writePage (wsV RX1 101 RX1 yX1_program wsX1_program) := goodIn_app (goodIn_of _ (by decide +kernel)) ggX1_writePage_X1_program
theorem dX1_writePage_0 : decode cX1_writePage 0 = .ok (.aload_n 0, 1) := by decide +kernel
theorem dX1_writePage_1 : decode cX1_writePage 1 = .ok (.aload_n 0, 1) := by decide +kernel
theorem dX1_writePage_2 : decode cX1_writePage 2 = .ok (.getfield 54, 3) := by decide +kernel
theorem dX1_writePage_5 : decode cX1_writePage 5 = .ok (.iconst 1, 1) := by decide +kernel
theorem dX1_writePage_6 : decode cX1_writePage 6 = .ok (.iaload, 1) := by decide +kernel
theorem dX1_writePage_7 : decode cX1_writePage 7 = .ok (.invokevirtual 94, 3) := by decide +kernel
theorem dX1_writePage_10 : decode cX1_writePage 10 = .ok (.pop, 1) := by decide +kernel
theorem dX1_writePage_11 : decode cX1_writePage 11 = .ok (.aload_n 0, 1) := by decide +kernel
theorem dX1_writePage_12 : decode cX1_writePage 12 = .ok (.getfield 15, 3) := by decide +kernel
theorem dX1_writePage_15 : decode cX1_writePage 15 = .ok (.iload_n 1, 1) := by decide +kernel
theorem dX1_writePage_16 : decode cX1_writePage 16 = .ok (.iload_n 2, 1) := by decide +kernel
theorem dX1_writePage_17 : decode cX1_writePage 17 = .ok (.iastore, 1) := by decide +kernel
theorem dX1_writePage_18 : decode cX1_writePage 18 = .ok (.aload_n 0, 1) := by decide +kernel
theorem dX1_writePage_19 : decode cX1_writePage 19 = .ok (.getfield 24, 3) := by decide +kernel
theorem dX1_writePage_22 : decode cX1_writePage 22 = .ok (.iload_n 1, 1) := by decide +kernel
theorem dX1_writePage_23 : decode cX1_writePage 23 = .ok (.iconst 0, 1) := by decide +kernel
theorem dX1_writePage_24 : decode cX1_writePage 24 = .ok (.iastore, 1) := by decide +kernel
theorem dX1_writePage_25 : decode cX1_writePage 25 = .ok (.aload_n 0, 1) := by decide +kernel
theorem dX1_writePage_26 : decode cX1_writePage 26 = .ok (.getfield 18, 3) := by decide +kernel
theorem dX1_writePage_29 : decode cX1_writePage 29 = .ok (.iload_n 1, 1) := by decide +kernel
theorem dX1_writePage_30 : decode cX1_writePage 30 = .ok (.dup2, 1) := by decide +kernel
theorem dX1_writePage_31 : decode cX1_writePage 31 = .ok (.iaload, 1) := by decide +kernel
theorem dX1_writePage_32 : decode cX1_writePage 32 = .ok (.iconst 1, 1) := by decide +kernel
theorem dX1_writePage_33 : decode cX1_writePage 33 = .ok (.iadd, 1) := by decide +kernel
theorem dX1_writePage_34 : decode cX1_writePage 34 = .ok (.iastore, 1) := by decide +kernel
theorem dX1_writePage_35 : decode cX1_writePage 35 = .ok (.aload_n 0, 1) := by decide +kernel
theorem dX1_writePage_36 : decode cX1_writePage 36 = .ok (.iload_n 1, 1) := by decide +kernel
theorem dX1_writePage_37 : decode cX1_writePage 37 = .ok (.iload_n 2, 1) := by decide +kernel
theorem dX1_writePage_38 : decode cX1_writePage 38 = .ok (.aload_n 0, 1) := by decide +kernel
theorem dX1_writePage_39 : decode cX1_writePage 39 = .ok (.iload_n 2, 1) := by decide +kernel
theorem dX1_writePage_40 : decode cX1_writePage 40 = .ok (.invokevirtual 98, 3) := by decide +kernel
theorem dX1_writePage_43 : decode cX1_writePage 43 = .ok (.invokevirtual 101, 3) := by decide +kernel
theorem dX1_writePage_46 : decode cX1_writePage 46 = .ok (.return_, 1) := by decide +kernel
theorem dX1_forget_0 : decode cX1_forget 0 = .ok (.aload_n 0, 1) := by decide +kernel
theorem dX1_forget_1 : decode cX1_forget 1 = .ok (.getfield 9, 3) := by decide +kernel
theorem dX1_forget_4 : decode cX1_forget 4 = .ok (.iload_n 1, 1) := by decide +kernel
theorem dX1_forget_5 : decode cX1_forget 5 = .ok (.iaload, 1) := by decide +kernel
theorem dX1_forget_6 : decode cX1_forget 6 = .ok (.istore_n 2, 1) := by decide +kernel
theorem dX1_forget_7 : decode cX1_forget 7 = .ok (.iload_n 2, 1) := by decide +kernel
theorem dX1_forget_8 : decode cX1_forget 8 = .ok (.iconst (-1), 1) := by decide +kernel
theorem dX1_forget_9 : decode cX1_forget 9 = .ok (.if_icmp .eq 16, 3) := by decide +kernel
theorem dX1_forget_12 : decode cX1_forget 12 = .ok (.aload_n 0, 1) := by decide +kernel
theorem dX1_forget_13 : decode cX1_forget 13 = .ok (.getfield 36, 3) := by decide +kernel
theorem dX1_forget_16 : decode cX1_forget 16 = .ok (.iload_n 2, 1) := by decide +kernel
theorem dX1_forget_17 : decode cX1_forget 17 = .ok (.bipush 8, 2) := by decide +kernel
theorem dX1_forget_19 : decode cX1_forget 19 = .ok (.idiv, 1) := by decide +kernel
theorem dX1_forget_20 : decode cX1_forget 20 = .ok (.dup2, 1) := by decide +kernel
theorem dX1_forget_21 : decode cX1_forget 21 = .ok (.iaload, 1) := by decide +kernel
theorem dX1_forget_22 : decode cX1_forget 22 = .ok (.iconst 1, 1) := by decide +kernel
theorem dX1_forget_23 : decode cX1_forget 23 = .ok (.isub, 1) := by decide +kernel
theorem dX1_forget_24 : decode cX1_forget 24 = .ok (.iastore, 1) := by decide +kernel
theorem dX1_forget_25 : decode cX1_forget 25 = .ok (.aload_n 0, 1) := by decide +kernel
theorem dX1_forget_26 : decode cX1_forget 26 = .ok (.getfield 9, 3) := by decide +kernel
theorem dX1_forget_29 : decode cX1_forget 29 = .ok (.iload_n 1, 1) := by decide +kernel
theorem dX1_forget_30 : decode cX1_forget 30 = .ok (.iconst (-1), 1) := by decide +kernel
theorem dX1_forget_31 : decode cX1_forget 31 = .ok (.iastore, 1) := by decide +kernel
theorem dX1_forget_32 : decode cX1_forget 32 = .ok (.aload_n 0, 1) := by decide +kernel
theorem dX1_forget_33 : decode cX1_forget 33 = .ok (.getfield 24, 3) := by decide +kernel
theorem dX1_forget_36 : decode cX1_forget 36 = .ok (.iload_n 1, 1) := by decide +kernel
theorem dX1_forget_37 : decode cX1_forget 37 = .ok (.iconst 0, 1) := by decide +kernel
theorem dX1_forget_38 : decode cX1_forget 38 = .ok (.iastore, 1) := by decide +kernel
theorem dX1_forget_39 : decode cX1_forget 39 = .ok (.return_, 1) := by decide +kernel
theorem dX1_openBlock_0 : decode cX1_openBlock 0 = .ok (.aload_n 0, 1) := by decide +kernel
theorem dX1_openBlock_1 : decode cX1_openBlock 1 = .ok (.getfield 45, 3) := by decide +kernel
theorem dX1_openBlock_4 : decode cX1_openBlock 4 = .ok (.iload_n 1, 1) := by decide +kernel
theorem dX1_openBlock_5 : decode cX1_openBlock 5 = .ok (.iaload, 1) := by decide +kernel
theorem dX1_openBlock_6 : decode cX1_openBlock 6 = .ok (.iconst (-1), 1) := by decide +kernel
theorem dX1_openBlock_7 : decode cX1_openBlock 7 = .ok (.if_icmp .eq 10, 3) := by decide +kernel
theorem dX1_openBlock_10 : decode cX1_openBlock 10 = .ok (.aload_n 0, 1) := by decide +kernel
theorem dX1_openBlock_11 : decode cX1_openBlock 11 = .ok (.getfield 45, 3) := by decide +kernel
theorem dX1_openBlock_14 : decode cX1_openBlock 14 = .ok (.iload_n 1, 1) := by decide +kernel
theorem dX1_openBlock_15 : decode cX1_openBlock 15 = .ok (.iaload, 1) := by decide +kernel
theorem dX1_openBlock_16 : decode cX1_openBlock 16 = .ok (.ireturn, 1) := by decide +kernel
theorem dX1_openBlock_17 : decode cX1_openBlock 17 = .ok (.iconst (-1), 1) := by decide +kernel
theorem dX1_openBlock_18 : decode cX1_openBlock 18 = .ok (.istore_n 2, 1) := by decide +kernel
theorem dX1_openBlock_19 : decode cX1_openBlock 19 = .ok (.iconst 0, 1) := by decide +kernel
theorem dX1_openBlock_20 : decode cX1_openBlock 20 = .ok (.istore_n 3, 1) := by decide +kernel
theorem dX1_openBlock_21 : decode cX1_openBlock 21 = .ok (.iload_n 3, 1) := by decide +kernel
theorem dX1_openBlock_22 : decode cX1_openBlock 22 = .ok (.bipush 12, 2) := by decide +kernel
theorem dX1_openBlock_24 : decode cX1_openBlock 24 = .ok (.if_icmp .ge 41, 3) := by decide +kernel
theorem dX1_openBlock_27 : decode cX1_openBlock 27 = .ok (.aload_n 0, 1) := by decide +kernel
theorem dX1_openBlock_28 : decode cX1_openBlock 28 = .ok (.getfield 30, 3) := by decide +kernel
theorem dX1_openBlock_31 : decode cX1_openBlock 31 = .ok (.iload_n 3, 1) := by decide +kernel
theorem dX1_openBlock_32 : decode cX1_openBlock 32 = .ok (.iaload, 1) := by decide +kernel
theorem dX1_openBlock_33 : decode cX1_openBlock 33 = .ok (.iconst (-1), 1) := by decide +kernel
theorem dX1_openBlock_34 : decode cX1_openBlock 34 = .ok (.if_icmp .ne 25, 3) := by decide +kernel
theorem dX1_openBlock_37 : decode cX1_openBlock 37 = .ok (.iload_n 2, 1) := by decide +kernel
theorem dX1_openBlock_38 : decode cX1_openBlock 38 = .ok (.iconst (-1), 1) := by decide +kernel
theorem dX1_openBlock_39 : decode cX1_openBlock 39 = .ok (.if_icmp .eq 18, 3) := by decide +kernel
theorem dX1_openBlock_42 : decode cX1_openBlock 42 = .ok (.aload_n 0, 1) := by decide +kernel
theorem dX1_openBlock_43 : decode cX1_openBlock 43 = .ok (.getfield 39, 3) := by decide +kernel
theorem dX1_openBlock_46 : decode cX1_openBlock 46 = .ok (.iload_n 3, 1) := by decide +kernel
theorem dX1_openBlock_47 : decode cX1_openBlock 47 = .ok (.iaload, 1) := by decide +kernel
theorem dX1_openBlock_48 : decode cX1_openBlock 48 = .ok (.aload_n 0, 1) := by decide +kernel
theorem dX1_openBlock_49 : decode cX1_openBlock 49 = .ok (.getfield 39, 3) := by decide +kernel
theorem dX1_openBlock_52 : decode cX1_openBlock 52 = .ok (.iload_n 2, 1) := by decide +kernel
theorem dX1_openBlock_53 : decode cX1_openBlock 53 = .ok (.iaload, 1) := by decide +kernel
theorem dX1_openBlock_54 : decode cX1_openBlock 54 = .ok (.if_icmp .ge 5, 3) := by decide +kernel
theorem dX1_openBlock_57 : decode cX1_openBlock 57 = .ok (.iload_n 3, 1) := by decide +kernel
theorem dX1_openBlock_58 : decode cX1_openBlock 58 = .ok (.istore_n 2, 1) := by decide +kernel
theorem dX1_openBlock_59 : decode cX1_openBlock 59 = .ok (.iinc 3 1, 3) := by decide +kernel
theorem dX1_openBlock_62 : decode cX1_openBlock 62 = .ok (.goto (-41), 3) := by decide +kernel
theorem dX1_openBlock_65 : decode cX1_openBlock 65 = .ok (.iload_n 2, 1) := by decide +kernel
theorem dX1_openBlock_66 : decode cX1_openBlock 66 = .ok (.iconst (-1), 1) := by decide +kernel
theorem dX1_openBlock_67 : decode cX1_openBlock 67 = .ok (.if_icmp .eq 27, 3) := by decide +kernel
theorem dX1_openBlock_70 : decode cX1_openBlock 70 = .ok (.aload_n 0, 1) := by decide +kernel
theorem dX1_openBlock_71 : decode cX1_openBlock 71 = .ok (.getfield 30, 3) := by decide +kernel
theorem dX1_openBlock_74 : decode cX1_openBlock 74 = .ok (.iload_n 2, 1) := by decide +kernel
theorem dX1_openBlock_75 : decode cX1_openBlock 75 = .ok (.iload_n 1, 1) := by decide +kernel
theorem dX1_openBlock_76 : decode cX1_openBlock 76 = .ok (.iastore, 1) := by decide +kernel
theorem dX1_openBlock_77 : decode cX1_openBlock 77 = .ok (.aload_n 0, 1) := by decide +kernel
theorem dX1_openBlock_78 : decode cX1_openBlock 78 = .ok (.getfield 45, 3) := by decide +kernel
theorem dX1_openBlock_81 : decode cX1_openBlock 81 = .ok (.iload_n 1, 1) := by decide +kernel
theorem dX1_openBlock_82 : decode cX1_openBlock 82 = .ok (.iload_n 2, 1) := by decide +kernel
theorem dX1_openBlock_83 : decode cX1_openBlock 83 = .ok (.iastore, 1) := by decide +kernel
theorem dX1_openBlock_84 : decode cX1_openBlock 84 = .ok (.aload_n 0, 1) := by decide +kernel
theorem dX1_openBlock_85 : decode cX1_openBlock 85 = .ok (.dup, 1) := by decide +kernel
theorem dX1_openBlock_86 : decode cX1_openBlock 86 = .ok (.getfield 57, 3) := by decide +kernel
theorem dX1_openBlock_89 : decode cX1_openBlock 89 = .ok (.iconst 1, 1) := by decide +kernel
theorem dX1_openBlock_90 : decode cX1_openBlock 90 = .ok (.isub, 1) := by decide +kernel
theorem dX1_openBlock_91 : decode cX1_openBlock 91 = .ok (.putfield 57, 3) := by decide +kernel
theorem dX1_openBlock_94 : decode cX1_openBlock 94 = .ok (.iload_n 2, 1) := by decide +kernel
theorem dX1_openBlock_95 : decode cX1_openBlock 95 = .ok (.ireturn, 1) := by decide +kernel
theorem dX1_program_0 : decode cX1_program 0 = .ok (.iload_n 3, 1) := by decide +kernel
theorem dX1_program_1 : decode cX1_program 1 = .ok (.iconst (-1), 1) := by decide +kernel
theorem dX1_program_2 : decode cX1_program 2 = .ok (.if_icmp .eq 14, 3) := by decide +kernel
theorem dX1_program_5 : decode cX1_program 5 = .ok (.aload_n 0, 1) := by decide +kernel
theorem dX1_program_6 : decode cX1_program 6 = .ok (.getfield 33, 3) := by decide +kernel
theorem dX1_program_9 : decode cX1_program 9 = .ok (.iload_n 3, 1) := by decide +kernel
theorem dX1_program_10 : decode cX1_program 10 = .ok (.iaload, 1) := by decide +kernel
theorem dX1_program_11 : decode cX1_program 11 = .ok (.bipush 8, 2) := by decide +kernel
theorem dX1_program_13 : decode cX1_program 13 = .ok (.if_icmp .lt 4, 3) := by decide +kernel
theorem dX1_program_16 : decode cX1_program 16 = .ok (.return_, 1) := by decide +kernel
theorem dX1_program_17 : decode cX1_program 17 = .ok (.aload_n 0, 1) := by decide +kernel
theorem dX1_program_18 : decode cX1_program 18 = .ok (.getfield 9, 3) := by decide +kernel
theorem dX1_program_21 : decode cX1_program 21 = .ok (.iload_n 1, 1) := by decide +kernel
theorem dX1_program_22 : decode cX1_program 22 = .ok (.iaload, 1) := by decide +kernel
theorem dX1_program_23 : decode cX1_program 23 = .ok (.istore 4, 2) := by decide +kernel
theorem dX1_program_25 : decode cX1_program 25 = .ok (.iload 4, 2) := by decide +kernel
theorem dX1_program_27 : decode cX1_program 27 = .ok (.iconst (-1), 1) := by decide +kernel
theorem dX1_program_28 : decode cX1_program 28 = .ok (.if_icmp .eq 17, 3) := by decide +kernel
theorem dX1_program_31 : decode cX1_program 31 = .ok (.aload_n 0, 1) := by decide +kernel
theorem dX1_program_32 : decode cX1_program 32 = .ok (.getfield 36, 3) := by decide +kernel
theorem dX1_program_35 : decode cX1_program 35 = .ok (.iload 4, 2) := by decide +kernel
theorem dX1_program_37 : decode cX1_program 37 = .ok (.bipush 8, 2) := by decide +kernel
theorem dX1_program_39 : decode cX1_program 39 = .ok (.idiv, 1) := by decide +kernel
theorem dX1_program_40 : decode cX1_program 40 = .ok (.dup2, 1) := by decide +kernel
theorem dX1_program_41 : decode cX1_program 41 = .ok (.iaload, 1) := by decide +kernel
theorem dX1_program_42 : decode cX1_program 42 = .ok (.iconst 1, 1) := by decide +kernel
theorem dX1_program_43 : decode cX1_program 43 = .ok (.isub, 1) := by decide +kernel
theorem dX1_program_44 : decode cX1_program 44 = .ok (.iastore, 1) := by decide +kernel
theorem dX1_program_45 : decode cX1_program 45 = .ok (.iload_n 3, 1) := by decide +kernel
theorem dX1_program_46 : decode cX1_program 46 = .ok (.bipush 8, 2) := by decide +kernel
theorem dX1_program_48 : decode cX1_program 48 = .ok (.imul, 1) := by decide +kernel
theorem dX1_program_49 : decode cX1_program 49 = .ok (.aload_n 0, 1) := by decide +kernel
theorem dX1_program_50 : decode cX1_program 50 = .ok (.getfield 33, 3) := by decide +kernel
theorem dX1_program_53 : decode cX1_program 53 = .ok (.iload_n 3, 1) := by decide +kernel
theorem dX1_program_54 : decode cX1_program 54 = .ok (.iaload, 1) := by decide +kernel
theorem dX1_program_55 : decode cX1_program 55 = .ok (.iadd, 1) := by decide +kernel
theorem dX1_program_56 : decode cX1_program 56 = .ok (.istore 5, 2) := by decide +kernel
theorem dX1_program_58 : decode cX1_program 58 = .ok (.aload_n 0, 1) := by decide +kernel
theorem dX1_program_59 : decode cX1_program 59 = .ok (.getfield 9, 3) := by decide +kernel
theorem dX1_program_62 : decode cX1_program 62 = .ok (.iload_n 1, 1) := by decide +kernel
theorem dX1_program_63 : decode cX1_program 63 = .ok (.iload 5, 2) := by decide +kernel
theorem dX1_program_65 : decode cX1_program 65 = .ok (.iastore, 1) := by decide +kernel
theorem dX1_program_66 : decode cX1_program 66 = .ok (.aload_n 0, 1) := by decide +kernel
theorem dX1_program_67 : decode cX1_program 67 = .ok (.getfield 27, 3) := by decide +kernel
theorem dX1_program_70 : decode cX1_program 70 = .ok (.iload 5, 2) := by decide +kernel
theorem dX1_program_72 : decode cX1_program 72 = .ok (.iload_n 1, 1) := by decide +kernel
theorem dX1_program_73 : decode cX1_program 73 = .ok (.iastore, 1) := by decide +kernel
theorem dX1_program_74 : decode cX1_program 74 = .ok (.aload_n 0, 1) := by decide +kernel
theorem dX1_program_75 : decode cX1_program 75 = .ok (.getfield 36, 3) := by decide +kernel
theorem dX1_program_78 : decode cX1_program 78 = .ok (.iload_n 3, 1) := by decide +kernel
theorem dX1_program_79 : decode cX1_program 79 = .ok (.dup2, 1) := by decide +kernel
theorem dX1_program_80 : decode cX1_program 80 = .ok (.iaload, 1) := by decide +kernel
theorem dX1_program_81 : decode cX1_program 81 = .ok (.iconst 1, 1) := by decide +kernel
theorem dX1_program_82 : decode cX1_program 82 = .ok (.iadd, 1) := by decide +kernel
theorem dX1_program_83 : decode cX1_program 83 = .ok (.iastore, 1) := by decide +kernel
theorem dX1_program_84 : decode cX1_program 84 = .ok (.aload_n 0, 1) := by decide +kernel
theorem dX1_program_85 : decode cX1_program 85 = .ok (.getfield 33, 3) := by decide +kernel
theorem dX1_program_88 : decode cX1_program 88 = .ok (.iload_n 3, 1) := by decide +kernel
theorem dX1_program_89 : decode cX1_program 89 = .ok (.dup2, 1) := by decide +kernel
theorem dX1_program_90 : decode cX1_program 90 = .ok (.iaload, 1) := by decide +kernel
theorem dX1_program_91 : decode cX1_program 91 = .ok (.iconst 1, 1) := by decide +kernel
theorem dX1_program_92 : decode cX1_program 92 = .ok (.iadd, 1) := by decide +kernel
theorem dX1_program_93 : decode cX1_program 93 = .ok (.iastore, 1) := by decide +kernel
theorem dX1_program_94 : decode cX1_program 94 = .ok (.aload_n 0, 1) := by decide +kernel
theorem dX1_program_95 : decode cX1_program 95 = .ok (.getfield 48, 3) := by decide +kernel
theorem dX1_program_98 : decode cX1_program 98 = .ok (.iload_n 2, 1) := by decide +kernel
theorem dX1_program_99 : decode cX1_program 99 = .ok (.dup2, 1) := by decide +kernel
theorem dX1_program_100 : decode cX1_program 100 = .ok (.iaload, 1) := by decide +kernel
theorem dX1_program_101 : decode cX1_program 101 = .ok (.iconst 1, 1) := by decide +kernel
theorem dX1_program_102 : decode cX1_program 102 = .ok (.iadd, 1) := by decide +kernel
theorem dX1_program_103 : decode cX1_program 103 = .ok (.iastore, 1) := by decide +kernel
theorem dX1_program_104 : decode cX1_program 104 = .ok (.aload_n 0, 1) := by decide +kernel
theorem dX1_program_105 : decode cX1_program 105 = .ok (.getfield 33, 3) := by decide +kernel
theorem dX1_program_108 : decode cX1_program 108 = .ok (.iload_n 3, 1) := by decide +kernel
theorem dX1_program_109 : decode cX1_program 109 = .ok (.iaload, 1) := by decide +kernel
theorem dX1_program_110 : decode cX1_program 110 = .ok (.bipush 8, 2) := by decide +kernel
theorem dX1_program_112 : decode cX1_program 112 = .ok (.if_icmp .ne 30, 3) := by decide +kernel
theorem dX1_program_115 : decode cX1_program 115 = .ok (.aload_n 0, 1) := by decide +kernel
theorem dX1_program_116 : decode cX1_program 116 = .ok (.getfield 45, 3) := by decide +kernel
theorem dX1_program_119 : decode cX1_program 119 = .ok (.iload_n 2, 1) := by decide +kernel
theorem dX1_program_120 : decode cX1_program 120 = .ok (.iconst (-1), 1) := by decide +kernel
theorem dX1_program_121 : decode cX1_program 121 = .ok (.iastore, 1) := by decide +kernel
theorem dX1_program_122 : decode cX1_program 122 = .ok (.aload_n 0, 1) := by decide +kernel
theorem dX1_program_123 : decode cX1_program 123 = .ok (.getfield 42, 3) := by decide +kernel
theorem dX1_program_126 : decode cX1_program 126 = .ok (.iload_n 3, 1) := by decide +kernel
theorem dX1_program_127 : decode cX1_program 127 = .ok (.aload_n 0, 1) := by decide +kernel
theorem dX1_program_128 : decode cX1_program 128 = .ok (.getfield 61, 3) := by decide +kernel
theorem dX1_program_131 : decode cX1_program 131 = .ok (.iastore, 1) := by decide +kernel
theorem dX1_program_132 : decode cX1_program 132 = .ok (.aload_n 0, 1) := by decide +kernel
theorem dX1_program_133 : decode cX1_program 133 = .ok (.dup, 1) := by decide +kernel
theorem dX1_program_134 : decode cX1_program 134 = .ok (.getfield 61, 3) := by decide +kernel
theorem dX1_program_137 : decode cX1_program 137 = .ok (.iconst 1, 1) := by decide +kernel
theorem dX1_program_138 : decode cX1_program 138 = .ok (.iadd, 1) := by decide +kernel
theorem dX1_program_139 : decode cX1_program 139 = .ok (.putfield 61, 3) := by decide +kernel
theorem dX1_program_142 : decode cX1_program 142 = .ok (.return_, 1) := by decide +kernel
set_option maxRecDepth 20000 in
theorem ggX1_collectVictims_X1_victim : GoodIn wsX1_collectVictims wsX1_victim := goodIn_r _ [7, 8, 9, 10, 11, 12, 6, 13, 14, 15, 16, 47, 48, 49, 50, 51, 52, 53, 54, 55, 56, 57, 58, 59, 60, 61, 62, 63] (by decide +kernel) (by decide +kernel)
set_option maxRecDepth 20000 in
theorem gX1_collectVictims_X1_victim : GoodIn wsX1_collectVictims (wsV RX1 106 RX1 yX1_victim wsX1_victim) := goodIn_app (goodIn_of _ (by decide +kernel)) ggX1_collectVictims_X1_victim
set_option maxRecDepth 20000 in
theorem ggX1_collectVictims_X1_collectBlock : GoodIn wsX1_collectVictims wsX1_collectBlock := goodIn_r _ [20, 21, 22, 23, 24, 25, 26, 27, 6, 28, 29, 30, 31, 32, 33, 34, 35, 36, 16, 1, 37, 38, 39, 40, 8, 9, 41, 15, 42, 43, 44, 45, 46, 47, 48, 49, 50, 51, 52, 53, 54, 55, 56, 57, 58, 59, 60, 61, 62, 63] (by decide +kernel) (by decide +kernel)
set_option maxRecDepth 20000 in
theorem gX1_collectVictims_X1_collectBlock : GoodIn wsX1_collectVictims (wsV RX1 109 RX1 yX1_collectBlock wsX1_collectBlock) := goodIn_app (goodIn_of _ (by decide +kernel)) ggX1_collectVictims_X1_collectBlock
theorem dX1_collectVictims_0 : decode cX1_collectVictims 0 = .ok (.iconst 0, 1) := by decide +kernel
theorem dX1_collectVictims_1 : decode cX1_collectVictims 1 = .ok (.istore_n 2, 1) := by decide +kernel
theorem dX1_collectVictims_2 : decode cX1_collectVictims 2 = .ok (.aload_n 0, 1) := by decide +kernel
theorem dX1_collectVictims_3 : decode cX1_collectVictims 3 = .ok (.getfield 57, 3) := by decide +kernel
theorem dX1_collectVictims_6 : decode cX1_collectVictims 6 = .ok (.iload_n 1, 1) := by decide +kernel
theorem dX1_collectVictims_7 : decode cX1_collectVictims 7 = .ok (.if_icmp .ge 33, 3) := by decide +kernel
theorem dX1_collectVictims_10 : decode cX1_collectVictims 10 = .ok (.iload_n 2, 1) := by decide +kernel
theorem dX1_collectVictims_11 : decode cX1_collectVictims 11 = .ok (.ldc 105, 2) := by decide +kernel
theorem dX1_collectVictims_13 : decode cX1_collectVictims 13 = .ok (.if_icmp .ge 27, 3) := by decide +kernel
theorem dX1_collectVictims_16 : decode cX1_collectVictims 16 = .ok (.aload_n 0, 1) := by decide +kernel
theorem dX1_collectVictims_17 : decode cX1_collectVictims 17 = .ok (.invokevirtual 106, 3) := by decide +kernel
theorem dX1_collectVictims_20 : decode cX1_collectVictims 20 = .ok (.istore_n 3, 1) := by decide +kernel
theorem dX1_collectVictims_21 : decode cX1_collectVictims 21 = .ok (.iload_n 3, 1) := by decide +kernel
theorem dX1_collectVictims_22 : decode cX1_collectVictims 22 = .ok (.iconst (-1), 1) := by decide +kernel
theorem dX1_collectVictims_23 : decode cX1_collectVictims 23 = .ok (.if_icmp .ne 6, 3) := by decide +kernel
theorem dX1_collectVictims_26 : decode cX1_collectVictims 26 = .ok (.goto 14, 3) := by decide +kernel
theorem dX1_collectVictims_29 : decode cX1_collectVictims 29 = .ok (.aload_n 0, 1) := by decide +kernel
theorem dX1_collectVictims_30 : decode cX1_collectVictims 30 = .ok (.iload_n 3, 1) := by decide +kernel
theorem dX1_collectVictims_31 : decode cX1_collectVictims 31 = .ok (.invokevirtual 109, 3) := by decide +kernel
theorem dX1_collectVictims_34 : decode cX1_collectVictims 34 = .ok (.iinc 2 1, 3) := by decide +kernel
theorem dX1_collectVictims_37 : decode cX1_collectVictims 37 = .ok (.goto (-35), 3) := by decide +kernel
theorem dX1_collectVictims_40 : decode cX1_collectVictims 40 = .ok (.iload_n 2, 1) := by decide +kernel
theorem dX1_collectVictims_41 : decode cX1_collectVictims 41 = .ok (.ireturn, 1) := by decide +kernel
set_option maxRecDepth 20000 in
theorem ggX1_victim_X1_rankOf : GoodIn wsX1_victim wsX1_rankOf := goodIn_r _ [7, 8, 9, 10, 2, 11, 12, 13, 14, 15, 16, 17, 18, 19, 20, 21, 22, 23, 24, 25, 26, 27] (by decide +kernel) (by decide +kernel)
set_option maxRecDepth 20000 in
theorem gX1_victim_X1_rankOf : GoodIn wsX1_victim (wsV RX1 113 RX1 yX1_rankOf wsX1_rankOf) := goodIn_app (goodIn_of _ (by decide +kernel)) ggX1_victim_X1_rankOf
theorem dX1_victim_0 : decode cX1_victim 0 = .ok (.iconst (-1), 1) := by decide +kernel
theorem dX1_victim_1 : decode cX1_victim 1 = .ok (.istore_n 1, 1) := by decide +kernel
theorem dX1_victim_2 : decode cX1_victim 2 = .ok (.iconst 0, 1) := by decide +kernel
theorem dX1_victim_3 : decode cX1_victim 3 = .ok (.istore_n 2, 1) := by decide +kernel
theorem dX1_victim_4 : decode cX1_victim 4 = .ok (.iconst 0, 1) := by decide +kernel
theorem dX1_victim_5 : decode cX1_victim 5 = .ok (.istore_n 3, 1) := by decide +kernel
theorem dX1_victim_6 : decode cX1_victim 6 = .ok (.iload_n 3, 1) := by decide +kernel
theorem dX1_victim_7 : decode cX1_victim 7 = .ok (.bipush 12, 2) := by decide +kernel
theorem dX1_victim_9 : decode cX1_victim 9 = .ok (.if_icmp .ge 54, 3) := by decide +kernel
theorem dX1_victim_12 : decode cX1_victim 12 = .ok (.aload_n 0, 1) := by decide +kernel
theorem dX1_victim_13 : decode cX1_victim 13 = .ok (.getfield 33, 3) := by decide +kernel
theorem dX1_victim_16 : decode cX1_victim 16 = .ok (.iload_n 3, 1) := by decide +kernel
theorem dX1_victim_17 : decode cX1_victim 17 = .ok (.iaload, 1) := by decide +kernel
theorem dX1_victim_18 : decode cX1_victim 18 = .ok (.bipush 8, 2) := by decide +kernel
theorem dX1_victim_20 : decode cX1_victim 20 = .ok (.if_icmp .ne 37, 3) := by decide +kernel
theorem dX1_victim_23 : decode cX1_victim 23 = .ok (.aload_n 0, 1) := by decide +kernel
theorem dX1_victim_24 : decode cX1_victim 24 = .ok (.getfield 36, 3) := by decide +kernel
theorem dX1_victim_27 : decode cX1_victim 27 = .ok (.iload_n 3, 1) := by decide +kernel
theorem dX1_victim_28 : decode cX1_victim 28 = .ok (.iaload, 1) := by decide +kernel
theorem dX1_victim_29 : decode cX1_victim 29 = .ok (.bipush 8, 2) := by decide +kernel
theorem dX1_victim_31 : decode cX1_victim 31 = .ok (.if_icmp .ge 26, 3) := by decide +kernel
theorem dX1_victim_34 : decode cX1_victim 34 = .ok (.aload_n 0, 1) := by decide +kernel
theorem dX1_victim_35 : decode cX1_victim 35 = .ok (.iload_n 3, 1) := by decide +kernel
theorem dX1_victim_36 : decode cX1_victim 36 = .ok (.invokevirtual 113, 3) := by decide +kernel
theorem dX1_victim_39 : decode cX1_victim 39 = .ok (.istore 4, 2) := by decide +kernel
theorem dX1_victim_41 : decode cX1_victim 41 = .ok (.iload_n 1, 1) := by decide +kernel
theorem dX1_victim_42 : decode cX1_victim 42 = .ok (.iconst (-1), 1) := by decide +kernel
theorem dX1_victim_43 : decode cX1_victim 43 = .ok (.if_icmp .eq 9, 3) := by decide +kernel
theorem dX1_victim_46 : decode cX1_victim 46 = .ok (.iload 4, 2) := by decide +kernel
theorem dX1_victim_48 : decode cX1_victim 48 = .ok (.iload_n 2, 1) := by decide +kernel
theorem dX1_victim_49 : decode cX1_victim 49 = .ok (.if_icmp .ge 8, 3) := by decide +kernel
theorem dX1_victim_52 : decode cX1_victim 52 = .ok (.iload_n 3, 1) := by decide +kernel
theorem dX1_victim_53 : decode cX1_victim 53 = .ok (.istore_n 1, 1) := by decide +kernel
theorem dX1_victim_54 : decode cX1_victim 54 = .ok (.iload 4, 2) := by decide +kernel
theorem dX1_victim_56 : decode cX1_victim 56 = .ok (.istore_n 2, 1) := by decide +kernel
theorem dX1_victim_57 : decode cX1_victim 57 = .ok (.iinc 3 1, 3) := by decide +kernel
theorem dX1_victim_60 : decode cX1_victim 60 = .ok (.goto (-54), 3) := by decide +kernel
theorem dX1_victim_63 : decode cX1_victim 63 = .ok (.iload_n 1, 1) := by decide +kernel
theorem dX1_victim_64 : decode cX1_victim 64 = .ok (.ireturn, 1) := by decide +kernel
theorem dX1_rankOf_0 : decode cX1_rankOf 0 = .ok (.aload_n 0, 1) := by decide +kernel
theorem dX1_rankOf_1 : decode cX1_rankOf 1 = .ok (.getfield 54, 3) := by decide +kernel
theorem dX1_rankOf_4 : decode cX1_rankOf 4 = .ok (.iconst 0, 1) := by decide +kernel
theorem dX1_rankOf_5 : decode cX1_rankOf 5 = .ok (.iaload, 1) := by decide +kernel
theorem dX1_rankOf_6 : decode cX1_rankOf 6 = .ok (.lookupswitch 50 #[(1, 26), (2, 33)], 26) := by decide +kernel
theorem dX1_rankOf_32 : decode cX1_rankOf 32 = .ok (.aload_n 0, 1) := by decide +kernel
theorem dX1_rankOf_33 : decode cX1_rankOf 33 = .ok (.getfield 42, 3) := by decide +kernel
theorem dX1_rankOf_36 : decode cX1_rankOf 36 = .ok (.iload_n 1, 1) := by decide +kernel
theorem dX1_rankOf_37 : decode cX1_rankOf 37 = .ok (.iaload, 1) := by decide +kernel
theorem dX1_rankOf_38 : decode cX1_rankOf 38 = .ok (.ireturn, 1) := by decide +kernel
theorem dX1_rankOf_39 : decode cX1_rankOf 39 = .ok (.aload_n 0, 1) := by decide +kernel
theorem dX1_rankOf_40 : decode cX1_rankOf 40 = .ok (.getfield 39, 3) := by decide +kernel
theorem dX1_rankOf_43 : decode cX1_rankOf 43 = .ok (.iload_n 1, 1) := by decide +kernel
theorem dX1_rankOf_44 : decode cX1_rankOf 44 = .ok (.iaload, 1) := by decide +kernel
theorem dX1_rankOf_45 : decode cX1_rankOf 45 = .ok (.bipush 9, 2) := by decide +kernel
theorem dX1_rankOf_47 : decode cX1_rankOf 47 = .ok (.imul, 1) := by decide +kernel
theorem dX1_rankOf_48 : decode cX1_rankOf 48 = .ok (.aload_n 0, 1) := by decide +kernel
theorem dX1_rankOf_49 : decode cX1_rankOf 49 = .ok (.getfield 36, 3) := by decide +kernel
theorem dX1_rankOf_52 : decode cX1_rankOf 52 = .ok (.iload_n 1, 1) := by decide +kernel
theorem dX1_rankOf_53 : decode cX1_rankOf 53 = .ok (.iaload, 1) := by decide +kernel
theorem dX1_rankOf_54 : decode cX1_rankOf 54 = .ok (.iadd, 1) := by decide +kernel
theorem dX1_rankOf_55 : decode cX1_rankOf 55 = .ok (.ireturn, 1) := by decide +kernel
theorem dX1_rankOf_56 : decode cX1_rankOf 56 = .ok (.aload_n 0, 1) := by decide +kernel
theorem dX1_rankOf_57 : decode cX1_rankOf 57 = .ok (.getfield 36, 3) := by decide +kernel
theorem dX1_rankOf_60 : decode cX1_rankOf 60 = .ok (.iload_n 1, 1) := by decide +kernel
theorem dX1_rankOf_61 : decode cX1_rankOf 61 = .ok (.iaload, 1) := by decide +kernel
theorem dX1_rankOf_62 : decode cX1_rankOf 62 = .ok (.ireturn, 1) := by decide +kernel
set_option maxRecDepth 20000 in
theorem ggX1_collectBlock_X1_validPageAt : GoodIn wsX1_collectBlock wsX1_validPageAt := goodIn_r _ [9, 10, 11, 33, 34, 35, 36, 37, 38, 39, 40, 41, 42, 43, 44, 45, 46, 47, 48, 49] (by decide +kernel) (by decide +kernel)
set_option maxRecDepth 20000 in
theorem gX1_collectBlock_X1_validPageAt : GoodIn wsX1_collectBlock (wsV RX1 116 RX1 yX1_validPageAt wsX1_validPageAt) := goodIn_app (goodIn_of _ (by decide +kernel)) ggX1_collectBlock_X1_validPageAt
set_option maxRecDepth 20000 in
theorem ggX1_collectBlock_X1_openBlock : GoodIn wsX1_collectBlock wsX1_openBlock := goodIn_r _ [15, 16, 17, 18, 19, 33, 34, 35, 36, 37, 38, 39, 40, 41, 42, 43, 44, 45, 46, 47, 48, 49] (by decide +kernel) (by decide +kernel)
set_option maxRecDepth 20000 in
theorem gX1_collectBlock_X1_openBlock : GoodIn wsX1_collectBlock (wsV RX1 98 RX1 yX1_openBlock wsX1_openBlock) := goodIn_app (goodIn_of _ (by decide +kernel)) ggX1_collectBlock_X1_openBlock
set_option maxRecDepth 20000 in
theorem ggX1_collectBlock_X1_program : GoodIn wsX1_collectBlock wsX1_program := goodIn_r _ [23, 24, 11, 25, 10, 26, 16, 27, 28, 33, 34, 35, 36, 37, 38, 39, 40, 41, 42, 43, 44, 45, 46, 47, 48, 49] (by decide +kernel) (by decide +kernel)
set_option maxRecDepth 20000 in
theorem gX1_collectBlock_X1_program : GoodIn wsX1_collectBlock (wsV RX1 101 RX1 yX1_program wsX1_program) := goodIn_app (goodIn_of _ (by decide +kernel)) ggX1_collectBlock_X1_program
set_option maxRecDepth 20000 in
theorem ggX1_collectBlock_X1_erase : GoodIn wsX1_collectBlock wsX1_erase := goodIn_r _ [32, 10, 24, 25, 17, 18, 19, 33, 34, 35, 36, 37, 38, 39, 40, 41, 42, 43, 44, 45, 46, 47, 48, 49] (by decide +kernel) (by decide +kernel)
set_option maxRecDepth 20000 in
theorem gX1_collectBlock_X1_erase : GoodIn wsX1_collectBlock (wsV RX1 119 RX1 yX1_erase wsX1_erase) := goodIn_app (goodIn_of _ (by decide +kernel)) ggX1_collectBlock_X1_erase
theorem dX1_collectBlock_0 : decode cX1_collectBlock 0 = .ok (.iconst 0, 1) := by decide +kernel
theorem dX1_collectBlock_1 : decode cX1_collectBlock 1 = .ok (.istore_n 2, 1) := by decide +kernel
theorem dX1_collectBlock_2 : decode cX1_collectBlock 2 = .ok (.iload_n 2, 1) := by decide +kernel
theorem dX1_collectBlock_3 : decode cX1_collectBlock 3 = .ok (.bipush 8, 2) := by decide +kernel
theorem dX1_collectBlock_5 : decode cX1_collectBlock 5 = .ok (.if_icmp .ge 71, 3) := by decide +kernel
theorem dX1_collectBlock_8 : decode cX1_collectBlock 8 = .ok (.aload_n 0, 1) := by decide +kernel
theorem dX1_collectBlock_9 : decode cX1_collectBlock 9 = .ok (.iload_n 1, 1) := by decide +kernel
theorem dX1_collectBlock_10 : decode cX1_collectBlock 10 = .ok (.bipush 8, 2) := by decide +kernel
theorem dX1_collectBlock_12 : decode cX1_collectBlock 12 = .ok (.imul, 1) := by decide +kernel
theorem dX1_collectBlock_13 : decode cX1_collectBlock 13 = .ok (.iload_n 2, 1) := by decide +kernel
theorem dX1_collectBlock_14 : decode cX1_collectBlock 14 = .ok (.iadd, 1) := by decide +kernel
theorem dX1_collectBlock_15 : decode cX1_collectBlock 15 = .ok (.invokevirtual 116, 3) := by decide +kernel
theorem dX1_collectBlock_18 : decode cX1_collectBlock 18 = .ok (.istore_n 3, 1) := by decide +kernel
theorem dX1_collectBlock_19 : decode cX1_collectBlock 19 = .ok (.iload_n 3, 1) := by decide +kernel
theorem dX1_collectBlock_20 : decode cX1_collectBlock 20 = .ok (.iconst (-1), 1) := by decide +kernel
theorem dX1_collectBlock_21 : decode cX1_collectBlock 21 = .ok (.if_icmp .eq 49, 3) := by decide +kernel
theorem dX1_collectBlock_24 : decode cX1_collectBlock 24 = .ok (.aload_n 0, 1) := by decide +kernel
theorem dX1_collectBlock_25 : decode cX1_collectBlock 25 = .ok (.getfield 21, 3) := by decide +kernel
theorem dX1_collectBlock_28 : decode cX1_collectBlock 28 = .ok (.iload_n 3, 1) := by decide +kernel
theorem dX1_collectBlock_29 : decode cX1_collectBlock 29 = .ok (.dup2, 1) := by decide +kernel
theorem dX1_collectBlock_30 : decode cX1_collectBlock 30 = .ok (.iaload, 1) := by decide +kernel
theorem dX1_collectBlock_31 : decode cX1_collectBlock 31 = .ok (.iconst 1, 1) := by decide +kernel
theorem dX1_collectBlock_32 : decode cX1_collectBlock 32 = .ok (.iadd, 1) := by decide +kernel
theorem dX1_collectBlock_33 : decode cX1_collectBlock 33 = .ok (.iastore, 1) := by decide +kernel
theorem dX1_collectBlock_34 : decode cX1_collectBlock 34 = .ok (.aload_n 0, 1) := by decide +kernel
theorem dX1_collectBlock_35 : decode cX1_collectBlock 35 = .ok (.getfield 24, 3) := by decide +kernel
theorem dX1_collectBlock_38 : decode cX1_collectBlock 38 = .ok (.iload_n 3, 1) := by decide +kernel
theorem dX1_collectBlock_39 : decode cX1_collectBlock 39 = .ok (.dup2, 1) := by decide +kernel
theorem dX1_collectBlock_40 : decode cX1_collectBlock 40 = .ok (.iaload, 1) := by decide +kernel
theorem dX1_collectBlock_41 : decode cX1_collectBlock 41 = .ok (.iconst 1, 1) := by decide +kernel
theorem dX1_collectBlock_42 : decode cX1_collectBlock 42 = .ok (.iadd, 1) := by decide +kernel
theorem dX1_collectBlock_43 : decode cX1_collectBlock 43 = .ok (.iastore, 1) := by decide +kernel
theorem dX1_collectBlock_44 : decode cX1_collectBlock 44 = .ok (.aload_n 0, 1) := by decide +kernel
theorem dX1_collectBlock_45 : decode cX1_collectBlock 45 = .ok (.getfield 51, 3) := by decide +kernel
theorem dX1_collectBlock_48 : decode cX1_collectBlock 48 = .ok (.aload_n 0, 1) := by decide +kernel
theorem dX1_collectBlock_49 : decode cX1_collectBlock 49 = .ok (.getfield 15, 3) := by decide +kernel
theorem dX1_collectBlock_52 : decode cX1_collectBlock 52 = .ok (.iload_n 3, 1) := by decide +kernel
theorem dX1_collectBlock_53 : decode cX1_collectBlock 53 = .ok (.iaload, 1) := by decide +kernel
theorem dX1_collectBlock_54 : decode cX1_collectBlock 54 = .ok (.dup2, 1) := by decide +kernel
theorem dX1_collectBlock_55 : decode cX1_collectBlock 55 = .ok (.iaload, 1) := by decide +kernel
theorem dX1_collectBlock_56 : decode cX1_collectBlock 56 = .ok (.iconst 1, 1) := by decide +kernel
theorem dX1_collectBlock_57 : decode cX1_collectBlock 57 = .ok (.iadd, 1) := by decide +kernel
theorem dX1_collectBlock_58 : decode cX1_collectBlock 58 = .ok (.iastore, 1) := by decide +kernel
theorem dX1_collectBlock_59 : decode cX1_collectBlock 59 = .ok (.aload_n 0, 1) := by decide +kernel
theorem dX1_collectBlock_60 : decode cX1_collectBlock 60 = .ok (.iload_n 3, 1) := by decide +kernel
theorem dX1_collectBlock_61 : decode cX1_collectBlock 61 = .ok (.iconst 4, 1) := by decide +kernel
theorem dX1_collectBlock_62 : decode cX1_collectBlock 62 = .ok (.aload_n 0, 1) := by decide +kernel
theorem dX1_collectBlock_63 : decode cX1_collectBlock 63 = .ok (.iconst 4, 1) := by decide +kernel
theorem dX1_collectBlock_64 : decode cX1_collectBlock 64 = .ok (.invokevirtual 98, 3) := by decide +kernel
theorem dX1_collectBlock_67 : decode cX1_collectBlock 67 = .ok (.invokevirtual 101, 3) := by decide +kernel
theorem dX1_collectBlock_70 : decode cX1_collectBlock 70 = .ok (.iinc 2 1, 3) := by decide +kernel
theorem dX1_collectBlock_73 : decode cX1_collectBlock 73 = .ok (.goto (-71), 3) := by decide +kernel
theorem dX1_collectBlock_76 : decode cX1_collectBlock 76 = .ok (.aload_n 0, 1) := by decide +kernel
theorem dX1_collectBlock_77 : decode cX1_collectBlock 77 = .ok (.iload_n 1, 1) := by decide +kernel
theorem dX1_collectBlock_78 : decode cX1_collectBlock 78 = .ok (.invokevirtual 119, 3) := by decide +kernel
theorem dX1_collectBlock_81 : decode cX1_collectBlock 81 = .ok (.return_, 1) := by decide +kernel
theorem dX1_erase_0 : decode cX1_erase 0 = .ok (.iconst 0, 1) := by decide +kernel
theorem dX1_erase_1 : decode cX1_erase 1 = .ok (.istore_n 2, 1) := by decide +kernel
theorem dX1_erase_2 : decode cX1_erase 2 = .ok (.iload_n 2, 1) := by decide +kernel
theorem dX1_erase_3 : decode cX1_erase 3 = .ok (.bipush 8, 2) := by decide +kernel
theorem dX1_erase_5 : decode cX1_erase 5 = .ok (.if_icmp .ge 21, 3) := by decide +kernel
theorem dX1_erase_8 : decode cX1_erase 8 = .ok (.aload_n 0, 1) := by decide +kernel
theorem dX1_erase_9 : decode cX1_erase 9 = .ok (.getfield 27, 3) := by decide +kernel
theorem dX1_erase_12 : decode cX1_erase 12 = .ok (.iload_n 1, 1) := by decide +kernel
theorem dX1_erase_13 : decode cX1_erase 13 = .ok (.bipush 8, 2) := by decide +kernel
theorem dX1_erase_15 : decode cX1_erase 15 = .ok (.imul, 1) := by decide +kernel
theorem dX1_erase_16 : decode cX1_erase 16 = .ok (.iload_n 2, 1) := by decide +kernel
theorem dX1_erase_17 : decode cX1_erase 17 = .ok (.iadd, 1) := by decide +kernel
theorem dX1_erase_18 : decode cX1_erase 18 = .ok (.iconst (-1), 1) := by decide +kernel
theorem dX1_erase_19 : decode cX1_erase 19 = .ok (.iastore, 1) := by decide +kernel
theorem dX1_erase_20 : decode cX1_erase 20 = .ok (.iinc 2 1, 3) := by decide +kernel
theorem dX1_erase_23 : decode cX1_erase 23 = .ok (.goto (-21), 3) := by decide +kernel
theorem dX1_erase_26 : decode cX1_erase 26 = .ok (.aload_n 0, 1) := by decide +kernel
theorem dX1_erase_27 : decode cX1_erase 27 = .ok (.getfield 33, 3) := by decide +kernel
theorem dX1_erase_30 : decode cX1_erase 30 = .ok (.iload_n 1, 1) := by decide +kernel
theorem dX1_erase_31 : decode cX1_erase 31 = .ok (.iconst 0, 1) := by decide +kernel
theorem dX1_erase_32 : decode cX1_erase 32 = .ok (.iastore, 1) := by decide +kernel
theorem dX1_erase_33 : decode cX1_erase 33 = .ok (.aload_n 0, 1) := by decide +kernel
theorem dX1_erase_34 : decode cX1_erase 34 = .ok (.getfield 36, 3) := by decide +kernel
theorem dX1_erase_37 : decode cX1_erase 37 = .ok (.iload_n 1, 1) := by decide +kernel
theorem dX1_erase_38 : decode cX1_erase 38 = .ok (.iconst 0, 1) := by decide +kernel
theorem dX1_erase_39 : decode cX1_erase 39 = .ok (.iastore, 1) := by decide +kernel
theorem dX1_erase_40 : decode cX1_erase 40 = .ok (.aload_n 0, 1) := by decide +kernel
theorem dX1_erase_41 : decode cX1_erase 41 = .ok (.getfield 30, 3) := by decide +kernel
theorem dX1_erase_44 : decode cX1_erase 44 = .ok (.iload_n 1, 1) := by decide +kernel
theorem dX1_erase_45 : decode cX1_erase 45 = .ok (.iconst (-1), 1) := by decide +kernel
theorem dX1_erase_46 : decode cX1_erase 46 = .ok (.iastore, 1) := by decide +kernel
theorem dX1_erase_47 : decode cX1_erase 47 = .ok (.aload_n 0, 1) := by decide +kernel
theorem dX1_erase_48 : decode cX1_erase 48 = .ok (.getfield 39, 3) := by decide +kernel
theorem dX1_erase_51 : decode cX1_erase 51 = .ok (.iload_n 1, 1) := by decide +kernel
theorem dX1_erase_52 : decode cX1_erase 52 = .ok (.dup2, 1) := by decide +kernel
theorem dX1_erase_53 : decode cX1_erase 53 = .ok (.iaload, 1) := by decide +kernel
theorem dX1_erase_54 : decode cX1_erase 54 = .ok (.iconst 1, 1) := by decide +kernel
theorem dX1_erase_55 : decode cX1_erase 55 = .ok (.iadd, 1) := by decide +kernel
theorem dX1_erase_56 : decode cX1_erase 56 = .ok (.iastore, 1) := by decide +kernel
theorem dX1_erase_57 : decode cX1_erase 57 = .ok (.aload_n 0, 1) := by decide +kernel
theorem dX1_erase_58 : decode cX1_erase 58 = .ok (.dup, 1) := by decide +kernel
theorem dX1_erase_59 : decode cX1_erase 59 = .ok (.getfield 57, 3) := by decide +kernel
theorem dX1_erase_62 : decode cX1_erase 62 = .ok (.iconst 1, 1) := by decide +kernel
theorem dX1_erase_63 : decode cX1_erase 63 = .ok (.iadd, 1) := by decide +kernel
theorem dX1_erase_64 : decode cX1_erase 64 = .ok (.putfield 57, 3) := by decide +kernel
theorem dX1_erase_67 : decode cX1_erase 67 = .ok (.return_, 1) := by decide +kernel
theorem dX1_isWritten_0 : decode cX1_isWritten 0 = .ok (.aload_n 0, 1) := by decide +kernel
theorem dX1_isWritten_1 : decode cX1_isWritten 1 = .ok (.getfield 9, 3) := by decide +kernel
theorem dX1_isWritten_4 : decode cX1_isWritten 4 = .ok (.iload_n 1, 1) := by decide +kernel
theorem dX1_isWritten_5 : decode cX1_isWritten 5 = .ok (.iaload, 1) := by decide +kernel
theorem dX1_isWritten_6 : decode cX1_isWritten 6 = .ok (.iconst (-1), 1) := by decide +kernel
theorem dX1_isWritten_7 : decode cX1_isWritten 7 = .ok (.if_icmp .eq 7, 3) := by decide +kernel
theorem dX1_isWritten_10 : decode cX1_isWritten 10 = .ok (.iconst 1, 1) := by decide +kernel
theorem dX1_isWritten_11 : decode cX1_isWritten 11 = .ok (.goto 4, 3) := by decide +kernel
theorem dX1_isWritten_14 : decode cX1_isWritten 14 = .ok (.iconst 0, 1) := by decide +kernel
theorem dX1_isWritten_15 : decode cX1_isWritten 15 = .ok (.ireturn, 1) := by decide +kernel
set_option maxRecDepth 20000 in
theorem ggX1_blockOf_X1_isWritten : GoodIn wsX1_blockOf wsX1_isWritten := goodIn_r _ [6, 1, 7, 8, 9, 10, 11, 12, 13, 14, 15, 16, 17, 18, 19, 20, 21, 22, 23] (by decide +kernel) (by decide +kernel)
set_option maxRecDepth 20000 in
theorem gX1_blockOf_X1_isWritten : GoodIn wsX1_blockOf (wsV RX1 122 RX1 yX1_isWritten wsX1_isWritten) := goodIn_app (goodIn_of _ (by decide +kernel)) ggX1_blockOf_X1_isWritten
theorem dX1_blockOf_0 : decode cX1_blockOf 0 = .ok (.aload_n 0, 1) := by decide +kernel
theorem dX1_blockOf_1 : decode cX1_blockOf 1 = .ok (.iload_n 1, 1) := by decide +kernel
theorem dX1_blockOf_2 : decode cX1_blockOf 2 = .ok (.invokevirtual 122, 3) := by decide +kernel
theorem dX1_blockOf_5 : decode cX1_blockOf 5 = .ok (.ifCond .eq 15, 3) := by decide +kernel
theorem dX1_blockOf_8 : decode cX1_blockOf 8 = .ok (.aload_n 0, 1) := by decide +kernel
theorem dX1_blockOf_9 : decode cX1_blockOf 9 = .ok (.getfield 9, 3) := by decide +kernel
theorem dX1_blockOf_12 : decode cX1_blockOf 12 = .ok (.iload_n 1, 1) := by decide +kernel
theorem dX1_blockOf_13 : decode cX1_blockOf 13 = .ok (.iaload, 1) := by decide +kernel
theorem dX1_blockOf_14 : decode cX1_blockOf 14 = .ok (.bipush 8, 2) := by decide +kernel
theorem dX1_blockOf_16 : decode cX1_blockOf 16 = .ok (.idiv, 1) := by decide +kernel
theorem dX1_blockOf_17 : decode cX1_blockOf 17 = .ok (.goto 4, 3) := by decide +kernel
theorem dX1_blockOf_20 : decode cX1_blockOf 20 = .ok (.iconst (-1), 1) := by decide +kernel
theorem dX1_blockOf_21 : decode cX1_blockOf 21 = .ok (.ireturn, 1) := by decide +kernel
theorem dX1_validPageAt_0 : decode cX1_validPageAt 0 = .ok (.aload_n 0, 1) := by decide +kernel
theorem dX1_validPageAt_1 : decode cX1_validPageAt 1 = .ok (.getfield 27, 3) := by decide +kernel
theorem dX1_validPageAt_4 : decode cX1_validPageAt 4 = .ok (.iload_n 1, 1) := by decide +kernel
theorem dX1_validPageAt_5 : decode cX1_validPageAt 5 = .ok (.iaload, 1) := by decide +kernel
theorem dX1_validPageAt_6 : decode cX1_validPageAt 6 = .ok (.istore_n 2, 1) := by decide +kernel
theorem dX1_validPageAt_7 : decode cX1_validPageAt 7 = .ok (.iload_n 2, 1) := by decide +kernel
theorem dX1_validPageAt_8 : decode cX1_validPageAt 8 = .ok (.iconst (-1), 1) := by decide +kernel
theorem dX1_validPageAt_9 : decode cX1_validPageAt 9 = .ok (.if_icmp .eq 17, 3) := by decide +kernel
theorem dX1_validPageAt_12 : decode cX1_validPageAt 12 = .ok (.aload_n 0, 1) := by decide +kernel
theorem dX1_validPageAt_13 : decode cX1_validPageAt 13 = .ok (.getfield 9, 3) := by decide +kernel
theorem dX1_validPageAt_16 : decode cX1_validPageAt 16 = .ok (.iload_n 2, 1) := by decide +kernel
theorem dX1_validPageAt_17 : decode cX1_validPageAt 17 = .ok (.iaload, 1) := by decide +kernel
theorem dX1_validPageAt_18 : decode cX1_validPageAt 18 = .ok (.iload_n 1, 1) := by decide +kernel
theorem dX1_validPageAt_19 : decode cX1_validPageAt 19 = .ok (.if_icmp .ne 7, 3) := by decide +kernel
theorem dX1_validPageAt_22 : decode cX1_validPageAt 22 = .ok (.iload_n 2, 1) := by decide +kernel
theorem dX1_validPageAt_23 : decode cX1_validPageAt 23 = .ok (.goto 4, 3) := by decide +kernel
theorem dX1_validPageAt_26 : decode cX1_validPageAt 26 = .ok (.iconst (-1), 1) := by decide +kernel
theorem dX1_validPageAt_27 : decode cX1_validPageAt 27 = .ok (.ireturn, 1) := by decide +kernel
theorem dX1_stateOf_0 : decode cX1_stateOf 0 = .ok (.aload_n 0, 1) := by decide +kernel
theorem dX1_stateOf_1 : decode cX1_stateOf 1 = .ok (.getfield 30, 3) := by decide +kernel
theorem dX1_stateOf_4 : decode cX1_stateOf 4 = .ok (.iload_n 1, 1) := by decide +kernel
theorem dX1_stateOf_5 : decode cX1_stateOf 5 = .ok (.iaload, 1) := by decide +kernel
theorem dX1_stateOf_6 : decode cX1_stateOf 6 = .ok (.iconst (-1), 1) := by decide +kernel
theorem dX1_stateOf_7 : decode cX1_stateOf 7 = .ok (.if_icmp .ne 5, 3) := by decide +kernel
theorem dX1_stateOf_10 : decode cX1_stateOf 10 = .ok (.iconst 0, 1) := by decide +kernel
theorem dX1_stateOf_11 : decode cX1_stateOf 11 = .ok (.ireturn, 1) := by decide +kernel
theorem dX1_stateOf_12 : decode cX1_stateOf 12 = .ok (.aload_n 0, 1) := by decide +kernel
theorem dX1_stateOf_13 : decode cX1_stateOf 13 = .ok (.getfield 33, 3) := by decide +kernel
theorem dX1_stateOf_16 : decode cX1_stateOf 16 = .ok (.iload_n 1, 1) := by decide +kernel
theorem dX1_stateOf_17 : decode cX1_stateOf 17 = .ok (.iaload, 1) := by decide +kernel
theorem dX1_stateOf_18 : decode cX1_stateOf 18 = .ok (.bipush 8, 2) := by decide +kernel
theorem dX1_stateOf_20 : decode cX1_stateOf 20 = .ok (.if_icmp .ge 7, 3) := by decide +kernel
theorem dX1_stateOf_23 : decode cX1_stateOf 23 = .ok (.iconst 1, 1) := by decide +kernel
theorem dX1_stateOf_24 : decode cX1_stateOf 24 = .ok (.goto 4, 3) := by decide +kernel
theorem dX1_stateOf_27 : decode cX1_stateOf 27 = .ok (.iconst 2, 1) := by decide +kernel
theorem dX1_stateOf_28 : decode cX1_stateOf 28 = .ok (.ireturn, 1) := by decide +kernel
set_option maxRecDepth 20000 in
theorem ggX1_pageProperty_X1_blockOf : GoodIn wsX1_pageProperty wsX1_blockOf := goodIn_r _ [10, 1, 11, 12, 13, 9, 14, 15, 16, 17, 18, 19, 20, 21, 22, 23, 24, 25, 26, 27, 28, 29, 30, 31] (by decide +kernel) (by decide +kernel)
set_option maxRecDepth 20000 in
theorem gX1_pageProperty_X1_blockOf : GoodIn wsX1_pageProperty (wsV RX1 126 RX1 yX1_blockOf wsX1_blockOf) := goodIn_app (goodIn_of _ (by decide +kernel)) ggX1_pageProperty_X1_blockOf
set_option maxRecDepth 20000 in
theorem ggX1_pageProperty_X1_isWritten : GoodIn wsX1_pageProperty wsX1_isWritten := goodIn_r _ [14, 1, 15, 16, 17, 18, 19, 20, 21, 22, 23, 24, 25, 26, 27, 28, 29, 30, 31] (by decide +kernel) (by decide +kernel)
set_option maxRecDepth 20000 in
theorem gX1_pageProperty_X1_isWritten : GoodIn wsX1_pageProperty (wsV RX1 122 RX1 yX1_isWritten wsX1_isWritten) := goodIn_app (goodIn_of _ (by decide +kernel)) ggX1_pageProperty_X1_isWritten
theorem dX1_pageProperty_0 : decode cX1_pageProperty 0 = .ok (.iload_n 2, 1) := by decide +kernel
theorem dX1_pageProperty_1 : decode cX1_pageProperty 1 = .ok (.tableswitch 96 0 4 #[35, 41, 63, 82, 89], 35) := by decide +kernel
theorem dX1_pageProperty_36 : decode cX1_pageProperty 36 = .ok (.aload_n 0, 1) := by decide +kernel
theorem dX1_pageProperty_37 : decode cX1_pageProperty 37 = .ok (.iload_n 1, 1) := by decide +kernel
theorem dX1_pageProperty_38 : decode cX1_pageProperty 38 = .ok (.invokevirtual 126, 3) := by decide +kernel
theorem dX1_pageProperty_41 : decode cX1_pageProperty 41 = .ok (.ireturn, 1) := by decide +kernel
theorem dX1_pageProperty_42 : decode cX1_pageProperty 42 = .ok (.aload_n 0, 1) := by decide +kernel
theorem dX1_pageProperty_43 : decode cX1_pageProperty 43 = .ok (.iload_n 1, 1) := by decide +kernel
theorem dX1_pageProperty_44 : decode cX1_pageProperty 44 = .ok (.invokevirtual 122, 3) := by decide +kernel
theorem dX1_pageProperty_47 : decode cX1_pageProperty 47 = .ok (.ifCond .eq 15, 3) := by decide +kernel
theorem dX1_pageProperty_50 : decode cX1_pageProperty 50 = .ok (.aload_n 0, 1) := by decide +kernel
theorem dX1_pageProperty_51 : decode cX1_pageProperty 51 = .ok (.getfield 9, 3) := by decide +kernel
theorem dX1_pageProperty_54 : decode cX1_pageProperty 54 = .ok (.iload_n 1, 1) := by decide +kernel
theorem dX1_pageProperty_55 : decode cX1_pageProperty 55 = .ok (.iaload, 1) := by decide +kernel
theorem dX1_pageProperty_56 : decode cX1_pageProperty 56 = .ok (.bipush 8, 2) := by decide +kernel
theorem dX1_pageProperty_58 : decode cX1_pageProperty 58 = .ok (.irem, 1) := by decide +kernel
theorem dX1_pageProperty_59 : decode cX1_pageProperty 59 = .ok (.goto 4, 3) := by decide +kernel
theorem dX1_pageProperty_62 : decode cX1_pageProperty 62 = .ok (.iconst (-1), 1) := by decide +kernel
theorem dX1_pageProperty_63 : decode cX1_pageProperty 63 = .ok (.ireturn, 1) := by decide +kernel
theorem dX1_pageProperty_64 : decode cX1_pageProperty 64 = .ok (.aload_n 0, 1) := by decide +kernel
theorem dX1_pageProperty_65 : decode cX1_pageProperty 65 = .ok (.iload_n 1, 1) := by decide +kernel
theorem dX1_pageProperty_66 : decode cX1_pageProperty 66 = .ok (.invokevirtual 122, 3) := by decide +kernel
theorem dX1_pageProperty_69 : decode cX1_pageProperty 69 = .ok (.ifCond .eq 12, 3) := by decide +kernel
theorem dX1_pageProperty_72 : decode cX1_pageProperty 72 = .ok (.aload_n 0, 1) := by decide +kernel
theorem dX1_pageProperty_73 : decode cX1_pageProperty 73 = .ok (.getfield 15, 3) := by decide +kernel
theorem dX1_pageProperty_76 : decode cX1_pageProperty 76 = .ok (.iload_n 1, 1) := by decide +kernel
theorem dX1_pageProperty_77 : decode cX1_pageProperty 77 = .ok (.iaload, 1) := by decide +kernel
theorem dX1_pageProperty_78 : decode cX1_pageProperty 78 = .ok (.goto 4, 3) := by decide +kernel
theorem dX1_pageProperty_81 : decode cX1_pageProperty 81 = .ok (.iconst (-1), 1) := by decide +kernel
theorem dX1_pageProperty_82 : decode cX1_pageProperty 82 = .ok (.ireturn, 1) := by decide +kernel
theorem dX1_pageProperty_83 : decode cX1_pageProperty 83 = .ok (.aload_n 0, 1) := by decide +kernel
theorem dX1_pageProperty_84 : decode cX1_pageProperty 84 = .ok (.getfield 18, 3) := by decide +kernel
theorem dX1_pageProperty_87 : decode cX1_pageProperty 87 = .ok (.iload_n 1, 1) := by decide +kernel
theorem dX1_pageProperty_88 : decode cX1_pageProperty 88 = .ok (.iaload, 1) := by decide +kernel
theorem dX1_pageProperty_89 : decode cX1_pageProperty 89 = .ok (.ireturn, 1) := by decide +kernel
theorem dX1_pageProperty_90 : decode cX1_pageProperty 90 = .ok (.aload_n 0, 1) := by decide +kernel
theorem dX1_pageProperty_91 : decode cX1_pageProperty 91 = .ok (.getfield 21, 3) := by decide +kernel
theorem dX1_pageProperty_94 : decode cX1_pageProperty 94 = .ok (.iload_n 1, 1) := by decide +kernel
theorem dX1_pageProperty_95 : decode cX1_pageProperty 95 = .ok (.iaload, 1) := by decide +kernel
theorem dX1_pageProperty_96 : decode cX1_pageProperty 96 = .ok (.ireturn, 1) := by decide +kernel
theorem dX1_pageProperty_97 : decode cX1_pageProperty 97 = .ok (.aload_n 0, 1) := by decide +kernel
theorem dX1_pageProperty_98 : decode cX1_pageProperty 98 = .ok (.getfield 24, 3) := by decide +kernel
theorem dX1_pageProperty_101 : decode cX1_pageProperty 101 = .ok (.iload_n 1, 1) := by decide +kernel
theorem dX1_pageProperty_102 : decode cX1_pageProperty 102 = .ok (.iaload, 1) := by decide +kernel
theorem dX1_pageProperty_103 : decode cX1_pageProperty 103 = .ok (.ireturn, 1) := by decide +kernel
set_option maxRecDepth 20000 in
theorem ggX1_blockProperty_X1_stateOf : GoodIn wsX1_blockProperty wsX1_stateOf := goodIn_r _ [9, 1, 3, 33, 34, 35, 36, 37, 38, 39, 40, 41, 42, 43, 44, 45, 46, 47, 48, 49] (by decide +kernel) (by decide +kernel)
set_option maxRecDepth 20000 in
theorem gX1_blockProperty_X1_stateOf : GoodIn wsX1_blockProperty (wsV RX1 129 RX1 yX1_stateOf wsX1_stateOf) := goodIn_app (goodIn_of _ (by decide +kernel)) ggX1_blockProperty_X1_stateOf
set_option maxRecDepth 20000 in
theorem ggX1_blockProperty_X1_closedAheadOf : GoodIn wsX1_blockProperty wsX1_closedAheadOf := goodIn_r _ [13, 14, 5, 6, 7, 8, 9, 1, 3, 33, 34, 35, 36, 37, 38, 39, 40, 41, 42, 43, 44, 45, 46, 47, 48, 49] (by decide +kernel) (by decide +kernel)
set_option maxRecDepth 20000 in
theorem gX1_blockProperty_X1_closedAheadOf : GoodIn wsX1_blockProperty (wsV RX1 132 RX1 yX1_closedAheadOf wsX1_closedAheadOf) := goodIn_app (goodIn_of _ (by decide +kernel)) ggX1_blockProperty_X1_closedAheadOf
set_option maxRecDepth 20000 in
theorem ggX1_blockProperty_X1_unlikeHintsOf : GoodIn wsX1_blockProperty wsX1_unlikeHintsOf := goodIn_r _ [18, 19, 20, 21, 22, 8, 23, 24, 25, 26, 27, 28, 29, 30, 31, 32, 33, 34, 35, 36, 37, 38, 39, 40, 41, 42, 43, 44, 45, 46, 47, 48, 49] (by decide +kernel) (by decide +kernel)
set_option maxRecDepth 20000 in
theorem gX1_blockProperty_X1_unlikeHintsOf : GoodIn wsX1_blockProperty (wsV RX1 135 RX1 yX1_unlikeHintsOf wsX1_unlikeHintsOf) := goodIn_app (goodIn_of _ (by decide +kernel)) ggX1_blockProperty_X1_unlikeHintsOf
theorem dX1_blockProperty_0 : decode cX1_blockProperty 0 = .ok (.iload_n 2, 1) := by decide +kernel
theorem dX1_blockProperty_1 : decode cX1_blockProperty 1 = .ok (.tableswitch 100 0 6 #[43, 49, 56, 63, 77, 87, 94], 43) := by decide +kernel
theorem dX1_blockProperty_44 : decode cX1_blockProperty 44 = .ok (.aload_n 0, 1) := by decide +kernel
theorem dX1_blockProperty_45 : decode cX1_blockProperty 45 = .ok (.iload_n 1, 1) := by decide +kernel
theorem dX1_blockProperty_46 : decode cX1_blockProperty 46 = .ok (.invokevirtual 129, 3) := by decide +kernel
theorem dX1_blockProperty_49 : decode cX1_blockProperty 49 = .ok (.ireturn, 1) := by decide +kernel
theorem dX1_blockProperty_50 : decode cX1_blockProperty 50 = .ok (.aload_n 0, 1) := by decide +kernel
theorem dX1_blockProperty_51 : decode cX1_blockProperty 51 = .ok (.getfield 30, 3) := by decide +kernel
theorem dX1_blockProperty_54 : decode cX1_blockProperty 54 = .ok (.iload_n 1, 1) := by decide +kernel
theorem dX1_blockProperty_55 : decode cX1_blockProperty 55 = .ok (.iaload, 1) := by decide +kernel
theorem dX1_blockProperty_56 : decode cX1_blockProperty 56 = .ok (.ireturn, 1) := by decide +kernel
theorem dX1_blockProperty_57 : decode cX1_blockProperty 57 = .ok (.aload_n 0, 1) := by decide +kernel
theorem dX1_blockProperty_58 : decode cX1_blockProperty 58 = .ok (.getfield 36, 3) := by decide +kernel
theorem dX1_blockProperty_61 : decode cX1_blockProperty 61 = .ok (.iload_n 1, 1) := by decide +kernel
theorem dX1_blockProperty_62 : decode cX1_blockProperty 62 = .ok (.iaload, 1) := by decide +kernel
theorem dX1_blockProperty_63 : decode cX1_blockProperty 63 = .ok (.ireturn, 1) := by decide +kernel
theorem dX1_blockProperty_64 : decode cX1_blockProperty 64 = .ok (.aload_n 0, 1) := by decide +kernel
theorem dX1_blockProperty_65 : decode cX1_blockProperty 65 = .ok (.getfield 33, 3) := by decide +kernel
theorem dX1_blockProperty_68 : decode cX1_blockProperty 68 = .ok (.iload_n 1, 1) := by decide +kernel
theorem dX1_blockProperty_69 : decode cX1_blockProperty 69 = .ok (.iaload, 1) := by decide +kernel
theorem dX1_blockProperty_70 : decode cX1_blockProperty 70 = .ok (.aload_n 0, 1) := by decide +kernel
theorem dX1_blockProperty_71 : decode cX1_blockProperty 71 = .ok (.getfield 36, 3) := by decide +kernel
theorem dX1_blockProperty_74 : decode cX1_blockProperty 74 = .ok (.iload_n 1, 1) := by decide +kernel
theorem dX1_blockProperty_75 : decode cX1_blockProperty 75 = .ok (.iaload, 1) := by decide +kernel
theorem dX1_blockProperty_76 : decode cX1_blockProperty 76 = .ok (.isub, 1) := by decide +kernel
theorem dX1_blockProperty_77 : decode cX1_blockProperty 77 = .ok (.ireturn, 1) := by decide +kernel
theorem dX1_blockProperty_78 : decode cX1_blockProperty 78 = .ok (.bipush 8, 2) := by decide +kernel
theorem dX1_blockProperty_80 : decode cX1_blockProperty 80 = .ok (.aload_n 0, 1) := by decide +kernel
theorem dX1_blockProperty_81 : decode cX1_blockProperty 81 = .ok (.getfield 33, 3) := by decide +kernel
theorem dX1_blockProperty_84 : decode cX1_blockProperty 84 = .ok (.iload_n 1, 1) := by decide +kernel
theorem dX1_blockProperty_85 : decode cX1_blockProperty 85 = .ok (.iaload, 1) := by decide +kernel
theorem dX1_blockProperty_86 : decode cX1_blockProperty 86 = .ok (.isub, 1) := by decide +kernel
theorem dX1_blockProperty_87 : decode cX1_blockProperty 87 = .ok (.ireturn, 1) := by decide +kernel
theorem dX1_blockProperty_88 : decode cX1_blockProperty 88 = .ok (.aload_n 0, 1) := by decide +kernel
theorem dX1_blockProperty_89 : decode cX1_blockProperty 89 = .ok (.getfield 39, 3) := by decide +kernel
theorem dX1_blockProperty_92 : decode cX1_blockProperty 92 = .ok (.iload_n 1, 1) := by decide +kernel
theorem dX1_blockProperty_93 : decode cX1_blockProperty 93 = .ok (.iaload, 1) := by decide +kernel
theorem dX1_blockProperty_94 : decode cX1_blockProperty 94 = .ok (.ireturn, 1) := by decide +kernel
theorem dX1_blockProperty_95 : decode cX1_blockProperty 95 = .ok (.aload_n 0, 1) := by decide +kernel
theorem dX1_blockProperty_96 : decode cX1_blockProperty 96 = .ok (.iload_n 1, 1) := by decide +kernel
theorem dX1_blockProperty_97 : decode cX1_blockProperty 97 = .ok (.invokevirtual 132, 3) := by decide +kernel
theorem dX1_blockProperty_100 : decode cX1_blockProperty 100 = .ok (.ireturn, 1) := by decide +kernel
theorem dX1_blockProperty_101 : decode cX1_blockProperty 101 = .ok (.aload_n 0, 1) := by decide +kernel
theorem dX1_blockProperty_102 : decode cX1_blockProperty 102 = .ok (.iload_n 1, 1) := by decide +kernel
theorem dX1_blockProperty_103 : decode cX1_blockProperty 103 = .ok (.invokevirtual 135, 3) := by decide +kernel
theorem dX1_blockProperty_106 : decode cX1_blockProperty 106 = .ok (.ireturn, 1) := by decide +kernel
set_option maxRecDepth 20000 in
theorem ggX1_closedAheadOf_X1_stateOf : GoodIn wsX1_closedAheadOf wsX1_stateOf := goodIn_r _ [6, 7, 8, 9, 10, 11, 12, 13, 14, 15, 16, 17, 18, 19, 20, 21, 22, 23, 24, 25] (by decide +kernel) (by decide +kernel)
set_option maxRecDepth 20000 in
theorem gX1_closedAheadOf_X1_stateOf : GoodIn wsX1_closedAheadOf (wsV RX1 129 RX1 yX1_stateOf wsX1_stateOf) := goodIn_app (goodIn_of _ (by decide +kernel)) ggX1_closedAheadOf_X1_stateOf
theorem dX1_closedAheadOf_0 : decode cX1_closedAheadOf 0 = .ok (.aload_n 0, 1) := by decide +kernel
theorem dX1_closedAheadOf_1 : decode cX1_closedAheadOf 1 = .ok (.iload_n 1, 1) := by decide +kernel
theorem dX1_closedAheadOf_2 : decode cX1_closedAheadOf 2 = .ok (.invokevirtual 129, 3) := by decide +kernel
theorem dX1_closedAheadOf_5 : decode cX1_closedAheadOf 5 = .ok (.iconst 2, 1) := by decide +kernel
theorem dX1_closedAheadOf_6 : decode cX1_closedAheadOf 6 = .ok (.if_icmp .eq 5, 3) := by decide +kernel
theorem dX1_closedAheadOf_9 : decode cX1_closedAheadOf 9 = .ok (.iconst (-1), 1) := by decide +kernel
theorem dX1_closedAheadOf_10 : decode cX1_closedAheadOf 10 = .ok (.ireturn, 1) := by decide +kernel
theorem dX1_closedAheadOf_11 : decode cX1_closedAheadOf 11 = .ok (.iconst 0, 1) := by decide +kernel
theorem dX1_closedAheadOf_12 : decode cX1_closedAheadOf 12 = .ok (.istore_n 2, 1) := by decide +kernel
theorem dX1_closedAheadOf_13 : decode cX1_closedAheadOf 13 = .ok (.iconst 0, 1) := by decide +kernel
theorem dX1_closedAheadOf_14 : decode cX1_closedAheadOf 14 = .ok (.istore_n 3, 1) := by decide +kernel
theorem dX1_closedAheadOf_15 : decode cX1_closedAheadOf 15 = .ok (.iload_n 3, 1) := by decide +kernel
theorem dX1_closedAheadOf_16 : decode cX1_closedAheadOf 16 = .ok (.bipush 12, 2) := by decide +kernel
theorem dX1_closedAheadOf_18 : decode cX1_closedAheadOf 18 = .ok (.if_icmp .ge 36, 3) := by decide +kernel
theorem dX1_closedAheadOf_21 : decode cX1_closedAheadOf 21 = .ok (.aload_n 0, 1) := by decide +kernel
theorem dX1_closedAheadOf_22 : decode cX1_closedAheadOf 22 = .ok (.iload_n 3, 1) := by decide +kernel
theorem dX1_closedAheadOf_23 : decode cX1_closedAheadOf 23 = .ok (.invokevirtual 129, 3) := by decide +kernel
theorem dX1_closedAheadOf_26 : decode cX1_closedAheadOf 26 = .ok (.iconst 2, 1) := by decide +kernel
theorem dX1_closedAheadOf_27 : decode cX1_closedAheadOf 27 = .ok (.if_icmp .ne 21, 3) := by decide +kernel
theorem dX1_closedAheadOf_30 : decode cX1_closedAheadOf 30 = .ok (.aload_n 0, 1) := by decide +kernel
theorem dX1_closedAheadOf_31 : decode cX1_closedAheadOf 31 = .ok (.getfield 42, 3) := by decide +kernel
theorem dX1_closedAheadOf_34 : decode cX1_closedAheadOf 34 = .ok (.iload_n 3, 1) := by decide +kernel
theorem dX1_closedAheadOf_35 : decode cX1_closedAheadOf 35 = .ok (.iaload, 1) := by decide +kernel
theorem dX1_closedAheadOf_36 : decode cX1_closedAheadOf 36 = .ok (.aload_n 0, 1) := by decide +kernel
theorem dX1_closedAheadOf_37 : decode cX1_closedAheadOf 37 = .ok (.getfield 42, 3) := by decide +kernel
theorem dX1_closedAheadOf_40 : decode cX1_closedAheadOf 40 = .ok (.iload_n 1, 1) := by decide +kernel
theorem dX1_closedAheadOf_41 : decode cX1_closedAheadOf 41 = .ok (.iaload, 1) := by decide +kernel
theorem dX1_closedAheadOf_42 : decode cX1_closedAheadOf 42 = .ok (.if_icmp .ge 6, 3) := by decide +kernel
theorem dX1_closedAheadOf_45 : decode cX1_closedAheadOf 45 = .ok (.iinc 2 1, 3) := by decide +kernel
theorem dX1_closedAheadOf_48 : decode cX1_closedAheadOf 48 = .ok (.iinc 3 1, 3) := by decide +kernel
theorem dX1_closedAheadOf_51 : decode cX1_closedAheadOf 51 = .ok (.goto (-36), 3) := by decide +kernel
theorem dX1_closedAheadOf_54 : decode cX1_closedAheadOf 54 = .ok (.iload_n 2, 1) := by decide +kernel
theorem dX1_closedAheadOf_55 : decode cX1_closedAheadOf 55 = .ok (.ireturn, 1) := by decide +kernel
set_option maxRecDepth 20000 in
theorem ggX1_unlikeHintsOf_X1_validPageAt : GoodIn wsX1_unlikeHintsOf wsX1_validPageAt := goodIn_r _ [6, 7, 8, 16, 17, 18, 19, 20, 21, 22, 23, 24, 25, 26, 27, 28, 29, 30, 31, 32] (by decide +kernel) (by decide +kernel)
set_option maxRecDepth 20000 in
theorem gX1_unlikeHintsOf_X1_validPageAt : GoodIn wsX1_unlikeHintsOf (wsV RX1 116 RX1 yX1_validPageAt wsX1_validPageAt) := goodIn_app (goodIn_of _ (by decide +kernel)) ggX1_unlikeHintsOf_X1_validPageAt
set_option maxRecDepth 20000 in
theorem ggX1_unlikeHintsOf_J6_bitCount_0f7a4 : GoodIn wsX1_unlikeHintsOf wsJ6_bitCount_0f7a4 := goodIn_r _ [12, 13, 14, 15] (by decide +kernel) (by decide +kernel)
set_option maxRecDepth 20000 in
theorem gX1_unlikeHintsOf_J6_bitCount_0f7a4 : GoodIn wsX1_unlikeHintsOf (va_wsS RX1 138 yJ6_bitCount_0f7a4 wsJ6_bitCount_0f7a4) := goodIn_app (goodIn_of _ (by decide +kernel)) ggX1_unlikeHintsOf_J6_bitCount_0f7a4
theorem dX1_unlikeHintsOf_0 : decode cX1_unlikeHintsOf 0 = .ok (.iconst 0, 1) := by decide +kernel
theorem dX1_unlikeHintsOf_1 : decode cX1_unlikeHintsOf 1 = .ok (.istore_n 2, 1) := by decide +kernel
theorem dX1_unlikeHintsOf_2 : decode cX1_unlikeHintsOf 2 = .ok (.iconst 0, 1) := by decide +kernel
theorem dX1_unlikeHintsOf_3 : decode cX1_unlikeHintsOf 3 = .ok (.istore_n 3, 1) := by decide +kernel
theorem dX1_unlikeHintsOf_4 : decode cX1_unlikeHintsOf 4 = .ok (.iload_n 3, 1) := by decide +kernel
theorem dX1_unlikeHintsOf_5 : decode cX1_unlikeHintsOf 5 = .ok (.bipush 8, 2) := by decide +kernel
theorem dX1_unlikeHintsOf_7 : decode cX1_unlikeHintsOf 7 = .ok (.if_icmp .ge 39, 3) := by decide +kernel
theorem dX1_unlikeHintsOf_10 : decode cX1_unlikeHintsOf 10 = .ok (.aload_n 0, 1) := by decide +kernel
theorem dX1_unlikeHintsOf_11 : decode cX1_unlikeHintsOf 11 = .ok (.iload_n 1, 1) := by decide +kernel
theorem dX1_unlikeHintsOf_12 : decode cX1_unlikeHintsOf 12 = .ok (.bipush 8, 2) := by decide +kernel
theorem dX1_unlikeHintsOf_14 : decode cX1_unlikeHintsOf 14 = .ok (.imul, 1) := by decide +kernel
theorem dX1_unlikeHintsOf_15 : decode cX1_unlikeHintsOf 15 = .ok (.iload_n 3, 1) := by decide +kernel
theorem dX1_unlikeHintsOf_16 : decode cX1_unlikeHintsOf 16 = .ok (.iadd, 1) := by decide +kernel
theorem dX1_unlikeHintsOf_17 : decode cX1_unlikeHintsOf 17 = .ok (.invokevirtual 116, 3) := by decide +kernel
theorem dX1_unlikeHintsOf_20 : decode cX1_unlikeHintsOf 20 = .ok (.istore 4, 2) := by decide +kernel
theorem dX1_unlikeHintsOf_22 : decode cX1_unlikeHintsOf 22 = .ok (.iload 4, 2) := by decide +kernel
theorem dX1_unlikeHintsOf_24 : decode cX1_unlikeHintsOf 24 = .ok (.iconst (-1), 1) := by decide +kernel
theorem dX1_unlikeHintsOf_25 : decode cX1_unlikeHintsOf 25 = .ok (.if_icmp .eq 15, 3) := by decide +kernel
theorem dX1_unlikeHintsOf_28 : decode cX1_unlikeHintsOf 28 = .ok (.iload_n 2, 1) := by decide +kernel
theorem dX1_unlikeHintsOf_29 : decode cX1_unlikeHintsOf 29 = .ok (.iconst 1, 1) := by decide +kernel
theorem dX1_unlikeHintsOf_30 : decode cX1_unlikeHintsOf 30 = .ok (.aload_n 0, 1) := by decide +kernel
theorem dX1_unlikeHintsOf_31 : decode cX1_unlikeHintsOf 31 = .ok (.getfield 15, 3) := by decide +kernel
theorem dX1_unlikeHintsOf_34 : decode cX1_unlikeHintsOf 34 = .ok (.iload 4, 2) := by decide +kernel
theorem dX1_unlikeHintsOf_36 : decode cX1_unlikeHintsOf 36 = .ok (.iaload, 1) := by decide +kernel
theorem dX1_unlikeHintsOf_37 : decode cX1_unlikeHintsOf 37 = .ok (.ishl, 1) := by decide +kernel
theorem dX1_unlikeHintsOf_38 : decode cX1_unlikeHintsOf 38 = .ok (.ior, 1) := by decide +kernel
theorem dX1_unlikeHintsOf_39 : decode cX1_unlikeHintsOf 39 = .ok (.istore_n 2, 1) := by decide +kernel
theorem dX1_unlikeHintsOf_40 : decode cX1_unlikeHintsOf 40 = .ok (.iinc 3 1, 3) := by decide +kernel
theorem dX1_unlikeHintsOf_43 : decode cX1_unlikeHintsOf 43 = .ok (.goto (-39), 3) := by decide +kernel
theorem dX1_unlikeHintsOf_46 : decode cX1_unlikeHintsOf 46 = .ok (.iload_n 2, 1) := by decide +kernel
theorem dX1_unlikeHintsOf_47 : decode cX1_unlikeHintsOf 47 = .ok (.invokestatic 138, 3) := by decide +kernel
theorem dX1_unlikeHintsOf_50 : decode cX1_unlikeHintsOf 50 = .ok (.ireturn, 1) := by decide +kernel
set_option maxRecDepth 20000 in
theorem ggX1_streamProperty_X1_pagesWithHint : GoodIn wsX1_streamProperty wsX1_pagesWithHint := goodIn_r _ [8, 9, 10, 11, 12, 7, 13, 14, 19, 20, 21, 22, 23, 24, 25, 26, 27, 28, 29, 30, 31, 32, 33, 34, 35] (by decide +kernel) (by decide +kernel)
set_option maxRecDepth 20000 in
theorem gX1_streamProperty_X1_pagesWithHint : GoodIn wsX1_streamProperty (wsV RX1 143 RX1 yX1_pagesWithHint wsX1_pagesWithHint) := goodIn_app (goodIn_of _ (by decide +kernel)) ggX1_streamProperty_X1_pagesWithHint
set_option maxRecDepth 20000 in
theorem ggX1_streamProperty_X1_percentOf : GoodIn wsX1_streamProperty wsX1_percentOf := goodIn_r _ [18, 2, 3, 19, 20, 21, 22, 23, 24, 25, 26, 27, 28, 29, 30, 31, 32, 33, 34, 35] (by decide +kernel) (by decide +kernel)
set_option maxRecDepth 20000 in
theorem gX1_streamProperty_X1_percentOf : GoodIn wsX1_streamProperty (wsV RX1 146 RX1 yX1_percentOf wsX1_percentOf) := goodIn_app (goodIn_of _ (by decide +kernel)) ggX1_streamProperty_X1_percentOf
theorem dX1_streamProperty_0 : decode cX1_streamProperty 0 = .ok (.iload_n 2, 1) := by decide +kernel
theorem dX1_streamProperty_1 : decode cX1_streamProperty 1 = .ok (.tableswitch 58 0 3 #[31, 38, 45, 51], 31) := by decide +kernel
theorem dX1_streamProperty_32 : decode cX1_streamProperty 32 = .ok (.aload_n 0, 1) := by decide +kernel
theorem dX1_streamProperty_33 : decode cX1_streamProperty 33 = .ok (.getfield 45, 3) := by decide +kernel
theorem dX1_streamProperty_36 : decode cX1_streamProperty 36 = .ok (.iload_n 1, 1) := by decide +kernel
theorem dX1_streamProperty_37 : decode cX1_streamProperty 37 = .ok (.iaload, 1) := by decide +kernel
theorem dX1_streamProperty_38 : decode cX1_streamProperty 38 = .ok (.ireturn, 1) := by decide +kernel
theorem dX1_streamProperty_39 : decode cX1_streamProperty 39 = .ok (.aload_n 0, 1) := by decide +kernel
theorem dX1_streamProperty_40 : decode cX1_streamProperty 40 = .ok (.getfield 48, 3) := by decide +kernel
theorem dX1_streamProperty_43 : decode cX1_streamProperty 43 = .ok (.iload_n 1, 1) := by decide +kernel
theorem dX1_streamProperty_44 : decode cX1_streamProperty 44 = .ok (.iaload, 1) := by decide +kernel
theorem dX1_streamProperty_45 : decode cX1_streamProperty 45 = .ok (.ireturn, 1) := by decide +kernel
theorem dX1_streamProperty_46 : decode cX1_streamProperty 46 = .ok (.aload_n 0, 1) := by decide +kernel
theorem dX1_streamProperty_47 : decode cX1_streamProperty 47 = .ok (.iload_n 1, 1) := by decide +kernel
theorem dX1_streamProperty_48 : decode cX1_streamProperty 48 = .ok (.invokevirtual 143, 3) := by decide +kernel
theorem dX1_streamProperty_51 : decode cX1_streamProperty 51 = .ok (.ireturn, 1) := by decide +kernel
theorem dX1_streamProperty_52 : decode cX1_streamProperty 52 = .ok (.aload_n 0, 1) := by decide +kernel
theorem dX1_streamProperty_53 : decode cX1_streamProperty 53 = .ok (.getfield 51, 3) := by decide +kernel
theorem dX1_streamProperty_56 : decode cX1_streamProperty 56 = .ok (.iload_n 1, 1) := by decide +kernel
theorem dX1_streamProperty_57 : decode cX1_streamProperty 57 = .ok (.iaload, 1) := by decide +kernel
theorem dX1_streamProperty_58 : decode cX1_streamProperty 58 = .ok (.ireturn, 1) := by decide +kernel
theorem dX1_streamProperty_59 : decode cX1_streamProperty 59 = .ok (.aload_n 0, 1) := by decide +kernel
theorem dX1_streamProperty_60 : decode cX1_streamProperty 60 = .ok (.iload_n 1, 1) := by decide +kernel
theorem dX1_streamProperty_61 : decode cX1_streamProperty 61 = .ok (.invokevirtual 146, 3) := by decide +kernel
theorem dX1_streamProperty_64 : decode cX1_streamProperty 64 = .ok (.ireturn, 1) := by decide +kernel
set_option maxRecDepth 20000 in
theorem ggX1_pagesWithHint_X1_isWritten : GoodIn wsX1_pagesWithHint wsX1_isWritten := goodIn_r _ [6, 7, 8, 9, 10, 11, 12, 13, 14, 15, 16, 17, 18, 19, 20, 21, 22, 23, 24] (by decide +kernel) (by decide +kernel)
set_option maxRecDepth 20000 in
theorem gX1_pagesWithHint_X1_isWritten : GoodIn wsX1_pagesWithHint (wsV RX1 122 RX1 yX1_isWritten wsX1_isWritten) := goodIn_app (goodIn_of _ (by decide +kernel)) ggX1_pagesWithHint_X1_isWritten
theorem dX1_pagesWithHint_0 : decode cX1_pagesWithHint 0 = .ok (.iconst 0, 1) := by decide +kernel
theorem dX1_pagesWithHint_1 : decode cX1_pagesWithHint 1 = .ok (.istore_n 2, 1) := by decide +kernel
theorem dX1_pagesWithHint_2 : decode cX1_pagesWithHint 2 = .ok (.iconst 0, 1) := by decide +kernel
theorem dX1_pagesWithHint_3 : decode cX1_pagesWithHint 3 = .ok (.istore_n 3, 1) := by decide +kernel
theorem dX1_pagesWithHint_4 : decode cX1_pagesWithHint 4 = .ok (.iload_n 3, 1) := by decide +kernel
theorem dX1_pagesWithHint_5 : decode cX1_pagesWithHint 5 = .ok (.bipush 40, 2) := by decide +kernel
theorem dX1_pagesWithHint_7 : decode cX1_pagesWithHint 7 = .ok (.if_icmp .ge 30, 3) := by decide +kernel
theorem dX1_pagesWithHint_10 : decode cX1_pagesWithHint 10 = .ok (.aload_n 0, 1) := by decide +kernel
theorem dX1_pagesWithHint_11 : decode cX1_pagesWithHint 11 = .ok (.iload_n 3, 1) := by decide +kernel
theorem dX1_pagesWithHint_12 : decode cX1_pagesWithHint 12 = .ok (.invokevirtual 122, 3) := by decide +kernel
theorem dX1_pagesWithHint_15 : decode cX1_pagesWithHint 15 = .ok (.ifCond .eq 16, 3) := by decide +kernel
theorem dX1_pagesWithHint_18 : decode cX1_pagesWithHint 18 = .ok (.aload_n 0, 1) := by decide +kernel
theorem dX1_pagesWithHint_19 : decode cX1_pagesWithHint 19 = .ok (.getfield 15, 3) := by decide +kernel
theorem dX1_pagesWithHint_22 : decode cX1_pagesWithHint 22 = .ok (.iload_n 3, 1) := by decide +kernel
theorem dX1_pagesWithHint_23 : decode cX1_pagesWithHint 23 = .ok (.iaload, 1) := by decide +kernel
theorem dX1_pagesWithHint_24 : decode cX1_pagesWithHint 24 = .ok (.iload_n 1, 1) := by decide +kernel
theorem dX1_pagesWithHint_25 : decode cX1_pagesWithHint 25 = .ok (.if_icmp .ne 6, 3) := by decide +kernel
theorem dX1_pagesWithHint_28 : decode cX1_pagesWithHint 28 = .ok (.iinc 2 1, 3) := by decide +kernel
theorem dX1_pagesWithHint_31 : decode cX1_pagesWithHint 31 = .ok (.iinc 3 1, 3) := by decide +kernel
theorem dX1_pagesWithHint_34 : decode cX1_pagesWithHint 34 = .ok (.goto (-30), 3) := by decide +kernel
theorem dX1_pagesWithHint_37 : decode cX1_pagesWithHint 37 = .ok (.iload_n 2, 1) := by decide +kernel
theorem dX1_pagesWithHint_38 : decode cX1_pagesWithHint 38 = .ok (.ireturn, 1) := by decide +kernel
theorem dX1_percentOf_0 : decode cX1_percentOf 0 = .ok (.aload_n 0, 1) := by decide +kernel
theorem dX1_percentOf_1 : decode cX1_percentOf 1 = .ok (.getfield 48, 3) := by decide +kernel
theorem dX1_percentOf_4 : decode cX1_percentOf 4 = .ok (.iload_n 1, 1) := by decide +kernel
theorem dX1_percentOf_5 : decode cX1_percentOf 5 = .ok (.iaload, 1) := by decide +kernel
theorem dX1_percentOf_6 : decode cX1_percentOf 6 = .ok (.istore_n 2, 1) := by decide +kernel
theorem dX1_percentOf_7 : decode cX1_percentOf 7 = .ok (.iload_n 2, 1) := by decide +kernel
theorem dX1_percentOf_8 : decode cX1_percentOf 8 = .ok (.ifCond .ne 7, 3) := by decide +kernel
theorem dX1_percentOf_11 : decode cX1_percentOf 11 = .ok (.iconst 0, 1) := by decide +kernel
theorem dX1_percentOf_12 : decode cX1_percentOf 12 = .ok (.goto 16, 3) := by decide +kernel
theorem dX1_percentOf_15 : decode cX1_percentOf 15 = .ok (.bipush 100, 2) := by decide +kernel
theorem dX1_percentOf_17 : decode cX1_percentOf 17 = .ok (.iload_n 2, 1) := by decide +kernel
theorem dX1_percentOf_18 : decode cX1_percentOf 18 = .ok (.aload_n 0, 1) := by decide +kernel
theorem dX1_percentOf_19 : decode cX1_percentOf 19 = .ok (.getfield 51, 3) := by decide +kernel
theorem dX1_percentOf_22 : decode cX1_percentOf 22 = .ok (.iload_n 1, 1) := by decide +kernel
theorem dX1_percentOf_23 : decode cX1_percentOf 23 = .ok (.iaload, 1) := by decide +kernel
theorem dX1_percentOf_24 : decode cX1_percentOf 24 = .ok (.iadd, 1) := by decide +kernel
theorem dX1_percentOf_25 : decode cX1_percentOf 25 = .ok (.imul, 1) := by decide +kernel
theorem dX1_percentOf_26 : decode cX1_percentOf 26 = .ok (.iload_n 2, 1) := by decide +kernel
theorem dX1_percentOf_27 : decode cX1_percentOf 27 = .ok (.idiv, 1) := by decide +kernel
theorem dX1_percentOf_28 : decode cX1_percentOf 28 = .ok (.ireturn, 1) := by decide +kernel
set_option maxRecDepth 20000 in
theorem ggX1_total_X1_sum : GoodIn wsX1_total wsX1_sum := goodIn_r _ [7] (by decide +kernel) (by decide +kernel)
set_option maxRecDepth 20000 in
theorem gX1_total_X1_sum : GoodIn wsX1_total (va_wsS RX1 149 yX1_sum wsX1_sum) := goodIn_app (goodIn_of _ (by decide +kernel)) ggX1_total_X1_sum
set_option maxRecDepth 20000 in
theorem ggX1_total_X1_openBlocks : GoodIn wsX1_total wsX1_openBlocks := goodIn_r _ [11, 12, 49, 50, 51, 52, 53, 54, 55, 56, 57, 58, 59, 60, 61, 62, 63, 64, 65] (by decide +kernel) (by decide +kernel)
set_option maxRecDepth 20000 in
theorem gX1_total_X1_openBlocks : GoodIn wsX1_total (wsV RX1 153 RX1 yX1_openBlocks wsX1_openBlocks) := goodIn_app (goodIn_of _ (by decide +kernel)) ggX1_total_X1_openBlocks
set_option maxRecDepth 20000 in
theorem ggX1_total_X1_writes : GoodIn wsX1_total wsX1_writes := goodIn_r _ [16, 17, 4, 5, 6, 7, 49, 50, 51, 52, 53, 54, 55, 56, 57, 58, 59, 60, 61, 62, 63, 64, 65] (by decide +kernel) (by decide +kernel)
set_option maxRecDepth 20000 in
theorem gX1_total_X1_writes : GoodIn wsX1_total (wsV RX1 156 RX1 yX1_writes wsX1_writes) := goodIn_app (goodIn_of _ (by decide +kernel)) ggX1_total_X1_writes
set_option maxRecDepth 20000 in
theorem ggX1_total_X1_copies : GoodIn wsX1_total wsX1_copies := goodIn_r _ [21, 22, 49, 50, 51, 52, 53, 54, 55, 56, 57, 58, 59, 60, 61, 62, 63, 64, 65] (by decide +kernel) (by decide +kernel)
set_option maxRecDepth 20000 in
theorem gX1_total_X1_copies : GoodIn wsX1_total (wsV RX1 86 RX1 yX1_copies wsX1_copies) := goodIn_app (goodIn_of _ (by decide +kernel)) ggX1_total_X1_copies
set_option maxRecDepth 20000 in
theorem ggX1_total_X1_erasures : GoodIn wsX1_total wsX1_erasures := goodIn_r _ [26, 27, 4, 5, 6, 7, 49, 50, 51, 52, 53, 54, 55, 56, 57, 58, 59, 60, 61, 62, 63, 64, 65] (by decide +kernel) (by decide +kernel)
set_option maxRecDepth 20000 in
theorem gX1_total_X1_erasures : GoodIn wsX1_total (wsV RX1 159 RX1 yX1_erasures wsX1_erasures) := goodIn_app (goodIn_of _ (by decide +kernel)) ggX1_total_X1_erasures
set_option maxRecDepth 20000 in
theorem ggX1_total_X1_spreadOfErasures : GoodIn wsX1_total wsX1_spreadOfErasures := goodIn_r _ [31, 27, 32, 33, 34, 35, 36, 37, 38, 49, 50, 51, 52, 53, 54, 55, 56, 57, 58, 59, 60, 61, 62, 63, 64, 65] (by decide +kernel) (by decide +kernel)
set_option maxRecDepth 20000 in
theorem gX1_total_X1_spreadOfErasures : GoodIn wsX1_total (wsV RX1 162 RX1 yX1_spreadOfErasures wsX1_spreadOfErasures) := goodIn_app (goodIn_of _ (by decide +kernel)) ggX1_total_X1_spreadOfErasures
set_option maxRecDepth 20000 in
theorem ggX1_total_X1_victim : GoodIn wsX1_total wsX1_victim := goodIn_r _ [42, 3, 1, 43, 44, 45, 6, 46, 47, 48, 27, 49, 50, 51, 52, 53, 54, 55, 56, 57, 58, 59, 60, 61, 62, 63, 64, 65] (by decide +kernel) (by decide +kernel)
set_option maxRecDepth 20000 in
theorem gX1_total_X1_victim : GoodIn wsX1_total (wsV RX1 106 RX1 yX1_victim wsX1_victim) := goodIn_app (goodIn_of _ (by decide +kernel)) ggX1_total_X1_victim
theorem dX1_total_0 : decode cX1_total 0 = .ok (.iload_n 1, 1) := by decide +kernel
theorem dX1_total_1 : decode cX1_total 1 = .ok (.tableswitch 133 0 9 #[55, 63, 68, 73, 86, 102, 113, 118, 123, 128], 55) := by decide +kernel
theorem dX1_total_56 : decode cX1_total 56 = .ok (.aload_n 0, 1) := by decide +kernel
theorem dX1_total_57 : decode cX1_total 57 = .ok (.getfield 36, 3) := by decide +kernel
theorem dX1_total_60 : decode cX1_total 60 = .ok (.invokestatic 149, 3) := by decide +kernel
theorem dX1_total_63 : decode cX1_total 63 = .ok (.ireturn, 1) := by decide +kernel
theorem dX1_total_64 : decode cX1_total 64 = .ok (.aload_n 0, 1) := by decide +kernel
theorem dX1_total_65 : decode cX1_total 65 = .ok (.getfield 57, 3) := by decide +kernel
theorem dX1_total_68 : decode cX1_total 68 = .ok (.ireturn, 1) := by decide +kernel
theorem dX1_total_69 : decode cX1_total 69 = .ok (.aload_n 0, 1) := by decide +kernel
theorem dX1_total_70 : decode cX1_total 70 = .ok (.invokevirtual 153, 3) := by decide +kernel
theorem dX1_total_73 : decode cX1_total 73 = .ok (.ireturn, 1) := by decide +kernel
theorem dX1_total_74 : decode cX1_total 74 = .ok (.bipush 12, 2) := by decide +kernel
theorem dX1_total_76 : decode cX1_total 76 = .ok (.aload_n 0, 1) := by decide +kernel
theorem dX1_total_77 : decode cX1_total 77 = .ok (.getfield 57, 3) := by decide +kernel
theorem dX1_total_80 : decode cX1_total 80 = .ok (.isub, 1) := by decide +kernel
theorem dX1_total_81 : decode cX1_total 81 = .ok (.aload_n 0, 1) := by decide +kernel
theorem dX1_total_82 : decode cX1_total 82 = .ok (.invokevirtual 153, 3) := by decide +kernel
theorem dX1_total_85 : decode cX1_total 85 = .ok (.isub, 1) := by decide +kernel
theorem dX1_total_86 : decode cX1_total 86 = .ok (.ireturn, 1) := by decide +kernel
theorem dX1_total_87 : decode cX1_total 87 = .ok (.aload_n 0, 1) := by decide +kernel
theorem dX1_total_88 : decode cX1_total 88 = .ok (.getfield 33, 3) := by decide +kernel
theorem dX1_total_91 : decode cX1_total 91 = .ok (.invokestatic 149, 3) := by decide +kernel
theorem dX1_total_94 : decode cX1_total 94 = .ok (.aload_n 0, 1) := by decide +kernel
theorem dX1_total_95 : decode cX1_total 95 = .ok (.getfield 36, 3) := by decide +kernel
theorem dX1_total_98 : decode cX1_total 98 = .ok (.invokestatic 149, 3) := by decide +kernel
theorem dX1_total_101 : decode cX1_total 101 = .ok (.isub, 1) := by decide +kernel
theorem dX1_total_102 : decode cX1_total 102 = .ok (.ireturn, 1) := by decide +kernel
theorem dX1_total_103 : decode cX1_total 103 = .ok (.bipush 96, 2) := by decide +kernel
theorem dX1_total_105 : decode cX1_total 105 = .ok (.aload_n 0, 1) := by decide +kernel
theorem dX1_total_106 : decode cX1_total 106 = .ok (.getfield 33, 3) := by decide +kernel
theorem dX1_total_109 : decode cX1_total 109 = .ok (.invokestatic 149, 3) := by decide +kernel
theorem dX1_total_112 : decode cX1_total 112 = .ok (.isub, 1) := by decide +kernel
theorem dX1_total_113 : decode cX1_total 113 = .ok (.ireturn, 1) := by decide +kernel
theorem dX1_total_114 : decode cX1_total 114 = .ok (.aload_n 0, 1) := by decide +kernel
theorem dX1_total_115 : decode cX1_total 115 = .ok (.invokevirtual 156, 3) := by decide +kernel
theorem dX1_total_118 : decode cX1_total 118 = .ok (.ireturn, 1) := by decide +kernel
theorem dX1_total_119 : decode cX1_total 119 = .ok (.aload_n 0, 1) := by decide +kernel
theorem dX1_total_120 : decode cX1_total 120 = .ok (.invokevirtual 86, 3) := by decide +kernel
theorem dX1_total_123 : decode cX1_total 123 = .ok (.ireturn, 1) := by decide +kernel
theorem dX1_total_124 : decode cX1_total 124 = .ok (.aload_n 0, 1) := by decide +kernel
theorem dX1_total_125 : decode cX1_total 125 = .ok (.invokevirtual 159, 3) := by decide +kernel
theorem dX1_total_128 : decode cX1_total 128 = .ok (.ireturn, 1) := by decide +kernel
theorem dX1_total_129 : decode cX1_total 129 = .ok (.aload_n 0, 1) := by decide +kernel
theorem dX1_total_130 : decode cX1_total 130 = .ok (.invokevirtual 162, 3) := by decide +kernel
theorem dX1_total_133 : decode cX1_total 133 = .ok (.ireturn, 1) := by decide +kernel
theorem dX1_total_134 : decode cX1_total 134 = .ok (.aload_n 0, 1) := by decide +kernel
theorem dX1_total_135 : decode cX1_total 135 = .ok (.invokevirtual 106, 3) := by decide +kernel
theorem dX1_total_138 : decode cX1_total 138 = .ok (.ireturn, 1) := by decide +kernel
set_option maxRecDepth 20000 in
theorem ggX1_writes_X1_sum : GoodIn wsX1_writes wsX1_sum := goodIn_r _ [5] (by decide +kernel) (by decide +kernel)
set_option maxRecDepth 20000 in
theorem gX1_writes_X1_sum : GoodIn wsX1_writes (va_wsS RX1 149 yX1_sum wsX1_sum) := goodIn_app (goodIn_of _ (by decide +kernel)) ggX1_writes_X1_sum
theorem dX1_writes_0 : decode cX1_writes 0 = .ok (.aload_n 0, 1) := by decide +kernel
theorem dX1_writes_1 : decode cX1_writes 1 = .ok (.getfield 18, 3) := by decide +kernel
theorem dX1_writes_4 : decode cX1_writes 4 = .ok (.invokestatic 149, 3) := by decide +kernel
theorem dX1_writes_7 : decode cX1_writes 7 = .ok (.ireturn, 1) := by decide +kernel
theorem dX1_copies_0 : decode cX1_copies 0 = .ok (.aload_n 0, 1) := by decide +kernel
theorem dX1_copies_1 : decode cX1_copies 1 = .ok (.getfield 48, 3) := by decide +kernel
theorem dX1_copies_4 : decode cX1_copies 4 = .ok (.iconst 4, 1) := by decide +kernel
theorem dX1_copies_5 : decode cX1_copies 5 = .ok (.iaload, 1) := by decide +kernel
theorem dX1_copies_6 : decode cX1_copies 6 = .ok (.ireturn, 1) := by decide +kernel
set_option maxRecDepth 20000 in
theorem ggX1_erasures_X1_sum : GoodIn wsX1_erasures wsX1_sum := goodIn_r _ [5] (by decide +kernel) (by decide +kernel)
set_option maxRecDepth 20000 in
theorem gX1_erasures_X1_sum : GoodIn wsX1_erasures (va_wsS RX1 149 yX1_sum wsX1_sum) := goodIn_app (goodIn_of _ (by decide +kernel)) ggX1_erasures_X1_sum
theorem dX1_erasures_0 : decode cX1_erasures 0 = .ok (.aload_n 0, 1) := by decide +kernel
theorem dX1_erasures_1 : decode cX1_erasures 1 = .ok (.getfield 39, 3) := by decide +kernel
theorem dX1_erasures_4 : decode cX1_erasures 4 = .ok (.invokestatic 149, 3) := by decide +kernel
theorem dX1_erasures_7 : decode cX1_erasures 7 = .ok (.ireturn, 1) := by decide +kernel
theorem dX1_openBlocks_0 : decode cX1_openBlocks 0 = .ok (.iconst 0, 1) := by decide +kernel
theorem dX1_openBlocks_1 : decode cX1_openBlocks 1 = .ok (.istore_n 1, 1) := by decide +kernel
theorem dX1_openBlocks_2 : decode cX1_openBlocks 2 = .ok (.iconst 0, 1) := by decide +kernel
theorem dX1_openBlocks_3 : decode cX1_openBlocks 3 = .ok (.istore_n 2, 1) := by decide +kernel
theorem dX1_openBlocks_4 : decode cX1_openBlocks 4 = .ok (.iload_n 2, 1) := by decide +kernel
theorem dX1_openBlocks_5 : decode cX1_openBlocks 5 = .ok (.iconst 5, 1) := by decide +kernel
theorem dX1_openBlocks_6 : decode cX1_openBlocks 6 = .ok (.if_icmp .ge 22, 3) := by decide +kernel
theorem dX1_openBlocks_9 : decode cX1_openBlocks 9 = .ok (.aload_n 0, 1) := by decide +kernel
theorem dX1_openBlocks_10 : decode cX1_openBlocks 10 = .ok (.getfield 45, 3) := by decide +kernel
theorem dX1_openBlocks_13 : decode cX1_openBlocks 13 = .ok (.iload_n 2, 1) := by decide +kernel
theorem dX1_openBlocks_14 : decode cX1_openBlocks 14 = .ok (.iaload, 1) := by decide +kernel
theorem dX1_openBlocks_15 : decode cX1_openBlocks 15 = .ok (.iconst (-1), 1) := by decide +kernel
theorem dX1_openBlocks_16 : decode cX1_openBlocks 16 = .ok (.if_icmp .eq 6, 3) := by decide +kernel
theorem dX1_openBlocks_19 : decode cX1_openBlocks 19 = .ok (.iinc 1 1, 3) := by decide +kernel
theorem dX1_openBlocks_22 : decode cX1_openBlocks 22 = .ok (.iinc 2 1, 3) := by decide +kernel
theorem dX1_openBlocks_25 : decode cX1_openBlocks 25 = .ok (.goto (-21), 3) := by decide +kernel
theorem dX1_openBlocks_28 : decode cX1_openBlocks 28 = .ok (.iload_n 1, 1) := by decide +kernel
theorem dX1_openBlocks_29 : decode cX1_openBlocks 29 = .ok (.ireturn, 1) := by decide +kernel
theorem dX1_spreadOfErasures_0 : decode cX1_spreadOfErasures 0 = .ok (.aload_n 0, 1) := by decide +kernel
theorem dX1_spreadOfErasures_1 : decode cX1_spreadOfErasures 1 = .ok (.getfield 39, 3) := by decide +kernel
theorem dX1_spreadOfErasures_4 : decode cX1_spreadOfErasures 4 = .ok (.iconst 0, 1) := by decide +kernel
theorem dX1_spreadOfErasures_5 : decode cX1_spreadOfErasures 5 = .ok (.iaload, 1) := by decide +kernel
theorem dX1_spreadOfErasures_6 : decode cX1_spreadOfErasures 6 = .ok (.istore_n 1, 1) := by decide +kernel
theorem dX1_spreadOfErasures_7 : decode cX1_spreadOfErasures 7 = .ok (.aload_n 0, 1) := by decide +kernel
theorem dX1_spreadOfErasures_8 : decode cX1_spreadOfErasures 8 = .ok (.getfield 39, 3) := by decide +kernel
theorem dX1_spreadOfErasures_11 : decode cX1_spreadOfErasures 11 = .ok (.iconst 0, 1) := by decide +kernel
theorem dX1_spreadOfErasures_12 : decode cX1_spreadOfErasures 12 = .ok (.iaload, 1) := by decide +kernel
theorem dX1_spreadOfErasures_13 : decode cX1_spreadOfErasures 13 = .ok (.istore_n 2, 1) := by decide +kernel
theorem dX1_spreadOfErasures_14 : decode cX1_spreadOfErasures 14 = .ok (.iconst 1, 1) := by decide +kernel
theorem dX1_spreadOfErasures_15 : decode cX1_spreadOfErasures 15 = .ok (.istore_n 3, 1) := by decide +kernel
theorem dX1_spreadOfErasures_16 : decode cX1_spreadOfErasures 16 = .ok (.iload_n 3, 1) := by decide +kernel
theorem dX1_spreadOfErasures_17 : decode cX1_spreadOfErasures 17 = .ok (.bipush 12, 2) := by decide +kernel
theorem dX1_spreadOfErasures_19 : decode cX1_spreadOfErasures 19 = .ok (.if_icmp .ge 31, 3) := by decide +kernel
theorem dX1_spreadOfErasures_22 : decode cX1_spreadOfErasures 22 = .ok (.iload_n 1, 1) := by decide +kernel
theorem dX1_spreadOfErasures_23 : decode cX1_spreadOfErasures 23 = .ok (.aload_n 0, 1) := by decide +kernel
theorem dX1_spreadOfErasures_24 : decode cX1_spreadOfErasures 24 = .ok (.getfield 39, 3) := by decide +kernel
theorem dX1_spreadOfErasures_27 : decode cX1_spreadOfErasures 27 = .ok (.iload_n 3, 1) := by decide +kernel
theorem dX1_spreadOfErasures_28 : decode cX1_spreadOfErasures 28 = .ok (.iaload, 1) := by decide +kernel
theorem dX1_spreadOfErasures_29 : decode cX1_spreadOfErasures 29 = .ok (.invokestatic 165, 3) := by decide +kernel
theorem dX1_spreadOfErasures_32 : decode cX1_spreadOfErasures 32 = .ok (.istore_n 1, 1) := by decide +kernel
theorem dX1_spreadOfErasures_33 : decode cX1_spreadOfErasures 33 = .ok (.iload_n 2, 1) := by decide +kernel
theorem dX1_spreadOfErasures_34 : decode cX1_spreadOfErasures 34 = .ok (.aload_n 0, 1) := by decide +kernel
theorem dX1_spreadOfErasures_35 : decode cX1_spreadOfErasures 35 = .ok (.getfield 39, 3) := by decide +kernel
theorem dX1_spreadOfErasures_38 : decode cX1_spreadOfErasures 38 = .ok (.iload_n 3, 1) := by decide +kernel
theorem dX1_spreadOfErasures_39 : decode cX1_spreadOfErasures 39 = .ok (.iaload, 1) := by decide +kernel
theorem dX1_spreadOfErasures_40 : decode cX1_spreadOfErasures 40 = .ok (.invokestatic 74, 3) := by decide +kernel
theorem dX1_spreadOfErasures_43 : decode cX1_spreadOfErasures 43 = .ok (.istore_n 2, 1) := by decide +kernel
theorem dX1_spreadOfErasures_44 : decode cX1_spreadOfErasures 44 = .ok (.iinc 3 1, 3) := by decide +kernel
theorem dX1_spreadOfErasures_47 : decode cX1_spreadOfErasures 47 = .ok (.goto (-31), 3) := by decide +kernel
theorem dX1_spreadOfErasures_50 : decode cX1_spreadOfErasures 50 = .ok (.iload_n 1, 1) := by decide +kernel
theorem dX1_spreadOfErasures_51 : decode cX1_spreadOfErasures 51 = .ok (.iload_n 2, 1) := by decide +kernel
theorem dX1_spreadOfErasures_52 : decode cX1_spreadOfErasures 52 = .ok (.isub, 1) := by decide +kernel
theorem dX1_spreadOfErasures_53 : decode cX1_spreadOfErasures 53 = .ok (.ireturn, 1) := by decide +kernel
theorem dX1_sum_0 : decode cX1_sum 0 = .ok (.iconst 0, 1) := by decide +kernel
theorem dX1_sum_1 : decode cX1_sum 1 = .ok (.istore_n 1, 1) := by decide +kernel
theorem dX1_sum_2 : decode cX1_sum 2 = .ok (.aload_n 0, 1) := by decide +kernel
theorem dX1_sum_3 : decode cX1_sum 3 = .ok (.astore_n 2, 1) := by decide +kernel
theorem dX1_sum_4 : decode cX1_sum 4 = .ok (.aload_n 2, 1) := by decide +kernel
theorem dX1_sum_5 : decode cX1_sum 5 = .ok (.arraylength, 1) := by decide +kernel
theorem dX1_sum_6 : decode cX1_sum 6 = .ok (.istore_n 3, 1) := by decide +kernel
theorem dX1_sum_7 : decode cX1_sum 7 = .ok (.iconst 0, 1) := by decide +kernel
theorem dX1_sum_8 : decode cX1_sum 8 = .ok (.istore 4, 2) := by decide +kernel
theorem dX1_sum_10 : decode cX1_sum 10 = .ok (.iload 4, 2) := by decide +kernel
theorem dX1_sum_12 : decode cX1_sum 12 = .ok (.iload_n 3, 1) := by decide +kernel
theorem dX1_sum_13 : decode cX1_sum 13 = .ok (.if_icmp .ge 20, 3) := by decide +kernel
theorem dX1_sum_16 : decode cX1_sum 16 = .ok (.aload_n 2, 1) := by decide +kernel
theorem dX1_sum_17 : decode cX1_sum 17 = .ok (.iload 4, 2) := by decide +kernel
theorem dX1_sum_19 : decode cX1_sum 19 = .ok (.iaload, 1) := by decide +kernel
theorem dX1_sum_20 : decode cX1_sum 20 = .ok (.istore 5, 2) := by decide +kernel
theorem dX1_sum_22 : decode cX1_sum 22 = .ok (.iload_n 1, 1) := by decide +kernel
theorem dX1_sum_23 : decode cX1_sum 23 = .ok (.iload 5, 2) := by decide +kernel
theorem dX1_sum_25 : decode cX1_sum 25 = .ok (.iadd, 1) := by decide +kernel
theorem dX1_sum_26 : decode cX1_sum 26 = .ok (.istore_n 1, 1) := by decide +kernel
theorem dX1_sum_27 : decode cX1_sum 27 = .ok (.iinc 4 1, 3) := by decide +kernel
theorem dX1_sum_30 : decode cX1_sum 30 = .ok (.goto (-20), 3) := by decide +kernel
theorem dX1_sum_33 : decode cX1_sum 33 = .ok (.iload_n 1, 1) := by decide +kernel
theorem dX1_sum_34 : decode cX1_sum 34 = .ok (.ireturn, 1) := by decide +kernel
