theorem dX3_init_0 : decode cX3_init 0 = .ok (.aload_n 0, 1) := by decide +kernel
theorem dX3_init_1 : decode cX3_init 1 = .ok (.invokespecial 1, 3) := by decide +kernel
theorem dX3_init_4 : decode cX3_init 4 = .ok (.aload_n 0, 1) := by decide +kernel
theorem dX3_init_5 : decode cX3_init 5 = .ok (.sipush 364, 3) := by decide +kernel
theorem dX3_init_8 : decode cX3_init 8 = .ok (.newarray .int, 2) := by decide +kernel
theorem dX3_init_10 : decode cX3_init 10 = .ok (.putfield 7, 3) := by decide +kernel
theorem dX3_init_13 : decode cX3_init 13 = .ok (.aload_n 0, 1) := by decide +kernel
theorem dX3_init_14 : decode cX3_init 14 = .ok (.sipush 364, 3) := by decide +kernel
theorem dX3_init_17 : decode cX3_init 17 = .ok (.newarray .int, 2) := by decide +kernel
theorem dX3_init_19 : decode cX3_init 19 = .ok (.putfield 13, 3) := by decide +kernel
theorem dX3_init_22 : decode cX3_init 22 = .ok (.aload_n 0, 1) := by decide +kernel
theorem dX3_init_23 : decode cX3_init 23 = .ok (.sipush 2184, 3) := by decide +kernel
theorem dX3_init_26 : decode cX3_init 26 = .ok (.newarray .int, 2) := by decide +kernel
theorem dX3_init_28 : decode cX3_init 28 = .ok (.putfield 16, 3) := by decide +kernel
theorem dX3_init_31 : decode cX3_init 31 = .ok (.aload_n 0, 1) := by decide +kernel
theorem dX3_init_32 : decode cX3_init 32 = .ok (.bipush 60, 2) := by decide +kernel
theorem dX3_init_34 : decode cX3_init 34 = .ok (.newarray .int, 2) := by decide +kernel
theorem dX3_init_36 : decode cX3_init 36 = .ok (.putfield 19, 3) := by decide +kernel
theorem dX3_init_39 : decode cX3_init 39 = .ok (.aload_n 0, 1) := by decide +kernel
theorem dX3_init_40 : decode cX3_init 40 = .ok (.bipush 96, 2) := by decide +kernel
theorem dX3_init_42 : decode cX3_init 42 = .ok (.newarray .int, 2) := by decide +kernel
theorem dX3_init_44 : decode cX3_init 44 = .ok (.putfield 22, 3) := by decide +kernel
theorem dX3_init_47 : decode cX3_init 47 = .ok (.iconst 0, 1) := by decide +kernel
theorem dX3_init_48 : decode cX3_init 48 = .ok (.istore_n 1, 1) := by decide +kernel
theorem dX3_init_49 : decode cX3_init 49 = .ok (.iload_n 1, 1) := by decide +kernel
theorem dX3_init_50 : decode cX3_init 50 = .ok (.bipush 96, 2) := by decide +kernel
theorem dX3_init_52 : decode cX3_init 52 = .ok (.if_icmp .ge 16, 3) := by decide +kernel
theorem dX3_init_55 : decode cX3_init 55 = .ok (.aload_n 0, 1) := by decide +kernel
theorem dX3_init_56 : decode cX3_init 56 = .ok (.getfield 7, 3) := by decide +kernel
theorem dX3_init_59 : decode cX3_init 59 = .ok (.iload_n 1, 1) := by decide +kernel
theorem dX3_init_60 : decode cX3_init 60 = .ok (.iconst (-1), 1) := by decide +kernel
theorem dX3_init_61 : decode cX3_init 61 = .ok (.iastore, 1) := by decide +kernel
theorem dX3_init_62 : decode cX3_init 62 = .ok (.iinc 1 1, 3) := by decide +kernel
theorem dX3_init_65 : decode cX3_init 65 = .ok (.goto (-16), 3) := by decide +kernel
theorem dX3_init_68 : decode cX3_init 68 = .ok (.iconst 0, 1) := by decide +kernel
theorem dX3_init_69 : decode cX3_init 69 = .ok (.istore_n 1, 1) := by decide +kernel
theorem dX3_init_70 : decode cX3_init 70 = .ok (.iload_n 1, 1) := by decide +kernel
theorem dX3_init_71 : decode cX3_init 71 = .ok (.bipush 12, 2) := by decide +kernel
theorem dX3_init_73 : decode cX3_init 73 = .ok (.if_icmp .ge 19, 3) := by decide +kernel
theorem dX3_init_76 : decode cX3_init 76 = .ok (.aload_n 0, 1) := by decide +kernel
theorem dX3_init_77 : decode cX3_init 77 = .ok (.getfield 7, 3) := by decide +kernel
theorem dX3_init_80 : decode cX3_init 80 = .ok (.bipush 108, 2) := by decide +kernel
theorem dX3_init_82 : decode cX3_init 82 = .ok (.iload_n 1, 1) := by decide +kernel
theorem dX3_init_83 : decode cX3_init 83 = .ok (.iadd, 1) := by decide +kernel
theorem dX3_init_84 : decode cX3_init 84 = .ok (.iconst (-1), 1) := by decide +kernel
theorem dX3_init_85 : decode cX3_init 85 = .ok (.iastore, 1) := by decide +kernel
theorem dX3_init_86 : decode cX3_init 86 = .ok (.iinc 1 1, 3) := by decide +kernel
theorem dX3_init_89 : decode cX3_init 89 = .ok (.goto (-19), 3) := by decide +kernel
theorem dX3_init_92 : decode cX3_init 92 = .ok (.iconst 0, 1) := by decide +kernel
theorem dX3_init_93 : decode cX3_init 93 = .ok (.istore_n 1, 1) := by decide +kernel
theorem dX3_init_94 : decode cX3_init 94 = .ok (.iload_n 1, 1) := by decide +kernel
theorem dX3_init_95 : decode cX3_init 95 = .ok (.bipush 40, 2) := by decide +kernel
theorem dX3_init_97 : decode cX3_init 97 = .ok (.if_icmp .ge 39, 3) := by decide +kernel
theorem dX3_init_100 : decode cX3_init 100 = .ok (.aload_n 0, 1) := by decide +kernel
theorem dX3_init_101 : decode cX3_init 101 = .ok (.getfield 7, 3) := by decide +kernel
theorem dX3_init_104 : decode cX3_init 104 = .ok (.sipush 144, 3) := by decide +kernel
theorem dX3_init_107 : decode cX3_init 107 = .ok (.iconst 5, 1) := by decide +kernel
theorem dX3_init_108 : decode cX3_init 108 = .ok (.iload_n 1, 1) := by decide +kernel
theorem dX3_init_109 : decode cX3_init 109 = .ok (.imul, 1) := by decide +kernel
theorem dX3_init_110 : decode cX3_init 110 = .ok (.iadd, 1) := by decide +kernel
theorem dX3_init_111 : decode cX3_init 111 = .ok (.iconst 0, 1) := by decide +kernel
theorem dX3_init_112 : decode cX3_init 112 = .ok (.iadd, 1) := by decide +kernel
theorem dX3_init_113 : decode cX3_init 113 = .ok (.iconst (-1), 1) := by decide +kernel
theorem dX3_init_114 : decode cX3_init 114 = .ok (.iastore, 1) := by decide +kernel
theorem dX3_init_115 : decode cX3_init 115 = .ok (.aload_n 0, 1) := by decide +kernel
theorem dX3_init_116 : decode cX3_init 116 = .ok (.getfield 7, 3) := by decide +kernel
theorem dX3_init_119 : decode cX3_init 119 = .ok (.sipush 144, 3) := by decide +kernel
theorem dX3_init_122 : decode cX3_init 122 = .ok (.iconst 5, 1) := by decide +kernel
theorem dX3_init_123 : decode cX3_init 123 = .ok (.iload_n 1, 1) := by decide +kernel
theorem dX3_init_124 : decode cX3_init 124 = .ok (.imul, 1) := by decide +kernel
theorem dX3_init_125 : decode cX3_init 125 = .ok (.iadd, 1) := by decide +kernel
theorem dX3_init_126 : decode cX3_init 126 = .ok (.iconst 1, 1) := by decide +kernel
theorem dX3_init_127 : decode cX3_init 127 = .ok (.iadd, 1) := by decide +kernel
theorem dX3_init_128 : decode cX3_init 128 = .ok (.iconst (-1), 1) := by decide +kernel
theorem dX3_init_129 : decode cX3_init 129 = .ok (.iastore, 1) := by decide +kernel
theorem dX3_init_130 : decode cX3_init 130 = .ok (.iinc 1 1, 3) := by decide +kernel
theorem dX3_init_133 : decode cX3_init 133 = .ok (.goto (-39), 3) := by decide +kernel
theorem dX3_init_136 : decode cX3_init 136 = .ok (.iconst 0, 1) := by decide +kernel
theorem dX3_init_137 : decode cX3_init 137 = .ok (.istore_n 1, 1) := by decide +kernel
theorem dX3_init_138 : decode cX3_init 138 = .ok (.iload_n 1, 1) := by decide +kernel
theorem dX3_init_139 : decode cX3_init 139 = .ok (.iconst 5, 1) := by decide +kernel
theorem dX3_init_140 : decode cX3_init 140 = .ok (.if_icmp .ge 22, 3) := by decide +kernel
theorem dX3_init_143 : decode cX3_init 143 = .ok (.aload_n 0, 1) := by decide +kernel
theorem dX3_init_144 : decode cX3_init 144 = .ok (.getfield 7, 3) := by decide +kernel
theorem dX3_init_147 : decode cX3_init 147 = .ok (.sipush 344, 3) := by decide +kernel
theorem dX3_init_150 : decode cX3_init 150 = .ok (.iconst 2, 1) := by decide +kernel
theorem dX3_init_151 : decode cX3_init 151 = .ok (.iload_n 1, 1) := by decide +kernel
theorem dX3_init_152 : decode cX3_init 152 = .ok (.imul, 1) := by decide +kernel
theorem dX3_init_153 : decode cX3_init 153 = .ok (.iadd, 1) := by decide +kernel
theorem dX3_init_154 : decode cX3_init 154 = .ok (.iconst (-1), 1) := by decide +kernel
theorem dX3_init_155 : decode cX3_init 155 = .ok (.iastore, 1) := by decide +kernel
theorem dX3_init_156 : decode cX3_init 156 = .ok (.iinc 1 1, 3) := by decide +kernel
theorem dX3_init_159 : decode cX3_init 159 = .ok (.goto (-21), 3) := by decide +kernel
theorem dX3_init_162 : decode cX3_init 162 = .ok (.aload_n 0, 1) := by decide +kernel
theorem dX3_init_163 : decode cX3_init 163 = .ok (.getfield 7, 3) := by decide +kernel
theorem dX3_init_166 : decode cX3_init 166 = .ok (.sipush 359, 3) := by decide +kernel
theorem dX3_init_169 : decode cX3_init 169 = .ok (.iconst 2, 1) := by decide +kernel
theorem dX3_init_170 : decode cX3_init 170 = .ok (.iastore, 1) := by decide +kernel
theorem dX3_init_171 : decode cX3_init 171 = .ok (.return_, 1) := by decide +kernel
theorem dX3_thrown_0 : decode cX3_thrown 0 = .ok (.aload_n 0, 1) := by decide +kernel
theorem dX3_thrown_1 : decode cX3_thrown 1 = .ok (.getfield 25, 3) := by decide +kernel
theorem dX3_thrown_4 : decode cX3_thrown 4 = .ok (.ireturn, 1) := by decide +kernel
theorem dX3_fails_0 : decode cX3_fails 0 = .ok (.aload_n 0, 1) := by decide +kernel
theorem dX3_fails_1 : decode cX3_fails 1 = .ok (.iload_n 1, 1) := by decide +kernel
theorem dX3_fails_2 : decode cX3_fails 2 = .ok (.putfield 25, 3) := by decide +kernel
theorem dX3_fails_5 : decode cX3_fails 5 = .ok (.iconst 0, 1) := by decide +kernel
theorem dX3_fails_6 : decode cX3_fails 6 = .ok (.ireturn, 1) := by decide +kernel
theorem dX3_in_0 : decode cX3_in 0 = .ok (.iload_n 0, 1) := by decide +kernel
theorem dX3_in_1 : decode cX3_in 1 = .ok (.iload_n 1, 1) := by decide +kernel
theorem dX3_in_2 : decode cX3_in 2 = .ok (.if_icmp .lt 12, 3) := by decide +kernel
theorem dX3_in_5 : decode cX3_in 5 = .ok (.iload_n 0, 1) := by decide +kernel
theorem dX3_in_6 : decode cX3_in 6 = .ok (.iload_n 2, 1) := by decide +kernel
theorem dX3_in_7 : decode cX3_in 7 = .ok (.if_icmp .gt 7, 3) := by decide +kernel
theorem dX3_in_10 : decode cX3_in 10 = .ok (.iconst 1, 1) := by decide +kernel
theorem dX3_in_11 : decode cX3_in 11 = .ok (.goto 4, 3) := by decide +kernel
theorem dX3_in_14 : decode cX3_in 14 = .ok (.iconst 0, 1) := by decide +kernel
theorem dX3_in_15 : decode cX3_in 15 = .ok (.ireturn, 1) := by decide +kernel
set_option maxRecDepth 20000 in
theorem ggX3_isPage_X3_in : GoodIn wsX3_isPage wsX3_in := goodIn_r _ [4] (by decide +kernel) (by decide +kernel)
set_option maxRecDepth 20000 in
theorem gX3_isPage_X3_in : GoodIn wsX3_isPage (va_wsS RX3 29 yX3_in wsX3_in) := goodIn_app (goodIn_of _ (by decide +kernel)) ggX3_isPage_X3_in
theorem dX3_isPage_0 : decode cX3_isPage 0 = .ok (.iload_n 0, 1) := by decide +kernel
theorem dX3_isPage_1 : decode cX3_isPage 1 = .ok (.iconst 0, 1) := by decide +kernel
theorem dX3_isPage_2 : decode cX3_isPage 2 = .ok (.bipush 39, 2) := by decide +kernel
theorem dX3_isPage_4 : decode cX3_isPage 4 = .ok (.invokestatic 29, 3) := by decide +kernel
theorem dX3_isPage_7 : decode cX3_isPage 7 = .ok (.ireturn, 1) := by decide +kernel
set_option maxRecDepth 20000 in
theorem ggX3_isBlock_X3_in : GoodIn wsX3_isBlock wsX3_in := goodIn_r _ [4] (by decide +kernel) (by decide +kernel)
set_option maxRecDepth 20000 in
theorem gX3_isBlock_X3_in : GoodIn wsX3_isBlock (va_wsS RX3 29 yX3_in wsX3_in) := goodIn_app (goodIn_of _ (by decide +kernel)) ggX3_isBlock_X3_in
theorem dX3_isBlock_0 : decode cX3_isBlock 0 = .ok (.iload_n 0, 1) := by decide +kernel
theorem dX3_isBlock_1 : decode cX3_isBlock 1 = .ok (.iconst 0, 1) := by decide +kernel
theorem dX3_isBlock_2 : decode cX3_isBlock 2 = .ok (.bipush 11, 2) := by decide +kernel
theorem dX3_isBlock_4 : decode cX3_isBlock 4 = .ok (.invokestatic 29, 3) := by decide +kernel
theorem dX3_isBlock_7 : decode cX3_isBlock 7 = .ok (.ireturn, 1) := by decide +kernel
set_option maxRecDepth 20000 in
theorem ggX3_isHint_X3_in : GoodIn wsX3_isHint wsX3_in := goodIn_r _ [4] (by decide +kernel) (by decide +kernel)
set_option maxRecDepth 20000 in
theorem gX3_isHint_X3_in : GoodIn wsX3_isHint (va_wsS RX3 29 yX3_in wsX3_in) := goodIn_app (goodIn_of _ (by decide +kernel)) ggX3_isHint_X3_in
theorem dX3_isHint_0 : decode cX3_isHint 0 = .ok (.iload_n 0, 1) := by decide +kernel
theorem dX3_isHint_1 : decode cX3_isHint 1 = .ok (.iconst 0, 1) := by decide +kernel
theorem dX3_isHint_2 : decode cX3_isHint 2 = .ok (.iconst 3, 1) := by decide +kernel
theorem dX3_isHint_3 : decode cX3_isHint 3 = .ok (.invokestatic 29, 3) := by decide +kernel
theorem dX3_isHint_6 : decode cX3_isHint 6 = .ok (.ireturn, 1) := by decide +kernel
theorem dX3_lays_0 : decode cX3_lays 0 = .ok (.iconst 0, 1) := by decide +kernel
theorem dX3_lays_1 : decode cX3_lays 1 = .ok (.istore 4, 2) := by decide +kernel
theorem dX3_lays_3 : decode cX3_lays 3 = .ok (.iload 4, 2) := by decide +kernel
theorem dX3_lays_5 : decode cX3_lays 5 = .ok (.sipush 364, 3) := by decide +kernel
theorem dX3_lays_8 : decode cX3_lays 8 = .ok (.if_icmp .ge 21, 3) := by decide +kernel
theorem dX3_lays_11 : decode cX3_lays 11 = .ok (.aload_n 2, 1) := by decide +kernel
theorem dX3_lays_12 : decode cX3_lays 12 = .ok (.iload_n 3, 1) := by decide +kernel
theorem dX3_lays_13 : decode cX3_lays 13 = .ok (.iload 4, 2) := by decide +kernel
theorem dX3_lays_15 : decode cX3_lays 15 = .ok (.iadd, 1) := by decide +kernel
theorem dX3_lays_16 : decode cX3_lays 16 = .ok (.aload_n 0, 1) := by decide +kernel
theorem dX3_lays_17 : decode cX3_lays 17 = .ok (.iload_n 1, 1) := by decide +kernel
theorem dX3_lays_18 : decode cX3_lays 18 = .ok (.iload 4, 2) := by decide +kernel
theorem dX3_lays_20 : decode cX3_lays 20 = .ok (.iadd, 1) := by decide +kernel
theorem dX3_lays_21 : decode cX3_lays 21 = .ok (.iaload, 1) := by decide +kernel
theorem dX3_lays_22 : decode cX3_lays 22 = .ok (.iastore, 1) := by decide +kernel
theorem dX3_lays_23 : decode cX3_lays 23 = .ok (.iinc 4 1, 3) := by decide +kernel
theorem dX3_lays_26 : decode cX3_lays 26 = .ok (.goto (-23), 3) := by decide +kernel
theorem dX3_lays_29 : decode cX3_lays 29 = .ok (.return_, 1) := by decide +kernel
set_option maxRecDepth 20000 in
theorem ggX3_saves_X3_lays : GoodIn wsX3_saves wsX3_lays := goodIn_r _ [7] (by decide +kernel) (by decide +kernel)
set_option maxRecDepth 20000 in
theorem gX3_saves_X3_lays : GoodIn wsX3_saves (va_wsS RX3 36 yX3_lays wsX3_lays) := goodIn_app (goodIn_of _ (by decide +kernel)) ggX3_saves_X3_lays
theorem dX3_saves_0 : decode cX3_saves 0 = .ok (.aload_n 0, 1) := by decide +kernel
theorem dX3_saves_1 : decode cX3_saves 1 = .ok (.getfield 33, 3) := by decide +kernel
theorem dX3_saves_4 : decode cX3_saves 4 = .ok (.bipush 6, 2) := by decide +kernel
theorem dX3_saves_6 : decode cX3_saves 6 = .ok (.if_icmp .ne 44, 3) := by decide +kernel
theorem dX3_saves_9 : decode cX3_saves 9 = .ok (.iconst 0, 1) := by decide +kernel
theorem dX3_saves_10 : decode cX3_saves 10 = .ok (.istore_n 1, 1) := by decide +kernel
theorem dX3_saves_11 : decode cX3_saves 11 = .ok (.iload_n 1, 1) := by decide +kernel
theorem dX3_saves_12 : decode cX3_saves 12 = .ok (.sipush 1820, 3) := by decide +kernel
theorem dX3_saves_15 : decode cX3_saves 15 = .ok (.if_icmp .ge 25, 3) := by decide +kernel
theorem dX3_saves_18 : decode cX3_saves 18 = .ok (.aload_n 0, 1) := by decide +kernel
theorem dX3_saves_19 : decode cX3_saves 19 = .ok (.getfield 16, 3) := by decide +kernel
theorem dX3_saves_22 : decode cX3_saves 22 = .ok (.iload_n 1, 1) := by decide +kernel
theorem dX3_saves_23 : decode cX3_saves 23 = .ok (.aload_n 0, 1) := by decide +kernel
theorem dX3_saves_24 : decode cX3_saves 24 = .ok (.getfield 16, 3) := by decide +kernel
theorem dX3_saves_27 : decode cX3_saves 27 = .ok (.iload_n 1, 1) := by decide +kernel
theorem dX3_saves_28 : decode cX3_saves 28 = .ok (.sipush 364, 3) := by decide +kernel
theorem dX3_saves_31 : decode cX3_saves 31 = .ok (.iadd, 1) := by decide +kernel
theorem dX3_saves_32 : decode cX3_saves 32 = .ok (.iaload, 1) := by decide +kernel
theorem dX3_saves_33 : decode cX3_saves 33 = .ok (.iastore, 1) := by decide +kernel
theorem dX3_saves_34 : decode cX3_saves 34 = .ok (.iinc 1 1, 3) := by decide +kernel
theorem dX3_saves_37 : decode cX3_saves 37 = .ok (.goto (-26), 3) := by decide +kernel
theorem dX3_saves_40 : decode cX3_saves 40 = .ok (.aload_n 0, 1) := by decide +kernel
theorem dX3_saves_41 : decode cX3_saves 41 = .ok (.dup, 1) := by decide +kernel
theorem dX3_saves_42 : decode cX3_saves 42 = .ok (.getfield 33, 3) := by decide +kernel
theorem dX3_saves_45 : decode cX3_saves 45 = .ok (.iconst 1, 1) := by decide +kernel
theorem dX3_saves_46 : decode cX3_saves 46 = .ok (.isub, 1) := by decide +kernel
theorem dX3_saves_47 : decode cX3_saves 47 = .ok (.putfield 33, 3) := by decide +kernel
theorem dX3_saves_50 : decode cX3_saves 50 = .ok (.aload_n 0, 1) := by decide +kernel
theorem dX3_saves_51 : decode cX3_saves 51 = .ok (.getfield 7, 3) := by decide +kernel
theorem dX3_saves_54 : decode cX3_saves 54 = .ok (.iconst 0, 1) := by decide +kernel
theorem dX3_saves_55 : decode cX3_saves 55 = .ok (.aload_n 0, 1) := by decide +kernel
theorem dX3_saves_56 : decode cX3_saves 56 = .ok (.getfield 16, 3) := by decide +kernel
theorem dX3_saves_59 : decode cX3_saves 59 = .ok (.sipush 364, 3) := by decide +kernel
theorem dX3_saves_62 : decode cX3_saves 62 = .ok (.aload_n 0, 1) := by decide +kernel
theorem dX3_saves_63 : decode cX3_saves 63 = .ok (.getfield 33, 3) := by decide +kernel
theorem dX3_saves_66 : decode cX3_saves 66 = .ok (.imul, 1) := by decide +kernel
theorem dX3_saves_67 : decode cX3_saves 67 = .ok (.invokestatic 36, 3) := by decide +kernel
theorem dX3_saves_70 : decode cX3_saves 70 = .ok (.aload_n 0, 1) := by decide +kernel
theorem dX3_saves_71 : decode cX3_saves 71 = .ok (.dup, 1) := by decide +kernel
theorem dX3_saves_72 : decode cX3_saves 72 = .ok (.getfield 33, 3) := by decide +kernel
theorem dX3_saves_75 : decode cX3_saves 75 = .ok (.iconst 1, 1) := by decide +kernel
theorem dX3_saves_76 : decode cX3_saves 76 = .ok (.iadd, 1) := by decide +kernel
theorem dX3_saves_77 : decode cX3_saves 77 = .ok (.putfield 33, 3) := by decide +kernel
theorem dX3_saves_80 : decode cX3_saves 80 = .ok (.return_, 1) := by decide +kernel
set_option maxRecDepth 20000 in
theorem ggX3_undo_X3_fails : GoodIn wsX3_undo wsX3_fails := goodIn_r _ [9, 1, 13, 14, 15, 16, 17, 18, 19, 20, 21, 22, 23, 24] (by decide +kernel) (by decide +kernel)
set_option maxRecDepth 20000 in
theorem gX3_undo_X3_fails : GoodIn wsX3_undo (wsV RX3 40 RX3 yX3_fails wsX3_fails) := goodIn_app (goodIn_of _ (by decide +kernel)) ggX3_undo_X3_fails
set_option maxRecDepth 20000 in
theorem ggX3_undo_X3_lays : GoodIn wsX3_undo wsX3_lays := goodIn_r _ [12] (by decide +kernel) (by decide +kernel)
set_option maxRecDepth 20000 in
theorem gX3_undo_X3_lays : GoodIn wsX3_undo (va_wsS RX3 36 yX3_lays wsX3_lays) := goodIn_app (goodIn_of _ (by decide +kernel)) ggX3_undo_X3_lays
theorem dX3_undo_0 : decode cX3_undo 0 = .ok (.aload_n 0, 1) := by decide +kernel
theorem dX3_undo_1 : decode cX3_undo 1 = .ok (.iconst 0, 1) := by decide +kernel
theorem dX3_undo_2 : decode cX3_undo 2 = .ok (.putfield 25, 3) := by decide +kernel
theorem dX3_undo_5 : decode cX3_undo 5 = .ok (.aload_n 0, 1) := by decide +kernel
theorem dX3_undo_6 : decode cX3_undo 6 = .ok (.getfield 33, 3) := by decide +kernel
theorem dX3_undo_9 : decode cX3_undo 9 = .ok (.ifCond .ne 9, 3) := by decide +kernel
theorem dX3_undo_12 : decode cX3_undo 12 = .ok (.aload_n 0, 1) := by decide +kernel
theorem dX3_undo_13 : decode cX3_undo 13 = .ok (.iconst 1, 1) := by decide +kernel
theorem dX3_undo_14 : decode cX3_undo 14 = .ok (.invokevirtual 40, 3) := by decide +kernel
theorem dX3_undo_17 : decode cX3_undo 17 = .ok (.ireturn, 1) := by decide +kernel
theorem dX3_undo_18 : decode cX3_undo 18 = .ok (.aload_n 0, 1) := by decide +kernel
theorem dX3_undo_19 : decode cX3_undo 19 = .ok (.dup, 1) := by decide +kernel
theorem dX3_undo_20 : decode cX3_undo 20 = .ok (.getfield 33, 3) := by decide +kernel
theorem dX3_undo_23 : decode cX3_undo 23 = .ok (.iconst 1, 1) := by decide +kernel
theorem dX3_undo_24 : decode cX3_undo 24 = .ok (.isub, 1) := by decide +kernel
theorem dX3_undo_25 : decode cX3_undo 25 = .ok (.putfield 33, 3) := by decide +kernel
theorem dX3_undo_28 : decode cX3_undo 28 = .ok (.aload_n 0, 1) := by decide +kernel
theorem dX3_undo_29 : decode cX3_undo 29 = .ok (.getfield 16, 3) := by decide +kernel
theorem dX3_undo_32 : decode cX3_undo 32 = .ok (.sipush 364, 3) := by decide +kernel
theorem dX3_undo_35 : decode cX3_undo 35 = .ok (.aload_n 0, 1) := by decide +kernel
theorem dX3_undo_36 : decode cX3_undo 36 = .ok (.getfield 33, 3) := by decide +kernel
theorem dX3_undo_39 : decode cX3_undo 39 = .ok (.imul, 1) := by decide +kernel
theorem dX3_undo_40 : decode cX3_undo 40 = .ok (.aload_n 0, 1) := by decide +kernel
theorem dX3_undo_41 : decode cX3_undo 41 = .ok (.getfield 7, 3) := by decide +kernel
theorem dX3_undo_44 : decode cX3_undo 44 = .ok (.iconst 0, 1) := by decide +kernel
theorem dX3_undo_45 : decode cX3_undo 45 = .ok (.invokestatic 36, 3) := by decide +kernel
theorem dX3_undo_48 : decode cX3_undo 48 = .ok (.aload_n 0, 1) := by decide +kernel
theorem dX3_undo_49 : decode cX3_undo 49 = .ok (.getfield 33, 3) := by decide +kernel
theorem dX3_undo_52 : decode cX3_undo 52 = .ok (.ireturn, 1) := by decide +kernel
theorem dX3_of_0 : decode cX3_of 0 = .ok (.aload_n 0, 1) := by decide +kernel
theorem dX3_of_1 : decode cX3_of 1 = .ok (.sipush 144, 3) := by decide +kernel
theorem dX3_of_4 : decode cX3_of 4 = .ok (.iconst 5, 1) := by decide +kernel
theorem dX3_of_5 : decode cX3_of 5 = .ok (.iload_n 1, 1) := by decide +kernel
theorem dX3_of_6 : decode cX3_of 6 = .ok (.imul, 1) := by decide +kernel
theorem dX3_of_7 : decode cX3_of 7 = .ok (.iadd, 1) := by decide +kernel
theorem dX3_of_8 : decode cX3_of 8 = .ok (.iload_n 2, 1) := by decide +kernel
theorem dX3_of_9 : decode cX3_of 9 = .ok (.iadd, 1) := by decide +kernel
theorem dX3_of_10 : decode cX3_of 10 = .ok (.iaload, 1) := by decide +kernel
theorem dX3_of_11 : decode cX3_of 11 = .ok (.ireturn, 1) := by decide +kernel
set_option maxRecDepth 20000 in
theorem ggX3_isWritten_X3_of : GoodIn wsX3_isWritten wsX3_of := goodIn_r _ [4] (by decide +kernel) (by decide +kernel)
set_option maxRecDepth 20000 in
theorem gX3_isWritten_X3_of : GoodIn wsX3_isWritten (va_wsS RX3 44 yX3_of wsX3_of) := goodIn_app (goodIn_of _ (by decide +kernel)) ggX3_isWritten_X3_of
theorem dX3_isWritten_0 : decode cX3_isWritten 0 = .ok (.aload_n 0, 1) := by decide +kernel
theorem dX3_isWritten_1 : decode cX3_isWritten 1 = .ok (.iload_n 1, 1) := by decide +kernel
theorem dX3_isWritten_2 : decode cX3_isWritten 2 = .ok (.iconst 0, 1) := by decide +kernel
theorem dX3_isWritten_3 : decode cX3_isWritten 3 = .ok (.invokestatic 44, 3) := by decide +kernel
theorem dX3_isWritten_6 : decode cX3_isWritten 6 = .ok (.iconst (-1), 1) := by decide +kernel
theorem dX3_isWritten_7 : decode cX3_isWritten 7 = .ok (.if_icmp .eq 7, 3) := by decide +kernel
theorem dX3_isWritten_10 : decode cX3_isWritten 10 = .ok (.iconst 1, 1) := by decide +kernel
theorem dX3_isWritten_11 : decode cX3_isWritten 11 = .ok (.goto 4, 3) := by decide +kernel
theorem dX3_isWritten_14 : decode cX3_isWritten 14 = .ok (.iconst 0, 1) := by decide +kernel
theorem dX3_isWritten_15 : decode cX3_isWritten 15 = .ok (.ireturn, 1) := by decide +kernel
set_option maxRecDepth 20000 in
theorem ggX3_isValid_X3_of : GoodIn wsX3_isValid wsX3_of := goodIn_r _ [4] (by decide +kernel) (by decide +kernel)
set_option maxRecDepth 20000 in
theorem gX3_isValid_X3_of : GoodIn wsX3_isValid (va_wsS RX3 44 yX3_of wsX3_of) := goodIn_app (goodIn_of _ (by decide +kernel)) ggX3_isValid_X3_of
theorem dX3_isValid_0 : decode cX3_isValid 0 = .ok (.aload_n 0, 1) := by decide +kernel
theorem dX3_isValid_1 : decode cX3_isValid 1 = .ok (.iload_n 1, 1) := by decide +kernel
theorem dX3_isValid_2 : decode cX3_isValid 2 = .ok (.iaload, 1) := by decide +kernel
theorem dX3_isValid_3 : decode cX3_isValid 3 = .ok (.iconst (-1), 1) := by decide +kernel
theorem dX3_isValid_4 : decode cX3_isValid 4 = .ok (.if_icmp .eq 19, 3) := by decide +kernel
theorem dX3_isValid_7 : decode cX3_isValid 7 = .ok (.aload_n 0, 1) := by decide +kernel
theorem dX3_isValid_8 : decode cX3_isValid 8 = .ok (.aload_n 0, 1) := by decide +kernel
theorem dX3_isValid_9 : decode cX3_isValid 9 = .ok (.iload_n 1, 1) := by decide +kernel
theorem dX3_isValid_10 : decode cX3_isValid 10 = .ok (.iaload, 1) := by decide +kernel
theorem dX3_isValid_11 : decode cX3_isValid 11 = .ok (.iconst 0, 1) := by decide +kernel
theorem dX3_isValid_12 : decode cX3_isValid 12 = .ok (.invokestatic 44, 3) := by decide +kernel
theorem dX3_isValid_15 : decode cX3_isValid 15 = .ok (.iload_n 1, 1) := by decide +kernel
theorem dX3_isValid_16 : decode cX3_isValid 16 = .ok (.if_icmp .ne 7, 3) := by decide +kernel
theorem dX3_isValid_19 : decode cX3_isValid 19 = .ok (.iconst 1, 1) := by decide +kernel
theorem dX3_isValid_20 : decode cX3_isValid 20 = .ok (.goto 4, 3) := by decide +kernel
theorem dX3_isValid_23 : decode cX3_isValid 23 = .ok (.iconst 0, 1) := by decide +kernel
theorem dX3_isValid_24 : decode cX3_isValid 24 = .ok (.ireturn, 1) := by decide +kernel
set_option maxRecDepth 20000 in
theorem ggX3_slots_X3_isValid : GoodIn wsX3_slots wsX3_isValid := goodIn_r _ [4, 5, 6, 3, 7] (by decide +kernel) (by decide +kernel)
set_option maxRecDepth 20000 in
theorem gX3_slots_X3_isValid : GoodIn wsX3_slots (va_wsS RX3 48 yX3_isValid wsX3_isValid) := goodIn_app (goodIn_of _ (by decide +kernel)) ggX3_slots_X3_isValid
theorem dX3_slots_0 : decode cX3_slots 0 = .ok (.iconst 0, 1) := by decide +kernel
theorem dX3_slots_1 : decode cX3_slots 1 = .ok (.istore_n 3, 1) := by decide +kernel
theorem dX3_slots_2 : decode cX3_slots 2 = .ok (.bipush 8, 2) := by decide +kernel
theorem dX3_slots_4 : decode cX3_slots 4 = .ok (.iload_n 1, 1) := by decide +kernel
theorem dX3_slots_5 : decode cX3_slots 5 = .ok (.imul, 1) := by decide +kernel
theorem dX3_slots_6 : decode cX3_slots 6 = .ok (.istore 4, 2) := by decide +kernel
theorem dX3_slots_8 : decode cX3_slots 8 = .ok (.iload 4, 2) := by decide +kernel
theorem dX3_slots_10 : decode cX3_slots 10 = .ok (.bipush 8, 2) := by decide +kernel
theorem dX3_slots_12 : decode cX3_slots 12 = .ok (.iload_n 1, 1) := by decide +kernel
theorem dX3_slots_13 : decode cX3_slots 13 = .ok (.imul, 1) := by decide +kernel
theorem dX3_slots_14 : decode cX3_slots 14 = .ok (.bipush 8, 2) := by decide +kernel
theorem dX3_slots_16 : decode cX3_slots 16 = .ok (.iadd, 1) := by decide +kernel
theorem dX3_slots_17 : decode cX3_slots 17 = .ok (.if_icmp .ge 51, 3) := by decide +kernel
theorem dX3_slots_20 : decode cX3_slots 20 = .ok (.aload_n 0, 1) := by decide +kernel
theorem dX3_slots_21 : decode cX3_slots 21 = .ok (.iload 4, 2) := by decide +kernel
theorem dX3_slots_23 : decode cX3_slots 23 = .ok (.iaload, 1) := by decide +kernel
theorem dX3_slots_24 : decode cX3_slots 24 = .ok (.iconst (-1), 1) := by decide +kernel
theorem dX3_slots_25 : decode cX3_slots 25 = .ok (.if_icmp .ne 7, 3) := by decide +kernel
theorem dX3_slots_28 : decode cX3_slots 28 = .ok (.iconst 2, 1) := by decide +kernel
theorem dX3_slots_29 : decode cX3_slots 29 = .ok (.goto 17, 3) := by decide +kernel
theorem dX3_slots_32 : decode cX3_slots 32 = .ok (.aload_n 0, 1) := by decide +kernel
theorem dX3_slots_33 : decode cX3_slots 33 = .ok (.iload 4, 2) := by decide +kernel
theorem dX3_slots_35 : decode cX3_slots 35 = .ok (.invokestatic 48, 3) := by decide +kernel
theorem dX3_slots_38 : decode cX3_slots 38 = .ok (.ifCond .eq 7, 3) := by decide +kernel
theorem dX3_slots_41 : decode cX3_slots 41 = .ok (.iconst 0, 1) := by decide +kernel
theorem dX3_slots_42 : decode cX3_slots 42 = .ok (.goto 4, 3) := by decide +kernel
theorem dX3_slots_45 : decode cX3_slots 45 = .ok (.iconst 1, 1) := by decide +kernel
theorem dX3_slots_46 : decode cX3_slots 46 = .ok (.istore 5, 2) := by decide +kernel
theorem dX3_slots_48 : decode cX3_slots 48 = .ok (.iload_n 3, 1) := by decide +kernel
theorem dX3_slots_49 : decode cX3_slots 49 = .ok (.iload 5, 2) := by decide +kernel
theorem dX3_slots_51 : decode cX3_slots 51 = .ok (.iload_n 2, 1) := by decide +kernel
theorem dX3_slots_52 : decode cX3_slots 52 = .ok (.if_icmp .ne 7, 3) := by decide +kernel
theorem dX3_slots_55 : decode cX3_slots 55 = .ok (.iconst 1, 1) := by decide +kernel
theorem dX3_slots_56 : decode cX3_slots 56 = .ok (.goto 4, 3) := by decide +kernel
theorem dX3_slots_59 : decode cX3_slots 59 = .ok (.iconst 0, 1) := by decide +kernel
theorem dX3_slots_60 : decode cX3_slots 60 = .ok (.iadd, 1) := by decide +kernel
theorem dX3_slots_61 : decode cX3_slots 61 = .ok (.istore_n 3, 1) := by decide +kernel
theorem dX3_slots_62 : decode cX3_slots 62 = .ok (.iinc 4 1, 3) := by decide +kernel
theorem dX3_slots_65 : decode cX3_slots 65 = .ok (.goto (-57), 3) := by decide +kernel
theorem dX3_slots_68 : decode cX3_slots 68 = .ok (.iload_n 3, 1) := by decide +kernel
theorem dX3_slots_69 : decode cX3_slots 69 = .ok (.ireturn, 1) := by decide +kernel
theorem dX3_inState_0 : decode cX3_inState 0 = .ok (.iconst 0, 1) := by decide +kernel
theorem dX3_inState_1 : decode cX3_inState 1 = .ok (.istore_n 2, 1) := by decide +kernel
theorem dX3_inState_2 : decode cX3_inState 2 = .ok (.iconst 0, 1) := by decide +kernel
theorem dX3_inState_3 : decode cX3_inState 3 = .ok (.istore_n 3, 1) := by decide +kernel
theorem dX3_inState_4 : decode cX3_inState 4 = .ok (.iload_n 3, 1) := by decide +kernel
theorem dX3_inState_5 : decode cX3_inState 5 = .ok (.bipush 12, 2) := by decide +kernel
theorem dX3_inState_7 : decode cX3_inState 7 = .ok (.if_icmp .ge 27, 3) := by decide +kernel
theorem dX3_inState_10 : decode cX3_inState 10 = .ok (.iload_n 2, 1) := by decide +kernel
theorem dX3_inState_11 : decode cX3_inState 11 = .ok (.aload_n 0, 1) := by decide +kernel
theorem dX3_inState_12 : decode cX3_inState 12 = .ok (.bipush 96, 2) := by decide +kernel
theorem dX3_inState_14 : decode cX3_inState 14 = .ok (.iload_n 3, 1) := by decide +kernel
theorem dX3_inState_15 : decode cX3_inState 15 = .ok (.iadd, 1) := by decide +kernel
theorem dX3_inState_16 : decode cX3_inState 16 = .ok (.iaload, 1) := by decide +kernel
theorem dX3_inState_17 : decode cX3_inState 17 = .ok (.iload_n 1, 1) := by decide +kernel
theorem dX3_inState_18 : decode cX3_inState 18 = .ok (.if_icmp .ne 7, 3) := by decide +kernel
theorem dX3_inState_21 : decode cX3_inState 21 = .ok (.iconst 1, 1) := by decide +kernel
theorem dX3_inState_22 : decode cX3_inState 22 = .ok (.goto 4, 3) := by decide +kernel
theorem dX3_inState_25 : decode cX3_inState 25 = .ok (.iconst 0, 1) := by decide +kernel
theorem dX3_inState_26 : decode cX3_inState 26 = .ok (.iadd, 1) := by decide +kernel
theorem dX3_inState_27 : decode cX3_inState 27 = .ok (.istore_n 2, 1) := by decide +kernel
theorem dX3_inState_28 : decode cX3_inState 28 = .ok (.iinc 3 1, 3) := by decide +kernel
theorem dX3_inState_31 : decode cX3_inState 31 = .ok (.goto (-27), 3) := by decide +kernel
theorem dX3_inState_34 : decode cX3_inState 34 = .ok (.iload_n 2, 1) := by decide +kernel
theorem dX3_inState_35 : decode cX3_inState 35 = .ok (.ireturn, 1) := by decide +kernel
theorem dX3_freshBlock_0 : decode cX3_freshBlock 0 = .ok (.iconst (-1), 1) := by decide +kernel
theorem dX3_freshBlock_1 : decode cX3_freshBlock 1 = .ok (.istore_n 1, 1) := by decide +kernel
theorem dX3_freshBlock_2 : decode cX3_freshBlock 2 = .ok (.iconst 0, 1) := by decide +kernel
theorem dX3_freshBlock_3 : decode cX3_freshBlock 3 = .ok (.istore_n 2, 1) := by decide +kernel
theorem dX3_freshBlock_4 : decode cX3_freshBlock 4 = .ok (.iload_n 2, 1) := by decide +kernel
theorem dX3_freshBlock_5 : decode cX3_freshBlock 5 = .ok (.bipush 12, 2) := by decide +kernel
theorem dX3_freshBlock_7 : decode cX3_freshBlock 7 = .ok (.if_icmp .ge 54, 3) := by decide +kernel
theorem dX3_freshBlock_10 : decode cX3_freshBlock 10 = .ok (.aload_n 0, 1) := by decide +kernel
theorem dX3_freshBlock_11 : decode cX3_freshBlock 11 = .ok (.bipush 96, 2) := by decide +kernel
theorem dX3_freshBlock_13 : decode cX3_freshBlock 13 = .ok (.iload_n 2, 1) := by decide +kernel
theorem dX3_freshBlock_14 : decode cX3_freshBlock 14 = .ok (.iadd, 1) := by decide +kernel
theorem dX3_freshBlock_15 : decode cX3_freshBlock 15 = .ok (.iaload, 1) := by decide +kernel
theorem dX3_freshBlock_16 : decode cX3_freshBlock 16 = .ok (.ifCond .ne 27, 3) := by decide +kernel
theorem dX3_freshBlock_19 : decode cX3_freshBlock 19 = .ok (.iload_n 1, 1) := by decide +kernel
theorem dX3_freshBlock_20 : decode cX3_freshBlock 20 = .ok (.iconst (-1), 1) := by decide +kernel
theorem dX3_freshBlock_21 : decode cX3_freshBlock 21 = .ok (.if_icmp .eq 18, 3) := by decide +kernel
theorem dX3_freshBlock_24 : decode cX3_freshBlock 24 = .ok (.aload_n 0, 1) := by decide +kernel
theorem dX3_freshBlock_25 : decode cX3_freshBlock 25 = .ok (.bipush 120, 2) := by decide +kernel
theorem dX3_freshBlock_27 : decode cX3_freshBlock 27 = .ok (.iload_n 2, 1) := by decide +kernel
theorem dX3_freshBlock_28 : decode cX3_freshBlock 28 = .ok (.iadd, 1) := by decide +kernel
theorem dX3_freshBlock_29 : decode cX3_freshBlock 29 = .ok (.iaload, 1) := by decide +kernel
theorem dX3_freshBlock_30 : decode cX3_freshBlock 30 = .ok (.aload_n 0, 1) := by decide +kernel
theorem dX3_freshBlock_31 : decode cX3_freshBlock 31 = .ok (.bipush 120, 2) := by decide +kernel
theorem dX3_freshBlock_33 : decode cX3_freshBlock 33 = .ok (.iload_n 1, 1) := by decide +kernel
theorem dX3_freshBlock_34 : decode cX3_freshBlock 34 = .ok (.iadd, 1) := by decide +kernel
theorem dX3_freshBlock_35 : decode cX3_freshBlock 35 = .ok (.iaload, 1) := by decide +kernel
theorem dX3_freshBlock_36 : decode cX3_freshBlock 36 = .ok (.if_icmp .ge 7, 3) := by decide +kernel
theorem dX3_freshBlock_39 : decode cX3_freshBlock 39 = .ok (.iconst 1, 1) := by decide +kernel
theorem dX3_freshBlock_40 : decode cX3_freshBlock 40 = .ok (.goto 4, 3) := by decide +kernel
theorem dX3_freshBlock_43 : decode cX3_freshBlock 43 = .ok (.iconst 0, 1) := by decide +kernel
theorem dX3_freshBlock_44 : decode cX3_freshBlock 44 = .ok (.istore_n 3, 1) := by decide +kernel
theorem dX3_freshBlock_45 : decode cX3_freshBlock 45 = .ok (.iload_n 3, 1) := by decide +kernel
theorem dX3_freshBlock_46 : decode cX3_freshBlock 46 = .ok (.ifCond .eq 7, 3) := by decide +kernel
theorem dX3_freshBlock_49 : decode cX3_freshBlock 49 = .ok (.iload_n 2, 1) := by decide +kernel
theorem dX3_freshBlock_50 : decode cX3_freshBlock 50 = .ok (.goto 4, 3) := by decide +kernel
theorem dX3_freshBlock_53 : decode cX3_freshBlock 53 = .ok (.iload_n 1, 1) := by decide +kernel
theorem dX3_freshBlock_54 : decode cX3_freshBlock 54 = .ok (.istore_n 1, 1) := by decide +kernel
theorem dX3_freshBlock_55 : decode cX3_freshBlock 55 = .ok (.iinc 2 1, 3) := by decide +kernel
theorem dX3_freshBlock_58 : decode cX3_freshBlock 58 = .ok (.goto (-54), 3) := by decide +kernel
theorem dX3_freshBlock_61 : decode cX3_freshBlock 61 = .ok (.iload_n 1, 1) := by decide +kernel
theorem dX3_freshBlock_62 : decode cX3_freshBlock 62 = .ok (.ireturn, 1) := by decide +kernel
set_option maxRecDepth 20000 in
theorem ggX3_programs_X3_freshBlock : GoodIn wsX3_programs wsX3_freshBlock := goodIn_r _ [4] (by decide +kernel) (by decide +kernel)
set_option maxRecDepth 20000 in
theorem gX3_programs_X3_freshBlock : GoodIn wsX3_programs (va_wsS RX3 52 yX3_freshBlock wsX3_freshBlock) := goodIn_app (goodIn_of _ (by decide +kernel)) ggX3_programs_X3_freshBlock
theorem dX3_programs_0 : decode cX3_programs 0 = .ok (.aload_n 0, 1) := by decide +kernel
theorem dX3_programs_1 : decode cX3_programs 1 = .ok (.sipush 344, 3) := by decide +kernel
theorem dX3_programs_4 : decode cX3_programs 4 = .ok (.iconst 2, 1) := by decide +kernel
theorem dX3_programs_5 : decode cX3_programs 5 = .ok (.iload_n 2, 1) := by decide +kernel
theorem dX3_programs_6 : decode cX3_programs 6 = .ok (.imul, 1) := by decide +kernel
theorem dX3_programs_7 : decode cX3_programs 7 = .ok (.iadd, 1) := by decide +kernel
theorem dX3_programs_8 : decode cX3_programs 8 = .ok (.iaload, 1) := by decide +kernel
theorem dX3_programs_9 : decode cX3_programs 9 = .ok (.iconst (-1), 1) := by decide +kernel
theorem dX3_programs_10 : decode cX3_programs 10 = .ok (.if_icmp .ne 32, 3) := by decide +kernel
theorem dX3_programs_13 : decode cX3_programs 13 = .ok (.aload_n 0, 1) := by decide +kernel
theorem dX3_programs_14 : decode cX3_programs 14 = .ok (.invokestatic 52, 3) := by decide +kernel
theorem dX3_programs_17 : decode cX3_programs 17 = .ok (.istore_n 3, 1) := by decide +kernel
theorem dX3_programs_18 : decode cX3_programs 18 = .ok (.aload_n 0, 1) := by decide +kernel
theorem dX3_programs_19 : decode cX3_programs 19 = .ok (.sipush 344, 3) := by decide +kernel
theorem dX3_programs_22 : decode cX3_programs 22 = .ok (.iconst 2, 1) := by decide +kernel
theorem dX3_programs_23 : decode cX3_programs 23 = .ok (.iload_n 2, 1) := by decide +kernel
theorem dX3_programs_24 : decode cX3_programs 24 = .ok (.imul, 1) := by decide +kernel
theorem dX3_programs_25 : decode cX3_programs 25 = .ok (.iadd, 1) := by decide +kernel
theorem dX3_programs_26 : decode cX3_programs 26 = .ok (.iload_n 3, 1) := by decide +kernel
theorem dX3_programs_27 : decode cX3_programs 27 = .ok (.iastore, 1) := by decide +kernel
theorem dX3_programs_28 : decode cX3_programs 28 = .ok (.aload_n 0, 1) := by decide +kernel
theorem dX3_programs_29 : decode cX3_programs 29 = .ok (.bipush 96, 2) := by decide +kernel
theorem dX3_programs_31 : decode cX3_programs 31 = .ok (.iload_n 3, 1) := by decide +kernel
theorem dX3_programs_32 : decode cX3_programs 32 = .ok (.iadd, 1) := by decide +kernel
theorem dX3_programs_33 : decode cX3_programs 33 = .ok (.iconst 1, 1) := by decide +kernel
theorem dX3_programs_34 : decode cX3_programs 34 = .ok (.iastore, 1) := by decide +kernel
theorem dX3_programs_35 : decode cX3_programs 35 = .ok (.aload_n 0, 1) := by decide +kernel
theorem dX3_programs_36 : decode cX3_programs 36 = .ok (.bipush 108, 2) := by decide +kernel
theorem dX3_programs_38 : decode cX3_programs 38 = .ok (.iload_n 3, 1) := by decide +kernel
theorem dX3_programs_39 : decode cX3_programs 39 = .ok (.iadd, 1) := by decide +kernel
theorem dX3_programs_40 : decode cX3_programs 40 = .ok (.iload_n 2, 1) := by decide +kernel
theorem dX3_programs_41 : decode cX3_programs 41 = .ok (.iastore, 1) := by decide +kernel
theorem dX3_programs_42 : decode cX3_programs 42 = .ok (.aload_n 0, 1) := by decide +kernel
theorem dX3_programs_43 : decode cX3_programs 43 = .ok (.sipush 344, 3) := by decide +kernel
theorem dX3_programs_46 : decode cX3_programs 46 = .ok (.iconst 2, 1) := by decide +kernel
theorem dX3_programs_47 : decode cX3_programs 47 = .ok (.iload_n 2, 1) := by decide +kernel
theorem dX3_programs_48 : decode cX3_programs 48 = .ok (.imul, 1) := by decide +kernel
theorem dX3_programs_49 : decode cX3_programs 49 = .ok (.iadd, 1) := by decide +kernel
theorem dX3_programs_50 : decode cX3_programs 50 = .ok (.iaload, 1) := by decide +kernel
theorem dX3_programs_51 : decode cX3_programs 51 = .ok (.istore_n 3, 1) := by decide +kernel
theorem dX3_programs_52 : decode cX3_programs 52 = .ok (.bipush 8, 2) := by decide +kernel
theorem dX3_programs_54 : decode cX3_programs 54 = .ok (.iload_n 3, 1) := by decide +kernel
theorem dX3_programs_55 : decode cX3_programs 55 = .ok (.imul, 1) := by decide +kernel
theorem dX3_programs_56 : decode cX3_programs 56 = .ok (.istore 4, 2) := by decide +kernel
theorem dX3_programs_58 : decode cX3_programs 58 = .ok (.aload_n 0, 1) := by decide +kernel
theorem dX3_programs_59 : decode cX3_programs 59 = .ok (.iload 4, 2) := by decide +kernel
theorem dX3_programs_61 : decode cX3_programs 61 = .ok (.iaload, 1) := by decide +kernel
theorem dX3_programs_62 : decode cX3_programs 62 = .ok (.iconst (-1), 1) := by decide +kernel
theorem dX3_programs_63 : decode cX3_programs 63 = .ok (.if_icmp .eq 9, 3) := by decide +kernel
theorem dX3_programs_66 : decode cX3_programs 66 = .ok (.iinc 4 1, 3) := by decide +kernel
theorem dX3_programs_69 : decode cX3_programs 69 = .ok (.goto (-11), 3) := by decide +kernel
theorem dX3_programs_72 : decode cX3_programs 72 = .ok (.aload_n 0, 1) := by decide +kernel
theorem dX3_programs_73 : decode cX3_programs 73 = .ok (.iload 4, 2) := by decide +kernel
theorem dX3_programs_75 : decode cX3_programs 75 = .ok (.iload_n 1, 1) := by decide +kernel
theorem dX3_programs_76 : decode cX3_programs 76 = .ok (.iastore, 1) := by decide +kernel
theorem dX3_programs_77 : decode cX3_programs 77 = .ok (.aload_n 0, 1) := by decide +kernel
theorem dX3_programs_78 : decode cX3_programs 78 = .ok (.sipush 144, 3) := by decide +kernel
theorem dX3_programs_81 : decode cX3_programs 81 = .ok (.iconst 5, 1) := by decide +kernel
theorem dX3_programs_82 : decode cX3_programs 82 = .ok (.iload_n 1, 1) := by decide +kernel
theorem dX3_programs_83 : decode cX3_programs 83 = .ok (.imul, 1) := by decide +kernel
theorem dX3_programs_84 : decode cX3_programs 84 = .ok (.iadd, 1) := by decide +kernel
theorem dX3_programs_85 : decode cX3_programs 85 = .ok (.iconst 0, 1) := by decide +kernel
theorem dX3_programs_86 : decode cX3_programs 86 = .ok (.iadd, 1) := by decide +kernel
theorem dX3_programs_87 : decode cX3_programs 87 = .ok (.iload 4, 2) := by decide +kernel
theorem dX3_programs_89 : decode cX3_programs 89 = .ok (.iastore, 1) := by decide +kernel
theorem dX3_programs_90 : decode cX3_programs 90 = .ok (.aload_n 0, 1) := by decide +kernel
theorem dX3_programs_91 : decode cX3_programs 91 = .ok (.sipush 344, 3) := by decide +kernel
theorem dX3_programs_94 : decode cX3_programs 94 = .ok (.iconst 2, 1) := by decide +kernel
theorem dX3_programs_95 : decode cX3_programs 95 = .ok (.iload_n 2, 1) := by decide +kernel
theorem dX3_programs_96 : decode cX3_programs 96 = .ok (.imul, 1) := by decide +kernel
theorem dX3_programs_97 : decode cX3_programs 97 = .ok (.iadd, 1) := by decide +kernel
theorem dX3_programs_98 : decode cX3_programs 98 = .ok (.iconst 1, 1) := by decide +kernel
theorem dX3_programs_99 : decode cX3_programs 99 = .ok (.iadd, 1) := by decide +kernel
theorem dX3_programs_100 : decode cX3_programs 100 = .ok (.dup2, 1) := by decide +kernel
theorem dX3_programs_101 : decode cX3_programs 101 = .ok (.iaload, 1) := by decide +kernel
theorem dX3_programs_102 : decode cX3_programs 102 = .ok (.iconst 1, 1) := by decide +kernel
theorem dX3_programs_103 : decode cX3_programs 103 = .ok (.iadd, 1) := by decide +kernel
theorem dX3_programs_104 : decode cX3_programs 104 = .ok (.iastore, 1) := by decide +kernel
theorem dX3_programs_105 : decode cX3_programs 105 = .ok (.iload 4, 2) := by decide +kernel
theorem dX3_programs_107 : decode cX3_programs 107 = .ok (.bipush 8, 2) := by decide +kernel
theorem dX3_programs_109 : decode cX3_programs 109 = .ok (.iload_n 3, 1) := by decide +kernel
theorem dX3_programs_110 : decode cX3_programs 110 = .ok (.imul, 1) := by decide +kernel
theorem dX3_programs_111 : decode cX3_programs 111 = .ok (.bipush 8, 2) := by decide +kernel
theorem dX3_programs_113 : decode cX3_programs 113 = .ok (.iadd, 1) := by decide +kernel
theorem dX3_programs_114 : decode cX3_programs 114 = .ok (.iconst 1, 1) := by decide +kernel
theorem dX3_programs_115 : decode cX3_programs 115 = .ok (.isub, 1) := by decide +kernel
theorem dX3_programs_116 : decode cX3_programs 116 = .ok (.if_icmp .ne 41, 3) := by decide +kernel
theorem dX3_programs_119 : decode cX3_programs 119 = .ok (.aload_n 0, 1) := by decide +kernel
theorem dX3_programs_120 : decode cX3_programs 120 = .ok (.bipush 96, 2) := by decide +kernel
theorem dX3_programs_122 : decode cX3_programs 122 = .ok (.iload_n 3, 1) := by decide +kernel
theorem dX3_programs_123 : decode cX3_programs 123 = .ok (.iadd, 1) := by decide +kernel
theorem dX3_programs_124 : decode cX3_programs 124 = .ok (.iconst 2, 1) := by decide +kernel
theorem dX3_programs_125 : decode cX3_programs 125 = .ok (.iastore, 1) := by decide +kernel
theorem dX3_programs_126 : decode cX3_programs 126 = .ok (.aload_n 0, 1) := by decide +kernel
theorem dX3_programs_127 : decode cX3_programs 127 = .ok (.sipush 132, 3) := by decide +kernel
theorem dX3_programs_130 : decode cX3_programs 130 = .ok (.iload_n 3, 1) := by decide +kernel
theorem dX3_programs_131 : decode cX3_programs 131 = .ok (.iadd, 1) := by decide +kernel
theorem dX3_programs_132 : decode cX3_programs 132 = .ok (.aload_n 0, 1) := by decide +kernel
theorem dX3_programs_133 : decode cX3_programs 133 = .ok (.sipush 363, 3) := by decide +kernel
theorem dX3_programs_136 : decode cX3_programs 136 = .ok (.iaload, 1) := by decide +kernel
theorem dX3_programs_137 : decode cX3_programs 137 = .ok (.iastore, 1) := by decide +kernel
theorem dX3_programs_138 : decode cX3_programs 138 = .ok (.aload_n 0, 1) := by decide +kernel
theorem dX3_programs_139 : decode cX3_programs 139 = .ok (.sipush 363, 3) := by decide +kernel
theorem dX3_programs_142 : decode cX3_programs 142 = .ok (.dup2, 1) := by decide +kernel
theorem dX3_programs_143 : decode cX3_programs 143 = .ok (.iaload, 1) := by decide +kernel
theorem dX3_programs_144 : decode cX3_programs 144 = .ok (.iconst 1, 1) := by decide +kernel
theorem dX3_programs_145 : decode cX3_programs 145 = .ok (.iadd, 1) := by decide +kernel
theorem dX3_programs_146 : decode cX3_programs 146 = .ok (.iastore, 1) := by decide +kernel
theorem dX3_programs_147 : decode cX3_programs 147 = .ok (.aload_n 0, 1) := by decide +kernel
theorem dX3_programs_148 : decode cX3_programs 148 = .ok (.sipush 344, 3) := by decide +kernel
theorem dX3_programs_151 : decode cX3_programs 151 = .ok (.iconst 2, 1) := by decide +kernel
theorem dX3_programs_152 : decode cX3_programs 152 = .ok (.iload_n 2, 1) := by decide +kernel
theorem dX3_programs_153 : decode cX3_programs 153 = .ok (.imul, 1) := by decide +kernel
theorem dX3_programs_154 : decode cX3_programs 154 = .ok (.iadd, 1) := by decide +kernel
theorem dX3_programs_155 : decode cX3_programs 155 = .ok (.iconst (-1), 1) := by decide +kernel
theorem dX3_programs_156 : decode cX3_programs 156 = .ok (.iastore, 1) := by decide +kernel
theorem dX3_programs_157 : decode cX3_programs 157 = .ok (.return_, 1) := by decide +kernel
set_option maxRecDepth 20000 in
theorem ggX3_collects_X3_isValid : GoodIn wsX3_collects wsX3_isValid := goodIn_r _ [4, 5, 6, 3, 7] (by decide +kernel) (by decide +kernel)
set_option maxRecDepth 20000 in
theorem gX3_collects_X3_isValid : GoodIn wsX3_collects (va_wsS RX3 48 yX3_isValid wsX3_isValid) := goodIn_app (goodIn_of _ (by decide +kernel)) ggX3_collects_X3_isValid
set_option maxRecDepth 20000 in
theorem ggX3_collects_X3_programs : GoodIn wsX3_collects wsX3_programs := goodIn_r _ [10, 11, 12, 3, 13] (by decide +kernel) (by decide +kernel)
set_option maxRecDepth 20000 in
theorem gX3_collects_X3_programs : GoodIn wsX3_collects (va_wsS RX3 56 yX3_programs wsX3_programs) := goodIn_app (goodIn_of _ (by decide +kernel)) ggX3_collects_X3_programs
set_option maxRecDepth 20000 in
theorem ggX3_collects_X3_of : GoodIn wsX3_collects wsX3_of := goodIn_r _ [7] (by decide +kernel) (by decide +kernel)
set_option maxRecDepth 20000 in
theorem gX3_collects_X3_of : GoodIn wsX3_collects (va_wsS RX3 44 yX3_of wsX3_of) := goodIn_app (goodIn_of _ (by decide +kernel)) ggX3_collects_X3_of
theorem dX3_collects_0 : decode cX3_collects 0 = .ok (.iconst 0, 1) := by decide +kernel
theorem dX3_collects_1 : decode cX3_collects 1 = .ok (.istore_n 2, 1) := by decide +kernel
theorem dX3_collects_2 : decode cX3_collects 2 = .ok (.bipush 8, 2) := by decide +kernel
theorem dX3_collects_4 : decode cX3_collects 4 = .ok (.iload_n 1, 1) := by decide +kernel
theorem dX3_collects_5 : decode cX3_collects 5 = .ok (.imul, 1) := by decide +kernel
theorem dX3_collects_6 : decode cX3_collects 6 = .ok (.istore_n 3, 1) := by decide +kernel
theorem dX3_collects_7 : decode cX3_collects 7 = .ok (.iload_n 3, 1) := by decide +kernel
theorem dX3_collects_8 : decode cX3_collects 8 = .ok (.bipush 8, 2) := by decide +kernel
theorem dX3_collects_10 : decode cX3_collects 10 = .ok (.iload_n 1, 1) := by decide +kernel
theorem dX3_collects_11 : decode cX3_collects 11 = .ok (.imul, 1) := by decide +kernel
theorem dX3_collects_12 : decode cX3_collects 12 = .ok (.bipush 8, 2) := by decide +kernel
theorem dX3_collects_14 : decode cX3_collects 14 = .ok (.iadd, 1) := by decide +kernel
theorem dX3_collects_15 : decode cX3_collects 15 = .ok (.if_icmp .ge 81, 3) := by decide +kernel
theorem dX3_collects_18 : decode cX3_collects 18 = .ok (.aload_n 0, 1) := by decide +kernel
theorem dX3_collects_19 : decode cX3_collects 19 = .ok (.iload_n 3, 1) := by decide +kernel
theorem dX3_collects_20 : decode cX3_collects 20 = .ok (.invokestatic 48, 3) := by decide +kernel
theorem dX3_collects_23 : decode cX3_collects 23 = .ok (.ifCond .eq 67, 3) := by decide +kernel
theorem dX3_collects_26 : decode cX3_collects 26 = .ok (.aload_n 0, 1) := by decide +kernel
theorem dX3_collects_27 : decode cX3_collects 27 = .ok (.iload_n 3, 1) := by decide +kernel
theorem dX3_collects_28 : decode cX3_collects 28 = .ok (.iaload, 1) := by decide +kernel
theorem dX3_collects_29 : decode cX3_collects 29 = .ok (.istore 4, 2) := by decide +kernel
theorem dX3_collects_31 : decode cX3_collects 31 = .ok (.aload_n 0, 1) := by decide +kernel
theorem dX3_collects_32 : decode cX3_collects 32 = .ok (.iload 4, 2) := by decide +kernel
theorem dX3_collects_34 : decode cX3_collects 34 = .ok (.iconst 4, 1) := by decide +kernel
theorem dX3_collects_35 : decode cX3_collects 35 = .ok (.invokestatic 56, 3) := by decide +kernel
theorem dX3_collects_38 : decode cX3_collects 38 = .ok (.aload_n 0, 1) := by decide +kernel
theorem dX3_collects_39 : decode cX3_collects 39 = .ok (.sipush 144, 3) := by decide +kernel
theorem dX3_collects_42 : decode cX3_collects 42 = .ok (.iconst 5, 1) := by decide +kernel
theorem dX3_collects_43 : decode cX3_collects 43 = .ok (.iload 4, 2) := by decide +kernel
theorem dX3_collects_45 : decode cX3_collects 45 = .ok (.imul, 1) := by decide +kernel
theorem dX3_collects_46 : decode cX3_collects 46 = .ok (.iadd, 1) := by decide +kernel
theorem dX3_collects_47 : decode cX3_collects 47 = .ok (.iconst 3, 1) := by decide +kernel
theorem dX3_collects_48 : decode cX3_collects 48 = .ok (.iadd, 1) := by decide +kernel
theorem dX3_collects_49 : decode cX3_collects 49 = .ok (.dup2, 1) := by decide +kernel
theorem dX3_collects_50 : decode cX3_collects 50 = .ok (.iaload, 1) := by decide +kernel
theorem dX3_collects_51 : decode cX3_collects 51 = .ok (.iconst 1, 1) := by decide +kernel
theorem dX3_collects_52 : decode cX3_collects 52 = .ok (.iadd, 1) := by decide +kernel
theorem dX3_collects_53 : decode cX3_collects 53 = .ok (.iastore, 1) := by decide +kernel
theorem dX3_collects_54 : decode cX3_collects 54 = .ok (.aload_n 0, 1) := by decide +kernel
theorem dX3_collects_55 : decode cX3_collects 55 = .ok (.sipush 144, 3) := by decide +kernel
theorem dX3_collects_58 : decode cX3_collects 58 = .ok (.iconst 5, 1) := by decide +kernel
theorem dX3_collects_59 : decode cX3_collects 59 = .ok (.iload 4, 2) := by decide +kernel
theorem dX3_collects_61 : decode cX3_collects 61 = .ok (.imul, 1) := by decide +kernel
theorem dX3_collects_62 : decode cX3_collects 62 = .ok (.iadd, 1) := by decide +kernel
theorem dX3_collects_63 : decode cX3_collects 63 = .ok (.iconst 4, 1) := by decide +kernel
theorem dX3_collects_64 : decode cX3_collects 64 = .ok (.iadd, 1) := by decide +kernel
theorem dX3_collects_65 : decode cX3_collects 65 = .ok (.dup2, 1) := by decide +kernel
theorem dX3_collects_66 : decode cX3_collects 66 = .ok (.iaload, 1) := by decide +kernel
theorem dX3_collects_67 : decode cX3_collects 67 = .ok (.iconst 1, 1) := by decide +kernel
theorem dX3_collects_68 : decode cX3_collects 68 = .ok (.iadd, 1) := by decide +kernel
theorem dX3_collects_69 : decode cX3_collects 69 = .ok (.iastore, 1) := by decide +kernel
theorem dX3_collects_70 : decode cX3_collects 70 = .ok (.aload_n 0, 1) := by decide +kernel
theorem dX3_collects_71 : decode cX3_collects 71 = .ok (.sipush 354, 3) := by decide +kernel
theorem dX3_collects_74 : decode cX3_collects 74 = .ok (.aload_n 0, 1) := by decide +kernel
theorem dX3_collects_75 : decode cX3_collects 75 = .ok (.iload 4, 2) := by decide +kernel
theorem dX3_collects_77 : decode cX3_collects 77 = .ok (.iconst 1, 1) := by decide +kernel
theorem dX3_collects_78 : decode cX3_collects 78 = .ok (.invokestatic 44, 3) := by decide +kernel
theorem dX3_collects_81 : decode cX3_collects 81 = .ok (.iadd, 1) := by decide +kernel
theorem dX3_collects_82 : decode cX3_collects 82 = .ok (.dup2, 1) := by decide +kernel
theorem dX3_collects_83 : decode cX3_collects 83 = .ok (.iaload, 1) := by decide +kernel
theorem dX3_collects_84 : decode cX3_collects 84 = .ok (.iconst 1, 1) := by decide +kernel
theorem dX3_collects_85 : decode cX3_collects 85 = .ok (.iadd, 1) := by decide +kernel
theorem dX3_collects_86 : decode cX3_collects 86 = .ok (.iastore, 1) := by decide +kernel
theorem dX3_collects_87 : decode cX3_collects 87 = .ok (.iinc 2 1, 3) := by decide +kernel
theorem dX3_collects_90 : decode cX3_collects 90 = .ok (.iinc 3 1, 3) := by decide +kernel
theorem dX3_collects_93 : decode cX3_collects 93 = .ok (.goto (-86), 3) := by decide +kernel
theorem dX3_collects_96 : decode cX3_collects 96 = .ok (.aload_n 0, 1) := by decide +kernel
theorem dX3_collects_97 : decode cX3_collects 97 = .ok (.sipush 361, 3) := by decide +kernel
theorem dX3_collects_100 : decode cX3_collects 100 = .ok (.dup2, 1) := by decide +kernel
theorem dX3_collects_101 : decode cX3_collects 101 = .ok (.iaload, 1) := by decide +kernel
theorem dX3_collects_102 : decode cX3_collects 102 = .ok (.iload_n 2, 1) := by decide +kernel
theorem dX3_collects_103 : decode cX3_collects 103 = .ok (.iadd, 1) := by decide +kernel
theorem dX3_collects_104 : decode cX3_collects 104 = .ok (.iastore, 1) := by decide +kernel
theorem dX3_collects_105 : decode cX3_collects 105 = .ok (.bipush 8, 2) := by decide +kernel
theorem dX3_collects_107 : decode cX3_collects 107 = .ok (.iload_n 1, 1) := by decide +kernel
theorem dX3_collects_108 : decode cX3_collects 108 = .ok (.imul, 1) := by decide +kernel
theorem dX3_collects_109 : decode cX3_collects 109 = .ok (.istore_n 3, 1) := by decide +kernel
theorem dX3_collects_110 : decode cX3_collects 110 = .ok (.iload_n 3, 1) := by decide +kernel
theorem dX3_collects_111 : decode cX3_collects 111 = .ok (.bipush 8, 2) := by decide +kernel
theorem dX3_collects_113 : decode cX3_collects 113 = .ok (.iload_n 1, 1) := by decide +kernel
theorem dX3_collects_114 : decode cX3_collects 114 = .ok (.imul, 1) := by decide +kernel
theorem dX3_collects_115 : decode cX3_collects 115 = .ok (.bipush 8, 2) := by decide +kernel
theorem dX3_collects_117 : decode cX3_collects 117 = .ok (.iadd, 1) := by decide +kernel
theorem dX3_collects_118 : decode cX3_collects 118 = .ok (.if_icmp .ge 13, 3) := by decide +kernel
theorem dX3_collects_121 : decode cX3_collects 121 = .ok (.aload_n 0, 1) := by decide +kernel
theorem dX3_collects_122 : decode cX3_collects 122 = .ok (.iload_n 3, 1) := by decide +kernel
theorem dX3_collects_123 : decode cX3_collects 123 = .ok (.iconst (-1), 1) := by decide +kernel
theorem dX3_collects_124 : decode cX3_collects 124 = .ok (.iastore, 1) := by decide +kernel
theorem dX3_collects_125 : decode cX3_collects 125 = .ok (.iinc 3 1, 3) := by decide +kernel
theorem dX3_collects_128 : decode cX3_collects 128 = .ok (.goto (-18), 3) := by decide +kernel
theorem dX3_collects_131 : decode cX3_collects 131 = .ok (.aload_n 0, 1) := by decide +kernel
theorem dX3_collects_132 : decode cX3_collects 132 = .ok (.bipush 96, 2) := by decide +kernel
theorem dX3_collects_134 : decode cX3_collects 134 = .ok (.iload_n 1, 1) := by decide +kernel
theorem dX3_collects_135 : decode cX3_collects 135 = .ok (.iadd, 1) := by decide +kernel
theorem dX3_collects_136 : decode cX3_collects 136 = .ok (.iconst 0, 1) := by decide +kernel
theorem dX3_collects_137 : decode cX3_collects 137 = .ok (.iastore, 1) := by decide +kernel
theorem dX3_collects_138 : decode cX3_collects 138 = .ok (.aload_n 0, 1) := by decide +kernel
theorem dX3_collects_139 : decode cX3_collects 139 = .ok (.bipush 108, 2) := by decide +kernel
theorem dX3_collects_141 : decode cX3_collects 141 = .ok (.iload_n 1, 1) := by decide +kernel
theorem dX3_collects_142 : decode cX3_collects 142 = .ok (.iadd, 1) := by decide +kernel
theorem dX3_collects_143 : decode cX3_collects 143 = .ok (.iconst (-1), 1) := by decide +kernel
theorem dX3_collects_144 : decode cX3_collects 144 = .ok (.iastore, 1) := by decide +kernel
theorem dX3_collects_145 : decode cX3_collects 145 = .ok (.aload_n 0, 1) := by decide +kernel
theorem dX3_collects_146 : decode cX3_collects 146 = .ok (.bipush 120, 2) := by decide +kernel
theorem dX3_collects_148 : decode cX3_collects 148 = .ok (.iload_n 1, 1) := by decide +kernel
theorem dX3_collects_149 : decode cX3_collects 149 = .ok (.iadd, 1) := by decide +kernel
theorem dX3_collects_150 : decode cX3_collects 150 = .ok (.dup2, 1) := by decide +kernel
theorem dX3_collects_151 : decode cX3_collects 151 = .ok (.iaload, 1) := by decide +kernel
theorem dX3_collects_152 : decode cX3_collects 152 = .ok (.iconst 1, 1) := by decide +kernel
theorem dX3_collects_153 : decode cX3_collects 153 = .ok (.iadd, 1) := by decide +kernel
theorem dX3_collects_154 : decode cX3_collects 154 = .ok (.iastore, 1) := by decide +kernel
theorem dX3_collects_155 : decode cX3_collects 155 = .ok (.aload_n 0, 1) := by decide +kernel
theorem dX3_collects_156 : decode cX3_collects 156 = .ok (.sipush 362, 3) := by decide +kernel
theorem dX3_collects_159 : decode cX3_collects 159 = .ok (.dup2, 1) := by decide +kernel
theorem dX3_collects_160 : decode cX3_collects 160 = .ok (.iaload, 1) := by decide +kernel
theorem dX3_collects_161 : decode cX3_collects 161 = .ok (.iconst 1, 1) := by decide +kernel
theorem dX3_collects_162 : decode cX3_collects 162 = .ok (.iadd, 1) := by decide +kernel
theorem dX3_collects_163 : decode cX3_collects 163 = .ok (.iastore, 1) := by decide +kernel
theorem dX3_collects_164 : decode cX3_collects 164 = .ok (.iload_n 2, 1) := by decide +kernel
theorem dX3_collects_165 : decode cX3_collects 165 = .ok (.ireturn, 1) := by decide +kernel
theorem dX3_weight_0 : decode cX3_weight 0 = .ok (.aload_n 0, 1) := by decide +kernel
theorem dX3_weight_1 : decode cX3_weight 1 = .ok (.sipush 358, 3) := by decide +kernel
theorem dX3_weight_4 : decode cX3_weight 4 = .ok (.iaload, 1) := by decide +kernel
theorem dX3_weight_5 : decode cX3_weight 5 = .ok (.ifCond .ne 7, 3) := by decide +kernel
theorem dX3_weight_8 : decode cX3_weight 8 = .ok (.iconst 0, 1) := by decide +kernel
theorem dX3_weight_9 : decode cX3_weight 9 = .ok (.goto 28, 3) := by decide +kernel
theorem dX3_weight_12 : decode cX3_weight 12 = .ok (.aload_n 0, 1) := by decide +kernel
theorem dX3_weight_13 : decode cX3_weight 13 = .ok (.sipush 358, 3) := by decide +kernel
theorem dX3_weight_16 : decode cX3_weight 16 = .ok (.iaload, 1) := by decide +kernel
theorem dX3_weight_17 : decode cX3_weight 17 = .ok (.iconst 1, 1) := by decide +kernel
theorem dX3_weight_18 : decode cX3_weight 18 = .ok (.if_icmp .ne 13, 3) := by decide +kernel
theorem dX3_weight_21 : decode cX3_weight 21 = .ok (.aload_n 0, 1) := by decide +kernel
theorem dX3_weight_22 : decode cX3_weight 22 = .ok (.sipush 132, 3) := by decide +kernel
theorem dX3_weight_25 : decode cX3_weight 25 = .ok (.iload_n 1, 1) := by decide +kernel
theorem dX3_weight_26 : decode cX3_weight 26 = .ok (.iadd, 1) := by decide +kernel
theorem dX3_weight_27 : decode cX3_weight 27 = .ok (.iaload, 1) := by decide +kernel
theorem dX3_weight_28 : decode cX3_weight 28 = .ok (.goto 9, 3) := by decide +kernel
theorem dX3_weight_31 : decode cX3_weight 31 = .ok (.aload_n 0, 1) := by decide +kernel
theorem dX3_weight_32 : decode cX3_weight 32 = .ok (.bipush 120, 2) := by decide +kernel
theorem dX3_weight_34 : decode cX3_weight 34 = .ok (.iload_n 1, 1) := by decide +kernel
theorem dX3_weight_35 : decode cX3_weight 35 = .ok (.iadd, 1) := by decide +kernel
theorem dX3_weight_36 : decode cX3_weight 36 = .ok (.iaload, 1) := by decide +kernel
theorem dX3_weight_37 : decode cX3_weight 37 = .ok (.ireturn, 1) := by decide +kernel
set_option maxRecDepth 20000 in
theorem ggX3_victim_X3_slots : GoodIn wsX3_victim wsX3_slots := goodIn_r _ [4, 5, 6, 3, 7, 8, 9, 10] (by decide +kernel) (by decide +kernel)
set_option maxRecDepth 20000 in
theorem gX3_victim_X3_slots : GoodIn wsX3_victim (va_wsS RX3 60 yX3_slots wsX3_slots) := goodIn_app (goodIn_of _ (by decide +kernel)) ggX3_victim_X3_slots
set_option maxRecDepth 20000 in
theorem ggX3_victim_X3_weight : GoodIn wsX3_victim wsX3_weight := goodIn_r _ [13] (by decide +kernel) (by decide +kernel)
set_option maxRecDepth 20000 in
theorem gX3_victim_X3_weight : GoodIn wsX3_victim (va_wsS RX3 63 yX3_weight wsX3_weight) := goodIn_app (goodIn_of _ (by decide +kernel)) ggX3_victim_X3_weight
theorem dX3_victim_0 : decode cX3_victim 0 = .ok (.iconst (-1), 1) := by decide +kernel
theorem dX3_victim_1 : decode cX3_victim 1 = .ok (.istore_n 1, 1) := by decide +kernel
theorem dX3_victim_2 : decode cX3_victim 2 = .ok (.iconst 0, 1) := by decide +kernel
theorem dX3_victim_3 : decode cX3_victim 3 = .ok (.istore_n 2, 1) := by decide +kernel
theorem dX3_victim_4 : decode cX3_victim 4 = .ok (.iload_n 2, 1) := by decide +kernel
theorem dX3_victim_5 : decode cX3_victim 5 = .ok (.bipush 12, 2) := by decide +kernel
theorem dX3_victim_7 : decode cX3_victim 7 = .ok (.if_icmp .ge 92, 3) := by decide +kernel
theorem dX3_victim_10 : decode cX3_victim 10 = .ok (.aload_n 0, 1) := by decide +kernel
theorem dX3_victim_11 : decode cX3_victim 11 = .ok (.bipush 96, 2) := by decide +kernel
theorem dX3_victim_13 : decode cX3_victim 13 = .ok (.iload_n 2, 1) := by decide +kernel
theorem dX3_victim_14 : decode cX3_victim 14 = .ok (.iadd, 1) := by decide +kernel
theorem dX3_victim_15 : decode cX3_victim 15 = .ok (.iaload, 1) := by decide +kernel
theorem dX3_victim_16 : decode cX3_victim 16 = .ok (.iconst 2, 1) := by decide +kernel
theorem dX3_victim_17 : decode cX3_victim 17 = .ok (.if_icmp .ne 76, 3) := by decide +kernel
theorem dX3_victim_20 : decode cX3_victim 20 = .ok (.aload_n 0, 1) := by decide +kernel
theorem dX3_victim_21 : decode cX3_victim 21 = .ok (.iload_n 2, 1) := by decide +kernel
theorem dX3_victim_22 : decode cX3_victim 22 = .ok (.iconst 1, 1) := by decide +kernel
theorem dX3_victim_23 : decode cX3_victim 23 = .ok (.invokestatic 60, 3) := by decide +kernel
theorem dX3_victim_26 : decode cX3_victim 26 = .ok (.ifCond .le 67, 3) := by decide +kernel
theorem dX3_victim_29 : decode cX3_victim 29 = .ok (.iload_n 1, 1) := by decide +kernel
theorem dX3_victim_30 : decode cX3_victim 30 = .ok (.iconst (-1), 1) := by decide +kernel
theorem dX3_victim_31 : decode cX3_victim 31 = .ok (.if_icmp .ne 7, 3) := by decide +kernel
theorem dX3_victim_34 : decode cX3_victim 34 = .ok (.iconst (-1), 1) := by decide +kernel
theorem dX3_victim_35 : decode cX3_victim 35 = .ok (.goto 14, 3) := by decide +kernel
theorem dX3_victim_38 : decode cX3_victim 38 = .ok (.aload_n 0, 1) := by decide +kernel
theorem dX3_victim_39 : decode cX3_victim 39 = .ok (.iload_n 2, 1) := by decide +kernel
theorem dX3_victim_40 : decode cX3_victim 40 = .ok (.invokestatic 63, 3) := by decide +kernel
theorem dX3_victim_43 : decode cX3_victim 43 = .ok (.aload_n 0, 1) := by decide +kernel
theorem dX3_victim_44 : decode cX3_victim 44 = .ok (.iload_n 1, 1) := by decide +kernel
theorem dX3_victim_45 : decode cX3_victim 45 = .ok (.invokestatic 63, 3) := by decide +kernel
theorem dX3_victim_48 : decode cX3_victim 48 = .ok (.isub, 1) := by decide +kernel
theorem dX3_victim_49 : decode cX3_victim 49 = .ok (.istore_n 3, 1) := by decide +kernel
theorem dX3_victim_50 : decode cX3_victim 50 = .ok (.iload_n 1, 1) := by decide +kernel
theorem dX3_victim_51 : decode cX3_victim 51 = .ok (.iconst (-1), 1) := by decide +kernel
theorem dX3_victim_52 : decode cX3_victim 52 = .ok (.if_icmp .ne 7, 3) := by decide +kernel
theorem dX3_victim_55 : decode cX3_victim 55 = .ok (.iconst (-1), 1) := by decide +kernel
theorem dX3_victim_56 : decode cX3_victim 56 = .ok (.goto 16, 3) := by decide +kernel
theorem dX3_victim_59 : decode cX3_victim 59 = .ok (.aload_n 0, 1) := by decide +kernel
theorem dX3_victim_60 : decode cX3_victim 60 = .ok (.iload_n 2, 1) := by decide +kernel
theorem dX3_victim_61 : decode cX3_victim 61 = .ok (.iconst 0, 1) := by decide +kernel
theorem dX3_victim_62 : decode cX3_victim 62 = .ok (.invokestatic 60, 3) := by decide +kernel
theorem dX3_victim_65 : decode cX3_victim 65 = .ok (.aload_n 0, 1) := by decide +kernel
theorem dX3_victim_66 : decode cX3_victim 66 = .ok (.iload_n 1, 1) := by decide +kernel
theorem dX3_victim_67 : decode cX3_victim 67 = .ok (.iconst 0, 1) := by decide +kernel
theorem dX3_victim_68 : decode cX3_victim 68 = .ok (.invokestatic 60, 3) := by decide +kernel
theorem dX3_victim_71 : decode cX3_victim 71 = .ok (.isub, 1) := by decide +kernel
theorem dX3_victim_72 : decode cX3_victim 72 = .ok (.istore 4, 2) := by decide +kernel
theorem dX3_victim_74 : decode cX3_victim 74 = .ok (.iload_n 3, 1) := by decide +kernel
theorem dX3_victim_75 : decode cX3_victim 75 = .ok (.ifCond .lt 12, 3) := by decide +kernel
theorem dX3_victim_78 : decode cX3_victim 78 = .ok (.iload_n 3, 1) := by decide +kernel
theorem dX3_victim_79 : decode cX3_victim 79 = .ok (.ifCond .ne 12, 3) := by decide +kernel
theorem dX3_victim_82 : decode cX3_victim 82 = .ok (.iload 4, 2) := by decide +kernel
theorem dX3_victim_84 : decode cX3_victim 84 = .ok (.ifCond .ge 7, 3) := by decide +kernel
theorem dX3_victim_87 : decode cX3_victim 87 = .ok (.iload_n 2, 1) := by decide +kernel
theorem dX3_victim_88 : decode cX3_victim 88 = .ok (.goto 4, 3) := by decide +kernel
theorem dX3_victim_91 : decode cX3_victim 91 = .ok (.iload_n 1, 1) := by decide +kernel
theorem dX3_victim_92 : decode cX3_victim 92 = .ok (.istore_n 1, 1) := by decide +kernel
theorem dX3_victim_93 : decode cX3_victim 93 = .ok (.iinc 2 1, 3) := by decide +kernel
theorem dX3_victim_96 : decode cX3_victim 96 = .ok (.goto (-92), 3) := by decide +kernel
theorem dX3_victim_99 : decode cX3_victim 99 = .ok (.iload_n 1, 1) := by decide +kernel
theorem dX3_victim_100 : decode cX3_victim 100 = .ok (.ireturn, 1) := by decide +kernel
set_option maxRecDepth 20000 in
theorem ggX3_frees_X3_victim : GoodIn wsX3_frees wsX3_victim := goodIn_r _ [4, 5, 6, 3, 7, 8, 9, 10, 11, 12, 13, 14, 15, 16] (by decide +kernel) (by decide +kernel)
set_option maxRecDepth 20000 in
theorem gX3_frees_X3_victim : GoodIn wsX3_frees (va_wsS RX3 67 yX3_victim wsX3_victim) := goodIn_app (goodIn_of _ (by decide +kernel)) ggX3_frees_X3_victim
set_option maxRecDepth 20000 in
theorem ggX3_frees_X3_inState : GoodIn wsX3_frees wsX3_inState := goodIn_r _ [19] (by decide +kernel) (by decide +kernel)
set_option maxRecDepth 20000 in
theorem gX3_frees_X3_inState : GoodIn wsX3_frees (va_wsS RX3 70 yX3_inState wsX3_inState) := goodIn_app (goodIn_of _ (by decide +kernel)) ggX3_frees_X3_inState
set_option maxRecDepth 20000 in
theorem ggX3_frees_X3_collects : GoodIn wsX3_frees wsX3_collects := goodIn_r _ [22, 8, 9, 3, 10, 11, 12, 13, 23, 24, 25, 26, 27, 28] (by decide +kernel) (by decide +kernel)
set_option maxRecDepth 20000 in
theorem gX3_frees_X3_collects : GoodIn wsX3_frees (va_wsS RX3 73 yX3_collects wsX3_collects) := goodIn_app (goodIn_of _ (by decide +kernel)) ggX3_frees_X3_collects
theorem dX3_frees_0 : decode cX3_frees 0 = .ok (.iconst 0, 1) := by decide +kernel
theorem dX3_frees_1 : decode cX3_frees 1 = .ok (.istore_n 2, 1) := by decide +kernel
theorem dX3_frees_2 : decode cX3_frees 2 = .ok (.aload_n 0, 1) := by decide +kernel
theorem dX3_frees_3 : decode cX3_frees 3 = .ok (.invokestatic 67, 3) := by decide +kernel
theorem dX3_frees_6 : decode cX3_frees 6 = .ok (.istore_n 3, 1) := by decide +kernel
theorem dX3_frees_7 : decode cX3_frees 7 = .ok (.aload_n 0, 1) := by decide +kernel
theorem dX3_frees_8 : decode cX3_frees 8 = .ok (.iconst 0, 1) := by decide +kernel
theorem dX3_frees_9 : decode cX3_frees 9 = .ok (.invokestatic 70, 3) := by decide +kernel
theorem dX3_frees_12 : decode cX3_frees 12 = .ok (.iload_n 1, 1) := by decide +kernel
theorem dX3_frees_13 : decode cX3_frees 13 = .ok (.if_icmp .ge 24, 3) := by decide +kernel
theorem dX3_frees_16 : decode cX3_frees 16 = .ok (.iload_n 3, 1) := by decide +kernel
theorem dX3_frees_17 : decode cX3_frees 17 = .ok (.iconst (-1), 1) := by decide +kernel
theorem dX3_frees_18 : decode cX3_frees 18 = .ok (.if_icmp .eq 19, 3) := by decide +kernel
theorem dX3_frees_21 : decode cX3_frees 21 = .ok (.iload_n 2, 1) := by decide +kernel
theorem dX3_frees_22 : decode cX3_frees 22 = .ok (.aload_n 0, 1) := by decide +kernel
theorem dX3_frees_23 : decode cX3_frees 23 = .ok (.iload_n 3, 1) := by decide +kernel
theorem dX3_frees_24 : decode cX3_frees 24 = .ok (.invokestatic 73, 3) := by decide +kernel
theorem dX3_frees_27 : decode cX3_frees 27 = .ok (.iadd, 1) := by decide +kernel
theorem dX3_frees_28 : decode cX3_frees 28 = .ok (.istore_n 2, 1) := by decide +kernel
theorem dX3_frees_29 : decode cX3_frees 29 = .ok (.aload_n 0, 1) := by decide +kernel
theorem dX3_frees_30 : decode cX3_frees 30 = .ok (.invokestatic 67, 3) := by decide +kernel
theorem dX3_frees_33 : decode cX3_frees 33 = .ok (.istore_n 3, 1) := by decide +kernel
theorem dX3_frees_34 : decode cX3_frees 34 = .ok (.goto (-27), 3) := by decide +kernel
theorem dX3_frees_37 : decode cX3_frees 37 = .ok (.iload_n 2, 1) := by decide +kernel
theorem dX3_frees_38 : decode cX3_frees 38 = .ok (.ireturn, 1) := by decide +kernel
set_option maxRecDepth 20000 in
theorem ggX3_writes_X3_frees : GoodIn wsX3_writes wsX3_frees := goodIn_r _ [4, 5, 6, 3, 7, 8, 9, 10, 11, 12, 13, 14, 15, 16, 17, 18, 19, 20, 21, 22, 23, 24, 25, 26, 27, 28, 29, 30, 31] (by decide +kernel) (by decide +kernel)
set_option maxRecDepth 20000 in
theorem gX3_writes_X3_frees : GoodIn wsX3_writes (va_wsS RX3 76 yX3_frees wsX3_frees) := goodIn_app (goodIn_of _ (by decide +kernel)) ggX3_writes_X3_frees
set_option maxRecDepth 20000 in
theorem ggX3_writes_X3_programs : GoodIn wsX3_writes wsX3_programs := goodIn_r _ [28, 29, 30, 3, 31] (by decide +kernel) (by decide +kernel)
set_option maxRecDepth 20000 in
theorem gX3_writes_X3_programs : GoodIn wsX3_writes (va_wsS RX3 56 yX3_programs wsX3_programs) := goodIn_app (goodIn_of _ (by decide +kernel)) ggX3_writes_X3_programs
theorem dX3_writes_0 : decode cX3_writes 0 = .ok (.aload_n 0, 1) := by decide +kernel
theorem dX3_writes_1 : decode cX3_writes 1 = .ok (.aload_n 0, 1) := by decide +kernel
theorem dX3_writes_2 : decode cX3_writes 2 = .ok (.sipush 359, 3) := by decide +kernel
theorem dX3_writes_5 : decode cX3_writes 5 = .ok (.iaload, 1) := by decide +kernel
theorem dX3_writes_6 : decode cX3_writes 6 = .ok (.invokestatic 76, 3) := by decide +kernel
theorem dX3_writes_9 : decode cX3_writes 9 = .ok (.istore_n 3, 1) := by decide +kernel
theorem dX3_writes_10 : decode cX3_writes 10 = .ok (.aload_n 0, 1) := by decide +kernel
theorem dX3_writes_11 : decode cX3_writes 11 = .ok (.sipush 144, 3) := by decide +kernel
theorem dX3_writes_14 : decode cX3_writes 14 = .ok (.iconst 5, 1) := by decide +kernel
theorem dX3_writes_15 : decode cX3_writes 15 = .ok (.iload_n 1, 1) := by decide +kernel
theorem dX3_writes_16 : decode cX3_writes 16 = .ok (.imul, 1) := by decide +kernel
theorem dX3_writes_17 : decode cX3_writes 17 = .ok (.iadd, 1) := by decide +kernel
theorem dX3_writes_18 : decode cX3_writes 18 = .ok (.iconst 1, 1) := by decide +kernel
theorem dX3_writes_19 : decode cX3_writes 19 = .ok (.iadd, 1) := by decide +kernel
theorem dX3_writes_20 : decode cX3_writes 20 = .ok (.iload_n 2, 1) := by decide +kernel
theorem dX3_writes_21 : decode cX3_writes 21 = .ok (.iastore, 1) := by decide +kernel
theorem dX3_writes_22 : decode cX3_writes 22 = .ok (.aload_n 0, 1) := by decide +kernel
theorem dX3_writes_23 : decode cX3_writes 23 = .ok (.iload_n 1, 1) := by decide +kernel
theorem dX3_writes_24 : decode cX3_writes 24 = .ok (.iload_n 2, 1) := by decide +kernel
theorem dX3_writes_25 : decode cX3_writes 25 = .ok (.invokestatic 56, 3) := by decide +kernel
theorem dX3_writes_28 : decode cX3_writes 28 = .ok (.aload_n 0, 1) := by decide +kernel
theorem dX3_writes_29 : decode cX3_writes 29 = .ok (.sipush 144, 3) := by decide +kernel
theorem dX3_writes_32 : decode cX3_writes 32 = .ok (.iconst 5, 1) := by decide +kernel
theorem dX3_writes_33 : decode cX3_writes 33 = .ok (.iload_n 1, 1) := by decide +kernel
theorem dX3_writes_34 : decode cX3_writes 34 = .ok (.imul, 1) := by decide +kernel
theorem dX3_writes_35 : decode cX3_writes 35 = .ok (.iadd, 1) := by decide +kernel
theorem dX3_writes_36 : decode cX3_writes 36 = .ok (.iconst 2, 1) := by decide +kernel
theorem dX3_writes_37 : decode cX3_writes 37 = .ok (.iadd, 1) := by decide +kernel
theorem dX3_writes_38 : decode cX3_writes 38 = .ok (.dup2, 1) := by decide +kernel
theorem dX3_writes_39 : decode cX3_writes 39 = .ok (.iaload, 1) := by decide +kernel
theorem dX3_writes_40 : decode cX3_writes 40 = .ok (.iconst 1, 1) := by decide +kernel
theorem dX3_writes_41 : decode cX3_writes 41 = .ok (.iadd, 1) := by decide +kernel
theorem dX3_writes_42 : decode cX3_writes 42 = .ok (.iastore, 1) := by decide +kernel
theorem dX3_writes_43 : decode cX3_writes 43 = .ok (.aload_n 0, 1) := by decide +kernel
theorem dX3_writes_44 : decode cX3_writes 44 = .ok (.sipush 144, 3) := by decide +kernel
theorem dX3_writes_47 : decode cX3_writes 47 = .ok (.iconst 5, 1) := by decide +kernel
theorem dX3_writes_48 : decode cX3_writes 48 = .ok (.iload_n 1, 1) := by decide +kernel
theorem dX3_writes_49 : decode cX3_writes 49 = .ok (.imul, 1) := by decide +kernel
theorem dX3_writes_50 : decode cX3_writes 50 = .ok (.iadd, 1) := by decide +kernel
theorem dX3_writes_51 : decode cX3_writes 51 = .ok (.iconst 4, 1) := by decide +kernel
theorem dX3_writes_52 : decode cX3_writes 52 = .ok (.iadd, 1) := by decide +kernel
theorem dX3_writes_53 : decode cX3_writes 53 = .ok (.iconst 0, 1) := by decide +kernel
theorem dX3_writes_54 : decode cX3_writes 54 = .ok (.iastore, 1) := by decide +kernel
theorem dX3_writes_55 : decode cX3_writes 55 = .ok (.aload_n 0, 1) := by decide +kernel
theorem dX3_writes_56 : decode cX3_writes 56 = .ok (.sipush 360, 3) := by decide +kernel
theorem dX3_writes_59 : decode cX3_writes 59 = .ok (.dup2, 1) := by decide +kernel
theorem dX3_writes_60 : decode cX3_writes 60 = .ok (.iaload, 1) := by decide +kernel
theorem dX3_writes_61 : decode cX3_writes 61 = .ok (.iconst 1, 1) := by decide +kernel
theorem dX3_writes_62 : decode cX3_writes 62 = .ok (.iadd, 1) := by decide +kernel
theorem dX3_writes_63 : decode cX3_writes 63 = .ok (.iastore, 1) := by decide +kernel
theorem dX3_writes_64 : decode cX3_writes 64 = .ok (.iload_n 3, 1) := by decide +kernel
theorem dX3_writes_65 : decode cX3_writes 65 = .ok (.ireturn, 1) := by decide +kernel
set_option maxRecDepth 20000 in
theorem ggX3_write_X3_isPage : GoodIn wsX3_write wsX3_isPage := goodIn_r _ [6, 7, 8, 5, 9] (by decide +kernel) (by decide +kernel)
set_option maxRecDepth 20000 in
theorem gX3_write_X3_isPage : GoodIn wsX3_write (va_wsS RX3 79 yX3_isPage wsX3_isPage) := goodIn_app (goodIn_of _ (by decide +kernel)) ggX3_write_X3_isPage
set_option maxRecDepth 20000 in
theorem ggX3_write_X3_fails : GoodIn wsX3_write wsX3_fails := goodIn_r _ [13, 1, 59, 60, 61, 62, 63, 64, 65, 66, 67, 68, 69, 70] (by decide +kernel) (by decide +kernel)
set_option maxRecDepth 20000 in
theorem gX3_write_X3_fails : GoodIn wsX3_write (wsV RX3 40 RX3 yX3_fails wsX3_fails) := goodIn_app (goodIn_of _ (by decide +kernel)) ggX3_write_X3_fails
set_option maxRecDepth 20000 in
theorem ggX3_write_X3_isHint : GoodIn wsX3_write wsX3_isHint := goodIn_r _ [16, 7, 8, 5, 9] (by decide +kernel) (by decide +kernel)
set_option maxRecDepth 20000 in
theorem gX3_write_X3_isHint : GoodIn wsX3_write (va_wsS RX3 83 yX3_isHint wsX3_isHint) := goodIn_app (goodIn_of _ (by decide +kernel)) ggX3_write_X3_isHint
set_option maxRecDepth 20000 in
theorem ggX3_write_X3_saves : GoodIn wsX3_write wsX3_saves := goodIn_r _ [20, 21, 22, 2, 23, 24, 5, 25, 59, 60, 61, 62, 63, 64, 65, 66, 67, 68, 69, 70] (by decide +kernel) (by decide +kernel)
set_option maxRecDepth 20000 in
theorem gX3_write_X3_saves : GoodIn wsX3_write (wsV RX3 86 RX3 yX3_saves wsX3_saves) := goodIn_app (goodIn_of _ (by decide +kernel)) ggX3_write_X3_saves
set_option maxRecDepth 20000 in
theorem ggX3_write_X3_writes : GoodIn wsX3_write wsX3_writes := goodIn_r _ [28, 29, 30, 5, 31, 32, 33, 34, 35, 36, 37, 38, 39, 40, 41, 42, 43, 44, 45, 46, 47, 48, 49, 50, 51, 52, 53, 54, 55, 56, 57, 58] (by decide +kernel) (by decide +kernel)
set_option maxRecDepth 20000 in
theorem gX3_write_X3_writes : GoodIn wsX3_write (va_wsS RX3 89 yX3_writes wsX3_writes) := goodIn_app (goodIn_of _ (by decide +kernel)) ggX3_write_X3_writes
theorem dX3_write_0 : decode cX3_write 0 = .ok (.aload_n 0, 1) := by decide +kernel
theorem dX3_write_1 : decode cX3_write 1 = .ok (.iconst 0, 1) := by decide +kernel
theorem dX3_write_2 : decode cX3_write 2 = .ok (.putfield 25, 3) := by decide +kernel
theorem dX3_write_5 : decode cX3_write 5 = .ok (.iload_n 1, 1) := by decide +kernel
theorem dX3_write_6 : decode cX3_write 6 = .ok (.invokestatic 79, 3) := by decide +kernel
theorem dX3_write_9 : decode cX3_write 9 = .ok (.ifCond .ne 9, 3) := by decide +kernel
theorem dX3_write_12 : decode cX3_write 12 = .ok (.aload_n 0, 1) := by decide +kernel
theorem dX3_write_13 : decode cX3_write 13 = .ok (.iconst 1, 1) := by decide +kernel
theorem dX3_write_14 : decode cX3_write 14 = .ok (.invokevirtual 40, 3) := by decide +kernel
theorem dX3_write_17 : decode cX3_write 17 = .ok (.ireturn, 1) := by decide +kernel
theorem dX3_write_18 : decode cX3_write 18 = .ok (.iload_n 2, 1) := by decide +kernel
theorem dX3_write_19 : decode cX3_write 19 = .ok (.invokestatic 83, 3) := by decide +kernel
theorem dX3_write_22 : decode cX3_write 22 = .ok (.ifCond .ne 9, 3) := by decide +kernel
theorem dX3_write_25 : decode cX3_write 25 = .ok (.aload_n 0, 1) := by decide +kernel
theorem dX3_write_26 : decode cX3_write 26 = .ok (.iconst 2, 1) := by decide +kernel
theorem dX3_write_27 : decode cX3_write 27 = .ok (.invokevirtual 40, 3) := by decide +kernel
theorem dX3_write_30 : decode cX3_write 30 = .ok (.ireturn, 1) := by decide +kernel
theorem dX3_write_31 : decode cX3_write 31 = .ok (.aload_n 0, 1) := by decide +kernel
theorem dX3_write_32 : decode cX3_write 32 = .ok (.invokevirtual 86, 3) := by decide +kernel
theorem dX3_write_35 : decode cX3_write 35 = .ok (.aload_n 0, 1) := by decide +kernel
theorem dX3_write_36 : decode cX3_write 36 = .ok (.getfield 7, 3) := by decide +kernel
theorem dX3_write_39 : decode cX3_write 39 = .ok (.iload_n 1, 1) := by decide +kernel
theorem dX3_write_40 : decode cX3_write 40 = .ok (.iload_n 2, 1) := by decide +kernel
theorem dX3_write_41 : decode cX3_write 41 = .ok (.invokestatic 89, 3) := by decide +kernel
theorem dX3_write_44 : decode cX3_write 44 = .ok (.ireturn, 1) := by decide +kernel
set_option maxRecDepth 20000 in
theorem ggX3_writeRow_X3_isPage : GoodIn wsX3_writeRow wsX3_isPage := goodIn_r _ [6, 7, 8, 5, 9] (by decide +kernel) (by decide +kernel)
set_option maxRecDepth 20000 in
theorem gX3_writeRow_X3_isPage : GoodIn wsX3_writeRow (va_wsS RX3 79 yX3_isPage wsX3_isPage) := goodIn_app (goodIn_of _ (by decide +kernel)) ggX3_writeRow_X3_isPage
set_option maxRecDepth 20000 in
theorem ggX3_writeRow_X3_fails : GoodIn wsX3_writeRow wsX3_fails := goodIn_r _ [13, 1, 59, 60, 61, 62, 63, 64, 65, 66, 67, 68, 69, 70] (by decide +kernel) (by decide +kernel)
set_option maxRecDepth 20000 in
theorem gX3_writeRow_X3_fails : GoodIn wsX3_writeRow (wsV RX3 40 RX3 yX3_fails wsX3_fails) := goodIn_app (goodIn_of _ (by decide +kernel)) ggX3_writeRow_X3_fails
set_option maxRecDepth 20000 in
theorem ggX3_writeRow_X3_in : GoodIn wsX3_writeRow wsX3_in := goodIn_r _ [9] (by decide +kernel) (by decide +kernel)
set_option maxRecDepth 20000 in
theorem gX3_writeRow_X3_in : GoodIn wsX3_writeRow (va_wsS RX3 29 yX3_in wsX3_in) := goodIn_app (goodIn_of _ (by decide +kernel)) ggX3_writeRow_X3_in
set_option maxRecDepth 20000 in
theorem ggX3_writeRow_X3_isHint : GoodIn wsX3_writeRow wsX3_isHint := goodIn_r _ [16, 7, 8, 5, 9] (by decide +kernel) (by decide +kernel)
set_option maxRecDepth 20000 in
theorem gX3_writeRow_X3_isHint : GoodIn wsX3_writeRow (va_wsS RX3 83 yX3_isHint wsX3_isHint) := goodIn_app (goodIn_of _ (by decide +kernel)) ggX3_writeRow_X3_isHint
set_option maxRecDepth 20000 in
theorem ggX3_writeRow_X3_saves : GoodIn wsX3_writeRow wsX3_saves := goodIn_r _ [20, 21, 22, 2, 23, 24, 5, 25, 59, 60, 61, 62, 63, 64, 65, 66, 67, 68, 69, 70] (by decide +kernel) (by decide +kernel)
set_option maxRecDepth 20000 in
theorem gX3_writeRow_X3_saves : GoodIn wsX3_writeRow (wsV RX3 86 RX3 yX3_saves wsX3_saves) := goodIn_app (goodIn_of _ (by decide +kernel)) ggX3_writeRow_X3_saves
set_option maxRecDepth 20000 in
theorem ggX3_writeRow_X3_writes : GoodIn wsX3_writeRow wsX3_writes := goodIn_r _ [28, 29, 30, 5, 31, 32, 33, 34, 35, 36, 37, 38, 39, 40, 41, 42, 43, 44, 45, 46, 47, 48, 49, 50, 51, 52, 53, 54, 55, 56, 57, 58] (by decide +kernel) (by decide +kernel)
set_option maxRecDepth 20000 in
theorem gX3_writeRow_X3_writes : GoodIn wsX3_writeRow (va_wsS RX3 89 yX3_writes wsX3_writes) := goodIn_app (goodIn_of _ (by decide +kernel)) ggX3_writeRow_X3_writes
theorem dX3_writeRow_0 : decode cX3_writeRow 0 = .ok (.aload_n 0, 1) := by decide +kernel
theorem dX3_writeRow_1 : decode cX3_writeRow 1 = .ok (.iconst 0, 1) := by decide +kernel
theorem dX3_writeRow_2 : decode cX3_writeRow 2 = .ok (.putfield 25, 3) := by decide +kernel
theorem dX3_writeRow_5 : decode cX3_writeRow 5 = .ok (.iload_n 1, 1) := by decide +kernel
theorem dX3_writeRow_6 : decode cX3_writeRow 6 = .ok (.invokestatic 79, 3) := by decide +kernel
theorem dX3_writeRow_9 : decode cX3_writeRow 9 = .ok (.ifCond .ne 9, 3) := by decide +kernel
theorem dX3_writeRow_12 : decode cX3_writeRow 12 = .ok (.aload_n 0, 1) := by decide +kernel
theorem dX3_writeRow_13 : decode cX3_writeRow 13 = .ok (.iconst 1, 1) := by decide +kernel
theorem dX3_writeRow_14 : decode cX3_writeRow 14 = .ok (.invokevirtual 40, 3) := by decide +kernel
theorem dX3_writeRow_17 : decode cX3_writeRow 17 = .ok (.ireturn, 1) := by decide +kernel
theorem dX3_writeRow_18 : decode cX3_writeRow 18 = .ok (.iload_n 2, 1) := by decide +kernel
theorem dX3_writeRow_19 : decode cX3_writeRow 19 = .ok (.iconst 1, 1) := by decide +kernel
theorem dX3_writeRow_20 : decode cX3_writeRow 20 = .ok (.bipush 40, 2) := by decide +kernel
theorem dX3_writeRow_22 : decode cX3_writeRow 22 = .ok (.iload_n 1, 1) := by decide +kernel
theorem dX3_writeRow_23 : decode cX3_writeRow 23 = .ok (.isub, 1) := by decide +kernel
theorem dX3_writeRow_24 : decode cX3_writeRow 24 = .ok (.invokestatic 29, 3) := by decide +kernel
theorem dX3_writeRow_27 : decode cX3_writeRow 27 = .ok (.ifCond .eq 10, 3) := by decide +kernel
theorem dX3_writeRow_30 : decode cX3_writeRow 30 = .ok (.iload_n 3, 1) := by decide +kernel
theorem dX3_writeRow_31 : decode cX3_writeRow 31 = .ok (.invokestatic 83, 3) := by decide +kernel
theorem dX3_writeRow_34 : decode cX3_writeRow 34 = .ok (.ifCond .ne 9, 3) := by decide +kernel
theorem dX3_writeRow_37 : decode cX3_writeRow 37 = .ok (.aload_n 0, 1) := by decide +kernel
theorem dX3_writeRow_38 : decode cX3_writeRow 38 = .ok (.iconst 2, 1) := by decide +kernel
theorem dX3_writeRow_39 : decode cX3_writeRow 39 = .ok (.invokevirtual 40, 3) := by decide +kernel
theorem dX3_writeRow_42 : decode cX3_writeRow 42 = .ok (.ireturn, 1) := by decide +kernel
theorem dX3_writeRow_43 : decode cX3_writeRow 43 = .ok (.aload_n 0, 1) := by decide +kernel
theorem dX3_writeRow_44 : decode cX3_writeRow 44 = .ok (.invokevirtual 86, 3) := by decide +kernel
theorem dX3_writeRow_47 : decode cX3_writeRow 47 = .ok (.iconst 0, 1) := by decide +kernel
theorem dX3_writeRow_48 : decode cX3_writeRow 48 = .ok (.istore 4, 2) := by decide +kernel
theorem dX3_writeRow_50 : decode cX3_writeRow 50 = .ok (.iload_n 1, 1) := by decide +kernel
theorem dX3_writeRow_51 : decode cX3_writeRow 51 = .ok (.istore 5, 2) := by decide +kernel
theorem dX3_writeRow_53 : decode cX3_writeRow 53 = .ok (.iload 5, 2) := by decide +kernel
theorem dX3_writeRow_55 : decode cX3_writeRow 55 = .ok (.iload_n 1, 1) := by decide +kernel
theorem dX3_writeRow_56 : decode cX3_writeRow 56 = .ok (.iload_n 2, 1) := by decide +kernel
theorem dX3_writeRow_57 : decode cX3_writeRow 57 = .ok (.iadd, 1) := by decide +kernel
theorem dX3_writeRow_58 : decode cX3_writeRow 58 = .ok (.if_icmp .ge 24, 3) := by decide +kernel
theorem dX3_writeRow_61 : decode cX3_writeRow 61 = .ok (.iload 4, 2) := by decide +kernel
theorem dX3_writeRow_63 : decode cX3_writeRow 63 = .ok (.aload_n 0, 1) := by decide +kernel
theorem dX3_writeRow_64 : decode cX3_writeRow 64 = .ok (.getfield 7, 3) := by decide +kernel
theorem dX3_writeRow_67 : decode cX3_writeRow 67 = .ok (.iload 5, 2) := by decide +kernel
theorem dX3_writeRow_69 : decode cX3_writeRow 69 = .ok (.iload_n 3, 1) := by decide +kernel
theorem dX3_writeRow_70 : decode cX3_writeRow 70 = .ok (.invokestatic 89, 3) := by decide +kernel
theorem dX3_writeRow_73 : decode cX3_writeRow 73 = .ok (.iadd, 1) := by decide +kernel
theorem dX3_writeRow_74 : decode cX3_writeRow 74 = .ok (.istore 4, 2) := by decide +kernel
theorem dX3_writeRow_76 : decode cX3_writeRow 76 = .ok (.iinc 5 1, 3) := by decide +kernel
theorem dX3_writeRow_79 : decode cX3_writeRow 79 = .ok (.goto (-26), 3) := by decide +kernel
theorem dX3_writeRow_82 : decode cX3_writeRow 82 = .ok (.iload 4, 2) := by decide +kernel
theorem dX3_writeRow_84 : decode cX3_writeRow 84 = .ok (.ireturn, 1) := by decide +kernel
set_option maxRecDepth 20000 in
theorem ggX3_trim_X3_isPage : GoodIn wsX3_trim wsX3_isPage := goodIn_r _ [6, 7, 8, 5, 9] (by decide +kernel) (by decide +kernel)
set_option maxRecDepth 20000 in
theorem gX3_trim_X3_isPage : GoodIn wsX3_trim (va_wsS RX3 79 yX3_isPage wsX3_isPage) := goodIn_app (goodIn_of _ (by decide +kernel)) ggX3_trim_X3_isPage
set_option maxRecDepth 20000 in
theorem ggX3_trim_X3_fails : GoodIn wsX3_trim wsX3_fails := goodIn_r _ [13, 1, 26, 27, 28, 29, 30, 31, 32, 33, 34, 35, 36, 37] (by decide +kernel) (by decide +kernel)
set_option maxRecDepth 20000 in
theorem gX3_trim_X3_fails : GoodIn wsX3_trim (wsV RX3 40 RX3 yX3_fails wsX3_fails) := goodIn_app (goodIn_of _ (by decide +kernel)) ggX3_trim_X3_fails
set_option maxRecDepth 20000 in
theorem ggX3_trim_X3_saves : GoodIn wsX3_trim wsX3_saves := goodIn_r _ [17, 18, 19, 2, 20, 21, 5, 22, 26, 27, 28, 29, 30, 31, 32, 33, 34, 35, 36, 37] (by decide +kernel) (by decide +kernel)
set_option maxRecDepth 20000 in
theorem gX3_trim_X3_saves : GoodIn wsX3_trim (wsV RX3 86 RX3 yX3_saves wsX3_saves) := goodIn_app (goodIn_of _ (by decide +kernel)) ggX3_trim_X3_saves
set_option maxRecDepth 20000 in
theorem ggX3_trim_X3_of : GoodIn wsX3_trim wsX3_of := goodIn_r _ [25] (by decide +kernel) (by decide +kernel)
set_option maxRecDepth 20000 in
theorem gX3_trim_X3_of : GoodIn wsX3_trim (va_wsS RX3 44 yX3_of wsX3_of) := goodIn_app (goodIn_of _ (by decide +kernel)) ggX3_trim_X3_of
theorem dX3_trim_0 : decode cX3_trim 0 = .ok (.aload_n 0, 1) := by decide +kernel
theorem dX3_trim_1 : decode cX3_trim 1 = .ok (.iconst 0, 1) := by decide +kernel
theorem dX3_trim_2 : decode cX3_trim 2 = .ok (.putfield 25, 3) := by decide +kernel
theorem dX3_trim_5 : decode cX3_trim 5 = .ok (.iload_n 1, 1) := by decide +kernel
theorem dX3_trim_6 : decode cX3_trim 6 = .ok (.invokestatic 79, 3) := by decide +kernel
theorem dX3_trim_9 : decode cX3_trim 9 = .ok (.ifCond .ne 9, 3) := by decide +kernel
theorem dX3_trim_12 : decode cX3_trim 12 = .ok (.aload_n 0, 1) := by decide +kernel
theorem dX3_trim_13 : decode cX3_trim 13 = .ok (.iconst 1, 1) := by decide +kernel
theorem dX3_trim_14 : decode cX3_trim 14 = .ok (.invokevirtual 40, 3) := by decide +kernel
theorem dX3_trim_17 : decode cX3_trim 17 = .ok (.ireturn, 1) := by decide +kernel
theorem dX3_trim_18 : decode cX3_trim 18 = .ok (.aload_n 0, 1) := by decide +kernel
theorem dX3_trim_19 : decode cX3_trim 19 = .ok (.invokevirtual 86, 3) := by decide +kernel
theorem dX3_trim_22 : decode cX3_trim 22 = .ok (.aload_n 0, 1) := by decide +kernel
theorem dX3_trim_23 : decode cX3_trim 23 = .ok (.getfield 7, 3) := by decide +kernel
theorem dX3_trim_26 : decode cX3_trim 26 = .ok (.iload_n 1, 1) := by decide +kernel
theorem dX3_trim_27 : decode cX3_trim 27 = .ok (.iconst 0, 1) := by decide +kernel
theorem dX3_trim_28 : decode cX3_trim 28 = .ok (.invokestatic 44, 3) := by decide +kernel
theorem dX3_trim_31 : decode cX3_trim 31 = .ok (.istore_n 2, 1) := by decide +kernel
theorem dX3_trim_32 : decode cX3_trim 32 = .ok (.aload_n 0, 1) := by decide +kernel
theorem dX3_trim_33 : decode cX3_trim 33 = .ok (.getfield 7, 3) := by decide +kernel
theorem dX3_trim_36 : decode cX3_trim 36 = .ok (.sipush 144, 3) := by decide +kernel
theorem dX3_trim_39 : decode cX3_trim 39 = .ok (.iconst 5, 1) := by decide +kernel
theorem dX3_trim_40 : decode cX3_trim 40 = .ok (.iload_n 1, 1) := by decide +kernel
theorem dX3_trim_41 : decode cX3_trim 41 = .ok (.imul, 1) := by decide +kernel
theorem dX3_trim_42 : decode cX3_trim 42 = .ok (.iadd, 1) := by decide +kernel
theorem dX3_trim_43 : decode cX3_trim 43 = .ok (.iconst 0, 1) := by decide +kernel
theorem dX3_trim_44 : decode cX3_trim 44 = .ok (.iadd, 1) := by decide +kernel
theorem dX3_trim_45 : decode cX3_trim 45 = .ok (.iconst (-1), 1) := by decide +kernel
theorem dX3_trim_46 : decode cX3_trim 46 = .ok (.iastore, 1) := by decide +kernel
theorem dX3_trim_47 : decode cX3_trim 47 = .ok (.aload_n 0, 1) := by decide +kernel
theorem dX3_trim_48 : decode cX3_trim 48 = .ok (.getfield 7, 3) := by decide +kernel
theorem dX3_trim_51 : decode cX3_trim 51 = .ok (.sipush 144, 3) := by decide +kernel
theorem dX3_trim_54 : decode cX3_trim 54 = .ok (.iconst 5, 1) := by decide +kernel
theorem dX3_trim_55 : decode cX3_trim 55 = .ok (.iload_n 1, 1) := by decide +kernel
theorem dX3_trim_56 : decode cX3_trim 56 = .ok (.imul, 1) := by decide +kernel
theorem dX3_trim_57 : decode cX3_trim 57 = .ok (.iadd, 1) := by decide +kernel
theorem dX3_trim_58 : decode cX3_trim 58 = .ok (.iconst 1, 1) := by decide +kernel
theorem dX3_trim_59 : decode cX3_trim 59 = .ok (.iadd, 1) := by decide +kernel
theorem dX3_trim_60 : decode cX3_trim 60 = .ok (.iconst (-1), 1) := by decide +kernel
theorem dX3_trim_61 : decode cX3_trim 61 = .ok (.iastore, 1) := by decide +kernel
theorem dX3_trim_62 : decode cX3_trim 62 = .ok (.aload_n 0, 1) := by decide +kernel
theorem dX3_trim_63 : decode cX3_trim 63 = .ok (.getfield 7, 3) := by decide +kernel
theorem dX3_trim_66 : decode cX3_trim 66 = .ok (.sipush 144, 3) := by decide +kernel
theorem dX3_trim_69 : decode cX3_trim 69 = .ok (.iconst 5, 1) := by decide +kernel
theorem dX3_trim_70 : decode cX3_trim 70 = .ok (.iload_n 1, 1) := by decide +kernel
theorem dX3_trim_71 : decode cX3_trim 71 = .ok (.imul, 1) := by decide +kernel
theorem dX3_trim_72 : decode cX3_trim 72 = .ok (.iadd, 1) := by decide +kernel
theorem dX3_trim_73 : decode cX3_trim 73 = .ok (.iconst 4, 1) := by decide +kernel
theorem dX3_trim_74 : decode cX3_trim 74 = .ok (.iadd, 1) := by decide +kernel
theorem dX3_trim_75 : decode cX3_trim 75 = .ok (.iconst 0, 1) := by decide +kernel
theorem dX3_trim_76 : decode cX3_trim 76 = .ok (.iastore, 1) := by decide +kernel
theorem dX3_trim_77 : decode cX3_trim 77 = .ok (.iload_n 2, 1) := by decide +kernel
theorem dX3_trim_78 : decode cX3_trim 78 = .ok (.iconst (-1), 1) := by decide +kernel
theorem dX3_trim_79 : decode cX3_trim 79 = .ok (.if_icmp .ne 7, 3) := by decide +kernel
theorem dX3_trim_82 : decode cX3_trim 82 = .ok (.iconst (-1), 1) := by decide +kernel
theorem dX3_trim_83 : decode cX3_trim 83 = .ok (.goto 7, 3) := by decide +kernel
theorem dX3_trim_86 : decode cX3_trim 86 = .ok (.iload_n 2, 1) := by decide +kernel
theorem dX3_trim_87 : decode cX3_trim 87 = .ok (.bipush 8, 2) := by decide +kernel
theorem dX3_trim_89 : decode cX3_trim 89 = .ok (.idiv, 1) := by decide +kernel
theorem dX3_trim_90 : decode cX3_trim 90 = .ok (.ireturn, 1) := by decide +kernel
set_option maxRecDepth 20000 in
theorem ggX3_hint_X3_isPage : GoodIn wsX3_hint wsX3_isPage := goodIn_r _ [6, 7, 8, 5, 9] (by decide +kernel) (by decide +kernel)
set_option maxRecDepth 20000 in
theorem gX3_hint_X3_isPage : GoodIn wsX3_hint (va_wsS RX3 79 yX3_isPage wsX3_isPage) := goodIn_app (goodIn_of _ (by decide +kernel)) ggX3_hint_X3_isPage
set_option maxRecDepth 20000 in
theorem ggX3_hint_X3_fails : GoodIn wsX3_hint wsX3_fails := goodIn_r _ [13, 1, 32, 33, 34, 35, 36, 37, 38, 39, 40, 41, 42, 43] (by decide +kernel) (by decide +kernel)
set_option maxRecDepth 20000 in
theorem gX3_hint_X3_fails : GoodIn wsX3_hint (wsV RX3 40 RX3 yX3_fails wsX3_fails) := goodIn_app (goodIn_of _ (by decide +kernel)) ggX3_hint_X3_fails
set_option maxRecDepth 20000 in
theorem ggX3_hint_X3_isHint : GoodIn wsX3_hint wsX3_isHint := goodIn_r _ [16, 7, 8, 5, 9] (by decide +kernel) (by decide +kernel)
set_option maxRecDepth 20000 in
theorem gX3_hint_X3_isHint : GoodIn wsX3_hint (va_wsS RX3 83 yX3_isHint wsX3_isHint) := goodIn_app (goodIn_of _ (by decide +kernel)) ggX3_hint_X3_isHint
set_option maxRecDepth 20000 in
theorem ggX3_hint_X3_isWritten : GoodIn wsX3_hint wsX3_isWritten := goodIn_r _ [19, 20, 21, 5, 22] (by decide +kernel) (by decide +kernel)
set_option maxRecDepth 20000 in
theorem gX3_hint_X3_isWritten : GoodIn wsX3_hint (va_wsS RX3 92 yX3_isWritten wsX3_isWritten) := goodIn_app (goodIn_of _ (by decide +kernel)) ggX3_hint_X3_isWritten
set_option maxRecDepth 20000 in
theorem ggX3_hint_X3_saves : GoodIn wsX3_hint wsX3_saves := goodIn_r _ [26, 27, 28, 2, 29, 30, 5, 31, 32, 33, 34, 35, 36, 37, 38, 39, 40, 41, 42, 43] (by decide +kernel) (by decide +kernel)
set_option maxRecDepth 20000 in
theorem gX3_hint_X3_saves : GoodIn wsX3_hint (wsV RX3 86 RX3 yX3_saves wsX3_saves) := goodIn_app (goodIn_of _ (by decide +kernel)) ggX3_hint_X3_saves
set_option maxRecDepth 20000 in
theorem ggX3_hint_X3_of : GoodIn wsX3_hint wsX3_of := goodIn_r _ [22] (by decide +kernel) (by decide +kernel)
set_option maxRecDepth 20000 in
theorem gX3_hint_X3_of : GoodIn wsX3_hint (va_wsS RX3 44 yX3_of wsX3_of) := goodIn_app (goodIn_of _ (by decide +kernel)) ggX3_hint_X3_of
theorem dX3_hint_0 : decode cX3_hint 0 = .ok (.aload_n 0, 1) := by decide +kernel
theorem dX3_hint_1 : decode cX3_hint 1 = .ok (.iconst 0, 1) := by decide +kernel
theorem dX3_hint_2 : decode cX3_hint 2 = .ok (.putfield 25, 3) := by decide +kernel
theorem dX3_hint_5 : decode cX3_hint 5 = .ok (.iload_n 1, 1) := by decide +kernel
theorem dX3_hint_6 : decode cX3_hint 6 = .ok (.invokestatic 79, 3) := by decide +kernel
theorem dX3_hint_9 : decode cX3_hint 9 = .ok (.ifCond .ne 9, 3) := by decide +kernel
theorem dX3_hint_12 : decode cX3_hint 12 = .ok (.aload_n 0, 1) := by decide +kernel
theorem dX3_hint_13 : decode cX3_hint 13 = .ok (.iconst 1, 1) := by decide +kernel
theorem dX3_hint_14 : decode cX3_hint 14 = .ok (.invokevirtual 40, 3) := by decide +kernel
theorem dX3_hint_17 : decode cX3_hint 17 = .ok (.ireturn, 1) := by decide +kernel
theorem dX3_hint_18 : decode cX3_hint 18 = .ok (.iload_n 2, 1) := by decide +kernel
theorem dX3_hint_19 : decode cX3_hint 19 = .ok (.invokestatic 83, 3) := by decide +kernel
theorem dX3_hint_22 : decode cX3_hint 22 = .ok (.ifCond .ne 9, 3) := by decide +kernel
theorem dX3_hint_25 : decode cX3_hint 25 = .ok (.aload_n 0, 1) := by decide +kernel
theorem dX3_hint_26 : decode cX3_hint 26 = .ok (.iconst 2, 1) := by decide +kernel
theorem dX3_hint_27 : decode cX3_hint 27 = .ok (.invokevirtual 40, 3) := by decide +kernel
theorem dX3_hint_30 : decode cX3_hint 30 = .ok (.ireturn, 1) := by decide +kernel
theorem dX3_hint_31 : decode cX3_hint 31 = .ok (.aload_n 0, 1) := by decide +kernel
theorem dX3_hint_32 : decode cX3_hint 32 = .ok (.getfield 7, 3) := by decide +kernel
theorem dX3_hint_35 : decode cX3_hint 35 = .ok (.iload_n 1, 1) := by decide +kernel
theorem dX3_hint_36 : decode cX3_hint 36 = .ok (.invokestatic 92, 3) := by decide +kernel
theorem dX3_hint_39 : decode cX3_hint 39 = .ok (.ifCond .ne 9, 3) := by decide +kernel
theorem dX3_hint_42 : decode cX3_hint 42 = .ok (.aload_n 0, 1) := by decide +kernel
theorem dX3_hint_43 : decode cX3_hint 43 = .ok (.iconst 3, 1) := by decide +kernel
theorem dX3_hint_44 : decode cX3_hint 44 = .ok (.invokevirtual 40, 3) := by decide +kernel
theorem dX3_hint_47 : decode cX3_hint 47 = .ok (.ireturn, 1) := by decide +kernel
theorem dX3_hint_48 : decode cX3_hint 48 = .ok (.aload_n 0, 1) := by decide +kernel
theorem dX3_hint_49 : decode cX3_hint 49 = .ok (.invokevirtual 86, 3) := by decide +kernel
theorem dX3_hint_52 : decode cX3_hint 52 = .ok (.aload_n 0, 1) := by decide +kernel
theorem dX3_hint_53 : decode cX3_hint 53 = .ok (.getfield 7, 3) := by decide +kernel
theorem dX3_hint_56 : decode cX3_hint 56 = .ok (.iload_n 1, 1) := by decide +kernel
theorem dX3_hint_57 : decode cX3_hint 57 = .ok (.iconst 1, 1) := by decide +kernel
theorem dX3_hint_58 : decode cX3_hint 58 = .ok (.invokestatic 44, 3) := by decide +kernel
theorem dX3_hint_61 : decode cX3_hint 61 = .ok (.istore_n 3, 1) := by decide +kernel
theorem dX3_hint_62 : decode cX3_hint 62 = .ok (.aload_n 0, 1) := by decide +kernel
theorem dX3_hint_63 : decode cX3_hint 63 = .ok (.getfield 7, 3) := by decide +kernel
theorem dX3_hint_66 : decode cX3_hint 66 = .ok (.sipush 144, 3) := by decide +kernel
theorem dX3_hint_69 : decode cX3_hint 69 = .ok (.iconst 5, 1) := by decide +kernel
theorem dX3_hint_70 : decode cX3_hint 70 = .ok (.iload_n 1, 1) := by decide +kernel
theorem dX3_hint_71 : decode cX3_hint 71 = .ok (.imul, 1) := by decide +kernel
theorem dX3_hint_72 : decode cX3_hint 72 = .ok (.iadd, 1) := by decide +kernel
theorem dX3_hint_73 : decode cX3_hint 73 = .ok (.iconst 1, 1) := by decide +kernel
theorem dX3_hint_74 : decode cX3_hint 74 = .ok (.iadd, 1) := by decide +kernel
theorem dX3_hint_75 : decode cX3_hint 75 = .ok (.iload_n 2, 1) := by decide +kernel
theorem dX3_hint_76 : decode cX3_hint 76 = .ok (.iastore, 1) := by decide +kernel
theorem dX3_hint_77 : decode cX3_hint 77 = .ok (.iload_n 3, 1) := by decide +kernel
theorem dX3_hint_78 : decode cX3_hint 78 = .ok (.ireturn, 1) := by decide +kernel
set_option maxRecDepth 20000 in
theorem ggX3_collect_X3_isBlock : GoodIn wsX3_collect wsX3_isBlock := goodIn_r _ [6, 7, 8, 5, 9] (by decide +kernel) (by decide +kernel)
set_option maxRecDepth 20000 in
theorem gX3_collect_X3_isBlock : GoodIn wsX3_collect (va_wsS RX3 95 yX3_isBlock wsX3_isBlock) := goodIn_app (goodIn_of _ (by decide +kernel)) ggX3_collect_X3_isBlock
set_option maxRecDepth 20000 in
theorem ggX3_collect_X3_fails : GoodIn wsX3_collect wsX3_fails := goodIn_r _ [13, 1, 38, 39, 40, 41, 42, 43, 44, 45, 46, 47, 48, 49] (by decide +kernel) (by decide +kernel)
set_option maxRecDepth 20000 in
theorem gX3_collect_X3_fails : GoodIn wsX3_collect (wsV RX3 40 RX3 yX3_fails wsX3_fails) := goodIn_app (goodIn_of _ (by decide +kernel)) ggX3_collect_X3_fails
set_option maxRecDepth 20000 in
theorem ggX3_collect_X3_saves : GoodIn wsX3_collect wsX3_saves := goodIn_r _ [17, 18, 19, 2, 20, 21, 5, 22, 38, 39, 40, 41, 42, 43, 44, 45, 46, 47, 48, 49] (by decide +kernel) (by decide +kernel)
set_option maxRecDepth 20000 in
theorem gX3_collect_X3_saves : GoodIn wsX3_collect (wsV RX3 86 RX3 yX3_saves wsX3_saves) := goodIn_app (goodIn_of _ (by decide +kernel)) ggX3_collect_X3_saves
set_option maxRecDepth 20000 in
theorem ggX3_collect_X3_collects : GoodIn wsX3_collect wsX3_collects := goodIn_r _ [25, 26, 27, 5, 28, 29, 30, 31, 32, 33, 34, 35, 36, 37] (by decide +kernel) (by decide +kernel)
set_option maxRecDepth 20000 in
theorem gX3_collect_X3_collects : GoodIn wsX3_collect (va_wsS RX3 73 yX3_collects wsX3_collects) := goodIn_app (goodIn_of _ (by decide +kernel)) ggX3_collect_X3_collects
theorem dX3_collect_0 : decode cX3_collect 0 = .ok (.aload_n 0, 1) := by decide +kernel
theorem dX3_collect_1 : decode cX3_collect 1 = .ok (.iconst 0, 1) := by decide +kernel
theorem dX3_collect_2 : decode cX3_collect 2 = .ok (.putfield 25, 3) := by decide +kernel
theorem dX3_collect_5 : decode cX3_collect 5 = .ok (.iload_n 1, 1) := by decide +kernel
theorem dX3_collect_6 : decode cX3_collect 6 = .ok (.invokestatic 95, 3) := by decide +kernel
theorem dX3_collect_9 : decode cX3_collect 9 = .ok (.ifCond .ne 9, 3) := by decide +kernel
theorem dX3_collect_12 : decode cX3_collect 12 = .ok (.aload_n 0, 1) := by decide +kernel
theorem dX3_collect_13 : decode cX3_collect 13 = .ok (.iconst 1, 1) := by decide +kernel
theorem dX3_collect_14 : decode cX3_collect 14 = .ok (.invokevirtual 40, 3) := by decide +kernel
theorem dX3_collect_17 : decode cX3_collect 17 = .ok (.ireturn, 1) := by decide +kernel
theorem dX3_collect_18 : decode cX3_collect 18 = .ok (.aload_n 0, 1) := by decide +kernel
theorem dX3_collect_19 : decode cX3_collect 19 = .ok (.getfield 7, 3) := by decide +kernel
theorem dX3_collect_22 : decode cX3_collect 22 = .ok (.bipush 96, 2) := by decide +kernel
theorem dX3_collect_24 : decode cX3_collect 24 = .ok (.iload_n 1, 1) := by decide +kernel
theorem dX3_collect_25 : decode cX3_collect 25 = .ok (.iadd, 1) := by decide +kernel
theorem dX3_collect_26 : decode cX3_collect 26 = .ok (.iaload, 1) := by decide +kernel
theorem dX3_collect_27 : decode cX3_collect 27 = .ok (.iconst 2, 1) := by decide +kernel
theorem dX3_collect_28 : decode cX3_collect 28 = .ok (.if_icmp .eq 9, 3) := by decide +kernel
theorem dX3_collect_31 : decode cX3_collect 31 = .ok (.aload_n 0, 1) := by decide +kernel
theorem dX3_collect_32 : decode cX3_collect 32 = .ok (.iconst 2, 1) := by decide +kernel
theorem dX3_collect_33 : decode cX3_collect 33 = .ok (.invokevirtual 40, 3) := by decide +kernel
theorem dX3_collect_36 : decode cX3_collect 36 = .ok (.ireturn, 1) := by decide +kernel
theorem dX3_collect_37 : decode cX3_collect 37 = .ok (.aload_n 0, 1) := by decide +kernel
theorem dX3_collect_38 : decode cX3_collect 38 = .ok (.invokevirtual 86, 3) := by decide +kernel
theorem dX3_collect_41 : decode cX3_collect 41 = .ok (.aload_n 0, 1) := by decide +kernel
theorem dX3_collect_42 : decode cX3_collect 42 = .ok (.getfield 7, 3) := by decide +kernel
theorem dX3_collect_45 : decode cX3_collect 45 = .ok (.iload_n 1, 1) := by decide +kernel
theorem dX3_collect_46 : decode cX3_collect 46 = .ok (.invokestatic 73, 3) := by decide +kernel
theorem dX3_collect_49 : decode cX3_collect 49 = .ok (.ireturn, 1) := by decide +kernel
set_option maxRecDepth 20000 in
theorem ggX3_tidy_X3_in : GoodIn wsX3_tidy wsX3_in := goodIn_r _ [6] (by decide +kernel) (by decide +kernel)
set_option maxRecDepth 20000 in
theorem gX3_tidy_X3_in : GoodIn wsX3_tidy (va_wsS RX3 29 yX3_in wsX3_in) := goodIn_app (goodIn_of _ (by decide +kernel)) ggX3_tidy_X3_in
set_option maxRecDepth 20000 in
theorem ggX3_tidy_X3_fails : GoodIn wsX3_tidy wsX3_fails := goodIn_r _ [10, 1, 50, 51, 52, 53, 54, 55, 56, 57, 58, 59, 60, 61] (by decide +kernel) (by decide +kernel)
set_option maxRecDepth 20000 in
theorem gX3_tidy_X3_fails : GoodIn wsX3_tidy (wsV RX3 40 RX3 yX3_fails wsX3_fails) := goodIn_app (goodIn_of _ (by decide +kernel)) ggX3_tidy_X3_fails
set_option maxRecDepth 20000 in
theorem ggX3_tidy_X3_saves : GoodIn wsX3_tidy wsX3_saves := goodIn_r _ [14, 15, 16, 2, 17, 18, 5, 19, 50, 51, 52, 53, 54, 55, 56, 57, 58, 59, 60, 61] (by decide +kernel) (by decide +kernel)
set_option maxRecDepth 20000 in
theorem gX3_tidy_X3_saves : GoodIn wsX3_tidy (wsV RX3 86 RX3 yX3_saves wsX3_saves) := goodIn_app (goodIn_of _ (by decide +kernel)) ggX3_tidy_X3_saves
set_option maxRecDepth 20000 in
theorem ggX3_tidy_X3_frees : GoodIn wsX3_tidy wsX3_frees := goodIn_r _ [22, 23, 24, 5, 25, 26, 27, 28, 29, 30, 31, 32, 33, 34, 35, 36, 37, 38, 39, 40, 41, 42, 43, 44, 45, 46, 47, 48, 49] (by decide +kernel) (by decide +kernel)
set_option maxRecDepth 20000 in
theorem gX3_tidy_X3_frees : GoodIn wsX3_tidy (va_wsS RX3 76 yX3_frees wsX3_frees) := goodIn_app (goodIn_of _ (by decide +kernel)) ggX3_tidy_X3_frees
theorem dX3_tidy_0 : decode cX3_tidy 0 = .ok (.aload_n 0, 1) := by decide +kernel
theorem dX3_tidy_1 : decode cX3_tidy 1 = .ok (.iconst 0, 1) := by decide +kernel
theorem dX3_tidy_2 : decode cX3_tidy 2 = .ok (.putfield 25, 3) := by decide +kernel
theorem dX3_tidy_5 : decode cX3_tidy 5 = .ok (.iload_n 1, 1) := by decide +kernel
theorem dX3_tidy_6 : decode cX3_tidy 6 = .ok (.iconst 1, 1) := by decide +kernel
theorem dX3_tidy_7 : decode cX3_tidy 7 = .ok (.bipush 12, 2) := by decide +kernel
theorem dX3_tidy_9 : decode cX3_tidy 9 = .ok (.invokestatic 29, 3) := by decide +kernel
theorem dX3_tidy_12 : decode cX3_tidy 12 = .ok (.ifCond .ne 9, 3) := by decide +kernel
theorem dX3_tidy_15 : decode cX3_tidy 15 = .ok (.aload_n 0, 1) := by decide +kernel
theorem dX3_tidy_16 : decode cX3_tidy 16 = .ok (.iconst 1, 1) := by decide +kernel
theorem dX3_tidy_17 : decode cX3_tidy 17 = .ok (.invokevirtual 40, 3) := by decide +kernel
theorem dX3_tidy_20 : decode cX3_tidy 20 = .ok (.ireturn, 1) := by decide +kernel
theorem dX3_tidy_21 : decode cX3_tidy 21 = .ok (.aload_n 0, 1) := by decide +kernel
theorem dX3_tidy_22 : decode cX3_tidy 22 = .ok (.invokevirtual 86, 3) := by decide +kernel
theorem dX3_tidy_25 : decode cX3_tidy 25 = .ok (.aload_n 0, 1) := by decide +kernel
theorem dX3_tidy_26 : decode cX3_tidy 26 = .ok (.getfield 7, 3) := by decide +kernel
theorem dX3_tidy_29 : decode cX3_tidy 29 = .ok (.sipush 362, 3) := by decide +kernel
theorem dX3_tidy_32 : decode cX3_tidy 32 = .ok (.iaload, 1) := by decide +kernel
theorem dX3_tidy_33 : decode cX3_tidy 33 = .ok (.istore_n 2, 1) := by decide +kernel
theorem dX3_tidy_34 : decode cX3_tidy 34 = .ok (.aload_n 0, 1) := by decide +kernel
theorem dX3_tidy_35 : decode cX3_tidy 35 = .ok (.getfield 7, 3) := by decide +kernel
theorem dX3_tidy_38 : decode cX3_tidy 38 = .ok (.iload_n 1, 1) := by decide +kernel
theorem dX3_tidy_39 : decode cX3_tidy 39 = .ok (.invokestatic 76, 3) := by decide +kernel
theorem dX3_tidy_42 : decode cX3_tidy 42 = .ok (.istore_n 3, 1) := by decide +kernel
theorem dX3_tidy_43 : decode cX3_tidy 43 = .ok (.iload_n 3, 1) := by decide +kernel
theorem dX3_tidy_44 : decode cX3_tidy 44 = .ok (.ifCond .ge 7, 3) := by decide +kernel
theorem dX3_tidy_47 : decode cX3_tidy 47 = .ok (.iload_n 3, 1) := by decide +kernel
theorem dX3_tidy_48 : decode cX3_tidy 48 = .ok (.goto 13, 3) := by decide +kernel
theorem dX3_tidy_51 : decode cX3_tidy 51 = .ok (.aload_n 0, 1) := by decide +kernel
theorem dX3_tidy_52 : decode cX3_tidy 52 = .ok (.getfield 7, 3) := by decide +kernel
theorem dX3_tidy_55 : decode cX3_tidy 55 = .ok (.sipush 362, 3) := by decide +kernel
theorem dX3_tidy_58 : decode cX3_tidy 58 = .ok (.iaload, 1) := by decide +kernel
theorem dX3_tidy_59 : decode cX3_tidy 59 = .ok (.iload_n 2, 1) := by decide +kernel
theorem dX3_tidy_60 : decode cX3_tidy 60 = .ok (.isub, 1) := by decide +kernel
theorem dX3_tidy_61 : decode cX3_tidy 61 = .ok (.ireturn, 1) := by decide +kernel
set_option maxRecDepth 20000 in
theorem ggX3_set_X3_in : GoodIn wsX3_set wsX3_in := goodIn_r _ [6] (by decide +kernel) (by decide +kernel)
set_option maxRecDepth 20000 in
theorem gX3_set_X3_in : GoodIn wsX3_set (va_wsS RX3 29 yX3_in wsX3_in) := goodIn_app (goodIn_of _ (by decide +kernel)) ggX3_set_X3_in
set_option maxRecDepth 20000 in
theorem ggX3_set_X3_fails : GoodIn wsX3_set wsX3_fails := goodIn_r _ [10, 1, 20, 21, 22, 23, 24, 25, 26, 27, 28, 29, 30, 31] (by decide +kernel) (by decide +kernel)
set_option maxRecDepth 20000 in
theorem gX3_set_X3_fails : GoodIn wsX3_set (wsV RX3 40 RX3 yX3_fails wsX3_fails) := goodIn_app (goodIn_of _ (by decide +kernel)) ggX3_set_X3_fails
set_option maxRecDepth 20000 in
theorem ggX3_set_X3_saves : GoodIn wsX3_set wsX3_saves := goodIn_r _ [14, 15, 16, 2, 17, 18, 5, 19, 20, 21, 22, 23, 24, 25, 26, 27, 28, 29, 30, 31] (by decide +kernel) (by decide +kernel)
set_option maxRecDepth 20000 in
theorem gX3_set_X3_saves : GoodIn wsX3_set (wsV RX3 86 RX3 yX3_saves wsX3_saves) := goodIn_app (goodIn_of _ (by decide +kernel)) ggX3_set_X3_saves
theorem dX3_set_0 : decode cX3_set 0 = .ok (.aload_n 0, 1) := by decide +kernel
theorem dX3_set_1 : decode cX3_set 1 = .ok (.iconst 0, 1) := by decide +kernel
theorem dX3_set_2 : decode cX3_set 2 = .ok (.putfield 25, 3) := by decide +kernel
theorem dX3_set_5 : decode cX3_set 5 = .ok (.iload_n 1, 1) := by decide +kernel
theorem dX3_set_6 : decode cX3_set 6 = .ok (.iconst 0, 1) := by decide +kernel
theorem dX3_set_7 : decode cX3_set 7 = .ok (.iconst 1, 1) := by decide +kernel
theorem dX3_set_8 : decode cX3_set 8 = .ok (.invokestatic 29, 3) := by decide +kernel
theorem dX3_set_11 : decode cX3_set 11 = .ok (.ifCond .ne 9, 3) := by decide +kernel
theorem dX3_set_14 : decode cX3_set 14 = .ok (.aload_n 0, 1) := by decide +kernel
theorem dX3_set_15 : decode cX3_set 15 = .ok (.iconst 1, 1) := by decide +kernel
theorem dX3_set_16 : decode cX3_set 16 = .ok (.invokevirtual 40, 3) := by decide +kernel
theorem dX3_set_19 : decode cX3_set 19 = .ok (.ireturn, 1) := by decide +kernel
theorem dX3_set_20 : decode cX3_set 20 = .ok (.iload_n 1, 1) := by decide +kernel
theorem dX3_set_21 : decode cX3_set 21 = .ok (.ifCond .ne 15, 3) := by decide +kernel
theorem dX3_set_24 : decode cX3_set 24 = .ok (.iload_n 2, 1) := by decide +kernel
theorem dX3_set_25 : decode cX3_set 25 = .ok (.iconst 0, 1) := by decide +kernel
theorem dX3_set_26 : decode cX3_set 26 = .ok (.iconst 2, 1) := by decide +kernel
theorem dX3_set_27 : decode cX3_set 27 = .ok (.invokestatic 29, 3) := by decide +kernel
theorem dX3_set_30 : decode cX3_set 30 = .ok (.ifCond .ne 21, 3) := by decide +kernel
theorem dX3_set_33 : decode cX3_set 33 = .ok (.goto 12, 3) := by decide +kernel
theorem dX3_set_36 : decode cX3_set 36 = .ok (.iload_n 2, 1) := by decide +kernel
theorem dX3_set_37 : decode cX3_set 37 = .ok (.iconst 2, 1) := by decide +kernel
theorem dX3_set_38 : decode cX3_set 38 = .ok (.iconst 4, 1) := by decide +kernel
theorem dX3_set_39 : decode cX3_set 39 = .ok (.invokestatic 29, 3) := by decide +kernel
theorem dX3_set_42 : decode cX3_set 42 = .ok (.ifCond .ne 9, 3) := by decide +kernel
theorem dX3_set_45 : decode cX3_set 45 = .ok (.aload_n 0, 1) := by decide +kernel
theorem dX3_set_46 : decode cX3_set 46 = .ok (.iconst 2, 1) := by decide +kernel
theorem dX3_set_47 : decode cX3_set 47 = .ok (.invokevirtual 40, 3) := by decide +kernel
theorem dX3_set_50 : decode cX3_set 50 = .ok (.ireturn, 1) := by decide +kernel
theorem dX3_set_51 : decode cX3_set 51 = .ok (.aload_n 0, 1) := by decide +kernel
theorem dX3_set_52 : decode cX3_set 52 = .ok (.invokevirtual 86, 3) := by decide +kernel
theorem dX3_set_55 : decode cX3_set 55 = .ok (.aload_n 0, 1) := by decide +kernel
theorem dX3_set_56 : decode cX3_set 56 = .ok (.getfield 7, 3) := by decide +kernel
theorem dX3_set_59 : decode cX3_set 59 = .ok (.sipush 358, 3) := by decide +kernel
theorem dX3_set_62 : decode cX3_set 62 = .ok (.iload_n 1, 1) := by decide +kernel
theorem dX3_set_63 : decode cX3_set 63 = .ok (.iadd, 1) := by decide +kernel
theorem dX3_set_64 : decode cX3_set 64 = .ok (.iaload, 1) := by decide +kernel
theorem dX3_set_65 : decode cX3_set 65 = .ok (.istore_n 3, 1) := by decide +kernel
theorem dX3_set_66 : decode cX3_set 66 = .ok (.aload_n 0, 1) := by decide +kernel
theorem dX3_set_67 : decode cX3_set 67 = .ok (.getfield 7, 3) := by decide +kernel
theorem dX3_set_70 : decode cX3_set 70 = .ok (.sipush 358, 3) := by decide +kernel
theorem dX3_set_73 : decode cX3_set 73 = .ok (.iload_n 1, 1) := by decide +kernel
theorem dX3_set_74 : decode cX3_set 74 = .ok (.iadd, 1) := by decide +kernel
theorem dX3_set_75 : decode cX3_set 75 = .ok (.iload_n 2, 1) := by decide +kernel
theorem dX3_set_76 : decode cX3_set 76 = .ok (.iastore, 1) := by decide +kernel
theorem dX3_set_77 : decode cX3_set 77 = .ok (.iload_n 3, 1) := by decide +kernel
theorem dX3_set_78 : decode cX3_set 78 = .ok (.ireturn, 1) := by decide +kernel
set_option maxRecDepth 20000 in
theorem ggX3_append_X3_in : GoodIn wsX3_append wsX3_in := goodIn_r _ [7] (by decide +kernel) (by decide +kernel)
set_option maxRecDepth 20000 in
theorem gX3_append_X3_in : GoodIn wsX3_append (va_wsS RX3 29 yX3_in wsX3_in) := goodIn_app (goodIn_of _ (by decide +kernel)) ggX3_append_X3_in
set_option maxRecDepth 20000 in
theorem ggX3_append_X3_fails : GoodIn wsX3_append wsX3_fails := goodIn_r _ [11, 1, 12, 13, 14, 15, 16, 17, 18, 19, 20, 21, 22, 23] (by decide +kernel) (by decide +kernel)
set_option maxRecDepth 20000 in
theorem gX3_append_X3_fails : GoodIn wsX3_append (wsV RX3 40 RX3 yX3_fails wsX3_fails) := goodIn_app (goodIn_of _ (by decide +kernel)) ggX3_append_X3_fails
theorem dX3_append_0 : decode cX3_append 0 = .ok (.aload_n 0, 1) := by decide +kernel
theorem dX3_append_1 : decode cX3_append 1 = .ok (.iconst 0, 1) := by decide +kernel
theorem dX3_append_2 : decode cX3_append 2 = .ok (.putfield 25, 3) := by decide +kernel
theorem dX3_append_5 : decode cX3_append 5 = .ok (.iload_n 1, 1) := by decide +kernel
theorem dX3_append_6 : decode cX3_append 6 = .ok (.bipush 33, 2) := by decide +kernel
theorem dX3_append_8 : decode cX3_append 8 = .ok (.bipush 126, 2) := by decide +kernel
theorem dX3_append_10 : decode cX3_append 10 = .ok (.invokestatic 29, 3) := by decide +kernel
theorem dX3_append_13 : decode cX3_append 13 = .ok (.ifCond .ne 9, 3) := by decide +kernel
theorem dX3_append_16 : decode cX3_append 16 = .ok (.aload_n 0, 1) := by decide +kernel
theorem dX3_append_17 : decode cX3_append 17 = .ok (.iconst 1, 1) := by decide +kernel
theorem dX3_append_18 : decode cX3_append 18 = .ok (.invokevirtual 40, 3) := by decide +kernel
theorem dX3_append_21 : decode cX3_append 21 = .ok (.ireturn, 1) := by decide +kernel
theorem dX3_append_22 : decode cX3_append 22 = .ok (.aload_n 0, 1) := by decide +kernel
theorem dX3_append_23 : decode cX3_append 23 = .ok (.getfield 98, 3) := by decide +kernel
theorem dX3_append_26 : decode cX3_append 26 = .ok (.bipush 60, 2) := by decide +kernel
theorem dX3_append_28 : decode cX3_append 28 = .ok (.if_icmp .ne 9, 3) := by decide +kernel
theorem dX3_append_31 : decode cX3_append 31 = .ok (.aload_n 0, 1) := by decide +kernel
theorem dX3_append_32 : decode cX3_append 32 = .ok (.iconst 2, 1) := by decide +kernel
theorem dX3_append_33 : decode cX3_append 33 = .ok (.invokevirtual 40, 3) := by decide +kernel
theorem dX3_append_36 : decode cX3_append 36 = .ok (.ireturn, 1) := by decide +kernel
theorem dX3_append_37 : decode cX3_append 37 = .ok (.aload_n 0, 1) := by decide +kernel
theorem dX3_append_38 : decode cX3_append 38 = .ok (.getfield 19, 3) := by decide +kernel
theorem dX3_append_41 : decode cX3_append 41 = .ok (.aload_n 0, 1) := by decide +kernel
theorem dX3_append_42 : decode cX3_append 42 = .ok (.getfield 98, 3) := by decide +kernel
theorem dX3_append_45 : decode cX3_append 45 = .ok (.iload_n 1, 1) := by decide +kernel
theorem dX3_append_46 : decode cX3_append 46 = .ok (.iastore, 1) := by decide +kernel
theorem dX3_append_47 : decode cX3_append 47 = .ok (.aload_n 0, 1) := by decide +kernel
theorem dX3_append_48 : decode cX3_append 48 = .ok (.dup, 1) := by decide +kernel
theorem dX3_append_49 : decode cX3_append 49 = .ok (.getfield 98, 3) := by decide +kernel
theorem dX3_append_52 : decode cX3_append 52 = .ok (.iconst 1, 1) := by decide +kernel
theorem dX3_append_53 : decode cX3_append 53 = .ok (.iadd, 1) := by decide +kernel
theorem dX3_append_54 : decode cX3_append 54 = .ok (.putfield 98, 3) := by decide +kernel
theorem dX3_append_57 : decode cX3_append 57 = .ok (.aload_n 0, 1) := by decide +kernel
theorem dX3_append_58 : decode cX3_append 58 = .ok (.getfield 98, 3) := by decide +kernel
theorem dX3_append_61 : decode cX3_append 61 = .ok (.ireturn, 1) := by decide +kernel
theorem dX3_clearBuffer_0 : decode cX3_clearBuffer 0 = .ok (.aload_n 0, 1) := by decide +kernel
theorem dX3_clearBuffer_1 : decode cX3_clearBuffer 1 = .ok (.iconst 0, 1) := by decide +kernel
theorem dX3_clearBuffer_2 : decode cX3_clearBuffer 2 = .ok (.putfield 25, 3) := by decide +kernel
theorem dX3_clearBuffer_5 : decode cX3_clearBuffer 5 = .ok (.aload_n 0, 1) := by decide +kernel
theorem dX3_clearBuffer_6 : decode cX3_clearBuffer 6 = .ok (.getfield 98, 3) := by decide +kernel
theorem dX3_clearBuffer_9 : decode cX3_clearBuffer 9 = .ok (.istore_n 1, 1) := by decide +kernel
theorem dX3_clearBuffer_10 : decode cX3_clearBuffer 10 = .ok (.aload_n 0, 1) := by decide +kernel
theorem dX3_clearBuffer_11 : decode cX3_clearBuffer 11 = .ok (.iconst 0, 1) := by decide +kernel
theorem dX3_clearBuffer_12 : decode cX3_clearBuffer 12 = .ok (.putfield 98, 3) := by decide +kernel
theorem dX3_clearBuffer_15 : decode cX3_clearBuffer 15 = .ok (.iload_n 1, 1) := by decide +kernel
theorem dX3_clearBuffer_16 : decode cX3_clearBuffer 16 = .ok (.ireturn, 1) := by decide +kernel
set_option maxRecDepth 20000 in
theorem ggX3_isAt_X3_in : GoodIn wsX3_isAt wsX3_in := goodIn_r _ [7] (by decide +kernel) (by decide +kernel)
set_option maxRecDepth 20000 in
theorem gX3_isAt_X3_in : GoodIn wsX3_isAt (va_wsS RX3 29 yX3_in wsX3_in) := goodIn_app (goodIn_of _ (by decide +kernel)) ggX3_isAt_X3_in
theorem dX3_isAt_0 : decode cX3_isAt 0 = .ok (.aload_n 0, 1) := by decide +kernel
theorem dX3_isAt_1 : decode cX3_isAt 1 = .ok (.getfield 101, 3) := by decide +kernel
theorem dX3_isAt_4 : decode cX3_isAt 4 = .ok (.aload_n 0, 1) := by decide +kernel
theorem dX3_isAt_5 : decode cX3_isAt 5 = .ok (.getfield 98, 3) := by decide +kernel
theorem dX3_isAt_8 : decode cX3_isAt 8 = .ok (.if_icmp .ge 24, 3) := by decide +kernel
theorem dX3_isAt_11 : decode cX3_isAt 11 = .ok (.aload_n 0, 1) := by decide +kernel
theorem dX3_isAt_12 : decode cX3_isAt 12 = .ok (.getfield 19, 3) := by decide +kernel
theorem dX3_isAt_15 : decode cX3_isAt 15 = .ok (.aload_n 0, 1) := by decide +kernel
theorem dX3_isAt_16 : decode cX3_isAt 16 = .ok (.getfield 101, 3) := by decide +kernel
theorem dX3_isAt_19 : decode cX3_isAt 19 = .ok (.iaload, 1) := by decide +kernel
theorem dX3_isAt_20 : decode cX3_isAt 20 = .ok (.iload_n 1, 1) := by decide +kernel
theorem dX3_isAt_21 : decode cX3_isAt 21 = .ok (.iload_n 2, 1) := by decide +kernel
theorem dX3_isAt_22 : decode cX3_isAt 22 = .ok (.invokestatic 29, 3) := by decide +kernel
theorem dX3_isAt_25 : decode cX3_isAt 25 = .ok (.ifCond .eq 7, 3) := by decide +kernel
theorem dX3_isAt_28 : decode cX3_isAt 28 = .ok (.iconst 1, 1) := by decide +kernel
theorem dX3_isAt_29 : decode cX3_isAt 29 = .ok (.goto 4, 3) := by decide +kernel
theorem dX3_isAt_32 : decode cX3_isAt 32 = .ok (.iconst 0, 1) := by decide +kernel
theorem dX3_isAt_33 : decode cX3_isAt 33 = .ok (.ireturn, 1) := by decide +kernel
theorem dX3_stops_0 : decode cX3_stops 0 = .ok (.aload_n 0, 1) := by decide +kernel
theorem dX3_stops_1 : decode cX3_stops 1 = .ok (.aload_n 0, 1) := by decide +kernel
theorem dX3_stops_2 : decode cX3_stops 2 = .ok (.getfield 101, 3) := by decide +kernel
theorem dX3_stops_5 : decode cX3_stops 5 = .ok (.aload_n 0, 1) := by decide +kernel
theorem dX3_stops_6 : decode cX3_stops 6 = .ok (.getfield 98, 3) := by decide +kernel
theorem dX3_stops_9 : decode cX3_stops 9 = .ok (.if_icmp .ge 7, 3) := by decide +kernel
theorem dX3_stops_12 : decode cX3_stops 12 = .ok (.iconst 1, 1) := by decide +kernel
theorem dX3_stops_13 : decode cX3_stops 13 = .ok (.goto 4, 3) := by decide +kernel
theorem dX3_stops_16 : decode cX3_stops 16 = .ok (.iconst 0, 1) := by decide +kernel
theorem dX3_stops_17 : decode cX3_stops 17 = .ok (.putfield 104, 3) := by decide +kernel
theorem dX3_stops_20 : decode cX3_stops 20 = .ok (.iconst 0, 1) := by decide +kernel
theorem dX3_stops_21 : decode cX3_stops 21 = .ok (.ireturn, 1) := by decide +kernel
set_option maxRecDepth 20000 in
theorem ggX3_takes_X3_isAt : GoodIn wsX3_takes wsX3_isAt := goodIn_r _ [6, 1, 7, 8, 9, 10, 5, 11, 12, 13, 14, 15, 16, 17, 18, 19, 20, 21, 22, 23] (by decide +kernel) (by decide +kernel)
set_option maxRecDepth 20000 in
theorem gX3_takes_X3_isAt : GoodIn wsX3_takes (wsV RX3 108 RX3 yX3_isAt wsX3_isAt) := goodIn_app (goodIn_of _ (by decide +kernel)) ggX3_takes_X3_isAt
theorem dX3_takes_0 : decode cX3_takes 0 = .ok (.aload_n 0, 1) := by decide +kernel
theorem dX3_takes_1 : decode cX3_takes 1 = .ok (.iload_n 1, 1) := by decide +kernel
theorem dX3_takes_2 : decode cX3_takes 2 = .ok (.iload_n 1, 1) := by decide +kernel
theorem dX3_takes_3 : decode cX3_takes 3 = .ok (.invokevirtual 108, 3) := by decide +kernel
theorem dX3_takes_6 : decode cX3_takes 6 = .ok (.istore_n 2, 1) := by decide +kernel
theorem dX3_takes_7 : decode cX3_takes 7 = .ok (.aload_n 0, 1) := by decide +kernel
theorem dX3_takes_8 : decode cX3_takes 8 = .ok (.dup, 1) := by decide +kernel
theorem dX3_takes_9 : decode cX3_takes 9 = .ok (.getfield 101, 3) := by decide +kernel
theorem dX3_takes_12 : decode cX3_takes 12 = .ok (.iload_n 2, 1) := by decide +kernel
theorem dX3_takes_13 : decode cX3_takes 13 = .ok (.ifCond .eq 7, 3) := by decide +kernel
theorem dX3_takes_16 : decode cX3_takes 16 = .ok (.iconst 1, 1) := by decide +kernel
theorem dX3_takes_17 : decode cX3_takes 17 = .ok (.goto 4, 3) := by decide +kernel
theorem dX3_takes_20 : decode cX3_takes 20 = .ok (.iconst 0, 1) := by decide +kernel
theorem dX3_takes_21 : decode cX3_takes 21 = .ok (.iadd, 1) := by decide +kernel
theorem dX3_takes_22 : decode cX3_takes 22 = .ok (.putfield 101, 3) := by decide +kernel
theorem dX3_takes_25 : decode cX3_takes 25 = .ok (.iload_n 2, 1) := by decide +kernel
theorem dX3_takes_26 : decode cX3_takes 26 = .ok (.ireturn, 1) := by decide +kernel
set_option maxRecDepth 20000 in
theorem ggX3_canFollow_X3_in : GoodIn wsX3_canFollow wsX3_in := goodIn_r _ [4] (by decide +kernel) (by decide +kernel)
set_option maxRecDepth 20000 in
theorem gX3_canFollow_X3_in : GoodIn wsX3_canFollow (va_wsS RX3 29 yX3_in wsX3_in) := goodIn_app (goodIn_of _ (by decide +kernel)) ggX3_canFollow_X3_in
theorem dX3_canFollow_0 : decode cX3_canFollow 0 = .ok (.iload_n 1, 1) := by decide +kernel
theorem dX3_canFollow_1 : decode cX3_canFollow 1 = .ok (.iconst (-1), 1) := by decide +kernel
theorem dX3_canFollow_2 : decode cX3_canFollow 2 = .ok (.if_icmp .ne 34, 3) := by decide +kernel
theorem dX3_canFollow_5 : decode cX3_canFollow 5 = .ok (.iload_n 2, 1) := by decide +kernel
theorem dX3_canFollow_6 : decode cX3_canFollow 6 = .ok (.iload_n 3, 1) := by decide +kernel
theorem dX3_canFollow_7 : decode cX3_canFollow 7 = .ok (.if_icmp .gt 23, 3) := by decide +kernel
theorem dX3_canFollow_10 : decode cX3_canFollow 10 = .ok (.iload_n 2, 1) := by decide +kernel
theorem dX3_canFollow_11 : decode cX3_canFollow 11 = .ok (.iconst 1, 1) := by decide +kernel
theorem dX3_canFollow_12 : decode cX3_canFollow 12 = .ok (.iconst 3, 1) := by decide +kernel
theorem dX3_canFollow_13 : decode cX3_canFollow 13 = .ok (.invokestatic 29, 3) := by decide +kernel
theorem dX3_canFollow_16 : decode cX3_canFollow 16 = .ok (.ifCond .eq 18, 3) := by decide +kernel
theorem dX3_canFollow_19 : decode cX3_canFollow 19 = .ok (.bipush 10, 2) := by decide +kernel
theorem dX3_canFollow_21 : decode cX3_canFollow 21 = .ok (.iload_n 2, 1) := by decide +kernel
theorem dX3_canFollow_22 : decode cX3_canFollow 22 = .ok (.imul, 1) := by decide +kernel
theorem dX3_canFollow_23 : decode cX3_canFollow 23 = .ok (.bipush 9, 2) := by decide +kernel
theorem dX3_canFollow_25 : decode cX3_canFollow 25 = .ok (.iadd, 1) := by decide +kernel
theorem dX3_canFollow_26 : decode cX3_canFollow 26 = .ok (.iload_n 3, 1) := by decide +kernel
theorem dX3_canFollow_27 : decode cX3_canFollow 27 = .ok (.if_icmp .le 7, 3) := by decide +kernel
theorem dX3_canFollow_30 : decode cX3_canFollow 30 = .ok (.iconst 1, 1) := by decide +kernel
theorem dX3_canFollow_31 : decode cX3_canFollow 31 = .ok (.goto 4, 3) := by decide +kernel
theorem dX3_canFollow_34 : decode cX3_canFollow 34 = .ok (.iconst 0, 1) := by decide +kernel
theorem dX3_canFollow_35 : decode cX3_canFollow 35 = .ok (.ireturn, 1) := by decide +kernel
theorem dX3_canFollow_36 : decode cX3_canFollow 36 = .ok (.iload_n 1, 1) := by decide +kernel
theorem dX3_canFollow_37 : decode cX3_canFollow 37 = .ok (.iconst 1, 1) := by decide +kernel
theorem dX3_canFollow_38 : decode cX3_canFollow 38 = .ok (.iconst 3, 1) := by decide +kernel
theorem dX3_canFollow_39 : decode cX3_canFollow 39 = .ok (.invokestatic 29, 3) := by decide +kernel
theorem dX3_canFollow_42 : decode cX3_canFollow 42 = .ok (.ifCond .eq 17, 3) := by decide +kernel
theorem dX3_canFollow_45 : decode cX3_canFollow 45 = .ok (.bipush 10, 2) := by decide +kernel
theorem dX3_canFollow_47 : decode cX3_canFollow 47 = .ok (.iload_n 1, 1) := by decide +kernel
theorem dX3_canFollow_48 : decode cX3_canFollow 48 = .ok (.imul, 1) := by decide +kernel
theorem dX3_canFollow_49 : decode cX3_canFollow 49 = .ok (.iload_n 2, 1) := by decide +kernel
theorem dX3_canFollow_50 : decode cX3_canFollow 50 = .ok (.iadd, 1) := by decide +kernel
theorem dX3_canFollow_51 : decode cX3_canFollow 51 = .ok (.iload_n 3, 1) := by decide +kernel
theorem dX3_canFollow_52 : decode cX3_canFollow 52 = .ok (.if_icmp .le 7, 3) := by decide +kernel
theorem dX3_canFollow_55 : decode cX3_canFollow 55 = .ok (.iconst 1, 1) := by decide +kernel
theorem dX3_canFollow_56 : decode cX3_canFollow 56 = .ok (.goto 4, 3) := by decide +kernel
theorem dX3_canFollow_59 : decode cX3_canFollow 59 = .ok (.iconst 0, 1) := by decide +kernel
theorem dX3_canFollow_60 : decode cX3_canFollow 60 = .ok (.ireturn, 1) := by decide +kernel
set_option maxRecDepth 20000 in
theorem ggX3_takesPage_X3_isAt : GoodIn wsX3_takesPage wsX3_isAt := goodIn_r _ [9, 2, 10, 1, 11, 12, 8, 13, 23, 24, 25, 26, 27, 28, 29, 30, 31, 32, 33, 34] (by decide +kernel) (by decide +kernel)
