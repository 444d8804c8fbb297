set_option maxRecDepth 20000 in
theorem gX3_takesPage_X3_isAt : GoodIn wsX3_takesPage (wsV RX3 108 RX3 yX3_isAt wsX3_isAt) := goodIn_app (goodIn_of _ (by decide +kernel)) ggX3_takesPage_X3_isAt
set_option maxRecDepth 20000 in
theorem ggX3_takesPage_X3_canFollow : GoodIn wsX3_takesPage wsX3_canFollow := goodIn_r _ [17, 11, 12, 8, 13] (by decide +kernel) (by decide +kernel)
set_option maxRecDepth 20000 in
theorem gX3_takesPage_X3_canFollow : GoodIn wsX3_takesPage (wsV RX3 112 RX3 yX3_canFollow wsX3_canFollow) := goodIn_app (goodIn_of _ (by decide +kernel)) ggX3_takesPage_X3_canFollow
set_option maxRecDepth 20000 in
theorem ggX3_takesPage_X3_stops : GoodIn wsX3_takesPage wsX3_stops := goodIn_r _ [21, 2, 10, 22, 23, 24, 25, 26, 27, 28, 29, 30, 31, 32, 33, 34] (by decide +kernel) (by decide +kernel)
set_option maxRecDepth 20000 in
theorem gX3_takesPage_X3_stops : GoodIn wsX3_takesPage (wsV RX3 118 RX3 yX3_stops wsX3_stops) := goodIn_app (goodIn_of _ (by decide +kernel)) ggX3_takesPage_X3_stops
theorem dX3_takesPage_0 : decode cX3_takesPage 0 = .ok (.iconst (-1), 1) := by decide +kernel
theorem dX3_takesPage_1 : decode cX3_takesPage 1 = .ok (.istore_n 3, 1) := by decide +kernel
theorem dX3_takesPage_2 : decode cX3_takesPage 2 = .ok (.aload_n 0, 1) := by decide +kernel
theorem dX3_takesPage_3 : decode cX3_takesPage 3 = .ok (.bipush 48, 2) := by decide +kernel
theorem dX3_takesPage_5 : decode cX3_takesPage 5 = .ok (.bipush 57, 2) := by decide +kernel
theorem dX3_takesPage_7 : decode cX3_takesPage 7 = .ok (.invokevirtual 108, 3) := by decide +kernel
theorem dX3_takesPage_10 : decode cX3_takesPage 10 = .ok (.ifCond .eq 70, 3) := by decide +kernel
theorem dX3_takesPage_13 : decode cX3_takesPage 13 = .ok (.iload_n 3, 1) := by decide +kernel
theorem dX3_takesPage_14 : decode cX3_takesPage 14 = .ok (.bipush 10, 2) := by decide +kernel
theorem dX3_takesPage_16 : decode cX3_takesPage 16 = .ok (.if_icmp .ge 64, 3) := by decide +kernel
theorem dX3_takesPage_19 : decode cX3_takesPage 19 = .ok (.aload_n 0, 1) := by decide +kernel
theorem dX3_takesPage_20 : decode cX3_takesPage 20 = .ok (.iload_n 3, 1) := by decide +kernel
theorem dX3_takesPage_21 : decode cX3_takesPage 21 = .ok (.aload_n 0, 1) := by decide +kernel
theorem dX3_takesPage_22 : decode cX3_takesPage 22 = .ok (.getfield 19, 3) := by decide +kernel
theorem dX3_takesPage_25 : decode cX3_takesPage 25 = .ok (.aload_n 0, 1) := by decide +kernel
theorem dX3_takesPage_26 : decode cX3_takesPage 26 = .ok (.getfield 101, 3) := by decide +kernel
theorem dX3_takesPage_29 : decode cX3_takesPage 29 = .ok (.iaload, 1) := by decide +kernel
theorem dX3_takesPage_30 : decode cX3_takesPage 30 = .ok (.bipush 48, 2) := by decide +kernel
theorem dX3_takesPage_32 : decode cX3_takesPage 32 = .ok (.isub, 1) := by decide +kernel
theorem dX3_takesPage_33 : decode cX3_takesPage 33 = .ok (.iload_n 2, 1) := by decide +kernel
theorem dX3_takesPage_34 : decode cX3_takesPage 34 = .ok (.invokevirtual 112, 3) := by decide +kernel
theorem dX3_takesPage_37 : decode cX3_takesPage 37 = .ok (.ifCond .eq 43, 3) := by decide +kernel
theorem dX3_takesPage_40 : decode cX3_takesPage 40 = .ok (.iload_n 3, 1) := by decide +kernel
theorem dX3_takesPage_41 : decode cX3_takesPage 41 = .ok (.iconst (-1), 1) := by decide +kernel
theorem dX3_takesPage_42 : decode cX3_takesPage 42 = .ok (.if_icmp .ne 7, 3) := by decide +kernel
theorem dX3_takesPage_45 : decode cX3_takesPage 45 = .ok (.iconst 0, 1) := by decide +kernel
theorem dX3_takesPage_46 : decode cX3_takesPage 46 = .ok (.goto 7, 3) := by decide +kernel
theorem dX3_takesPage_49 : decode cX3_takesPage 49 = .ok (.bipush 10, 2) := by decide +kernel
theorem dX3_takesPage_51 : decode cX3_takesPage 51 = .ok (.iload_n 3, 1) := by decide +kernel
theorem dX3_takesPage_52 : decode cX3_takesPage 52 = .ok (.imul, 1) := by decide +kernel
theorem dX3_takesPage_53 : decode cX3_takesPage 53 = .ok (.aload_n 0, 1) := by decide +kernel
theorem dX3_takesPage_54 : decode cX3_takesPage 54 = .ok (.getfield 19, 3) := by decide +kernel
theorem dX3_takesPage_57 : decode cX3_takesPage 57 = .ok (.aload_n 0, 1) := by decide +kernel
theorem dX3_takesPage_58 : decode cX3_takesPage 58 = .ok (.getfield 101, 3) := by decide +kernel
theorem dX3_takesPage_61 : decode cX3_takesPage 61 = .ok (.iaload, 1) := by decide +kernel
theorem dX3_takesPage_62 : decode cX3_takesPage 62 = .ok (.iadd, 1) := by decide +kernel
theorem dX3_takesPage_63 : decode cX3_takesPage 63 = .ok (.bipush 48, 2) := by decide +kernel
theorem dX3_takesPage_65 : decode cX3_takesPage 65 = .ok (.isub, 1) := by decide +kernel
theorem dX3_takesPage_66 : decode cX3_takesPage 66 = .ok (.istore_n 3, 1) := by decide +kernel
theorem dX3_takesPage_67 : decode cX3_takesPage 67 = .ok (.aload_n 0, 1) := by decide +kernel
theorem dX3_takesPage_68 : decode cX3_takesPage 68 = .ok (.dup, 1) := by decide +kernel
theorem dX3_takesPage_69 : decode cX3_takesPage 69 = .ok (.getfield 101, 3) := by decide +kernel
theorem dX3_takesPage_72 : decode cX3_takesPage 72 = .ok (.iconst 1, 1) := by decide +kernel
theorem dX3_takesPage_73 : decode cX3_takesPage 73 = .ok (.iadd, 1) := by decide +kernel
theorem dX3_takesPage_74 : decode cX3_takesPage 74 = .ok (.putfield 101, 3) := by decide +kernel
theorem dX3_takesPage_77 : decode cX3_takesPage 77 = .ok (.goto (-75), 3) := by decide +kernel
theorem dX3_takesPage_80 : decode cX3_takesPage 80 = .ok (.aload_n 0, 1) := by decide +kernel
theorem dX3_takesPage_81 : decode cX3_takesPage 81 = .ok (.getfield 22, 3) := by decide +kernel
theorem dX3_takesPage_84 : decode cX3_takesPage 84 = .ok (.iconst 3, 1) := by decide +kernel
theorem dX3_takesPage_85 : decode cX3_takesPage 85 = .ok (.aload_n 0, 1) := by decide +kernel
theorem dX3_takesPage_86 : decode cX3_takesPage 86 = .ok (.getfield 115, 3) := by decide +kernel
theorem dX3_takesPage_89 : decode cX3_takesPage 89 = .ok (.imul, 1) := by decide +kernel
theorem dX3_takesPage_90 : decode cX3_takesPage 90 = .ok (.iload_n 1, 1) := by decide +kernel
theorem dX3_takesPage_91 : decode cX3_takesPage 91 = .ok (.iadd, 1) := by decide +kernel
theorem dX3_takesPage_92 : decode cX3_takesPage 92 = .ok (.iload_n 3, 1) := by decide +kernel
theorem dX3_takesPage_93 : decode cX3_takesPage 93 = .ok (.iastore, 1) := by decide +kernel
theorem dX3_takesPage_94 : decode cX3_takesPage 94 = .ok (.iload_n 3, 1) := by decide +kernel
theorem dX3_takesPage_95 : decode cX3_takesPage 95 = .ok (.iload_n 2, 1) := by decide +kernel
theorem dX3_takesPage_96 : decode cX3_takesPage 96 = .ok (.if_icmp .gt 10, 3) := by decide +kernel
theorem dX3_takesPage_99 : decode cX3_takesPage 99 = .ok (.aload_n 0, 1) := by decide +kernel
theorem dX3_takesPage_100 : decode cX3_takesPage 100 = .ok (.invokevirtual 118, 3) := by decide +kernel
theorem dX3_takesPage_103 : decode cX3_takesPage 103 = .ok (.ifCond .eq 7, 3) := by decide +kernel
theorem dX3_takesPage_106 : decode cX3_takesPage 106 = .ok (.iconst 1, 1) := by decide +kernel
theorem dX3_takesPage_107 : decode cX3_takesPage 107 = .ok (.goto 4, 3) := by decide +kernel
theorem dX3_takesPage_110 : decode cX3_takesPage 110 = .ok (.iconst 0, 1) := by decide +kernel
theorem dX3_takesPage_111 : decode cX3_takesPage 111 = .ok (.ireturn, 1) := by decide +kernel
set_option maxRecDepth 20000 in
theorem ggX3_takesPart_X3_takesPage : GoodIn wsX3_takesPart wsX3_takesPage := goodIn_r _ [9, 3, 4, 1, 2, 10, 11, 12, 8, 13, 14, 15, 16, 17, 18, 19, 20, 21, 22, 23, 24, 25, 26, 31, 32, 33, 34, 35, 36, 37, 38, 39, 40, 41, 42] (by decide +kernel) (by decide +kernel)
set_option maxRecDepth 20000 in
theorem gX3_takesPart_X3_takesPage : GoodIn wsX3_takesPart (wsV RX3 122 RX3 yX3_takesPage wsX3_takesPage) := goodIn_app (goodIn_of _ (by decide +kernel)) ggX3_takesPart_X3_takesPage
set_option maxRecDepth 20000 in
theorem ggX3_takesPart_X3_takes : GoodIn wsX3_takesPart wsX3_takes := goodIn_r _ [30, 4, 10, 11, 12, 8, 13, 14, 3, 15, 16, 17, 31, 32, 33, 34, 35, 36, 37, 38, 39, 40, 41, 42] (by decide +kernel) (by decide +kernel)
set_option maxRecDepth 20000 in
theorem gX3_takesPart_X3_takes : GoodIn wsX3_takesPart (wsV RX3 125 RX3 yX3_takes wsX3_takes) := goodIn_app (goodIn_of _ (by decide +kernel)) ggX3_takesPart_X3_takes
set_option maxRecDepth 20000 in
theorem ggX3_takesPart_X3_isAt : GoodIn wsX3_takesPart wsX3_isAt := goodIn_r _ [13, 4, 14, 3, 15, 16, 8, 17, 31, 32, 33, 34, 35, 36, 37, 38, 39, 40, 41, 42] (by decide +kernel) (by decide +kernel)
set_option maxRecDepth 20000 in
theorem gX3_takesPart_X3_isAt : GoodIn wsX3_takesPart (wsV RX3 108 RX3 yX3_isAt wsX3_isAt) := goodIn_app (goodIn_of _ (by decide +kernel)) ggX3_takesPart_X3_isAt
set_option maxRecDepth 20000 in
theorem ggX3_takesPart_X3_stops : GoodIn wsX3_takesPart wsX3_stops := goodIn_r _ [25, 4, 14, 26, 31, 32, 33, 34, 35, 36, 37, 38, 39, 40, 41, 42] (by decide +kernel) (by decide +kernel)
set_option maxRecDepth 20000 in
theorem gX3_takesPart_X3_stops : GoodIn wsX3_takesPart (wsV RX3 118 RX3 yX3_stops wsX3_stops) := goodIn_app (goodIn_of _ (by decide +kernel)) ggX3_takesPart_X3_stops
theorem dX3_takesPart_0 : decode cX3_takesPart 0 = .ok (.aload_n 0, 1) := by decide +kernel
theorem dX3_takesPart_1 : decode cX3_takesPart 1 = .ok (.iconst 0, 1) := by decide +kernel
theorem dX3_takesPart_2 : decode cX3_takesPart 2 = .ok (.iconst (-1), 1) := by decide +kernel
theorem dX3_takesPart_3 : decode cX3_takesPart 3 = .ok (.invokevirtual 122, 3) := by decide +kernel
theorem dX3_takesPart_6 : decode cX3_takesPart 6 = .ok (.ifCond .ne 5, 3) := by decide +kernel
theorem dX3_takesPart_9 : decode cX3_takesPart 9 = .ok (.iconst 0, 1) := by decide +kernel
theorem dX3_takesPart_10 : decode cX3_takesPart 10 = .ok (.ireturn, 1) := by decide +kernel
theorem dX3_takesPart_11 : decode cX3_takesPart 11 = .ok (.aload_n 0, 1) := by decide +kernel
theorem dX3_takesPart_12 : decode cX3_takesPart 12 = .ok (.getfield 22, 3) := by decide +kernel
theorem dX3_takesPart_15 : decode cX3_takesPart 15 = .ok (.iconst 3, 1) := by decide +kernel
theorem dX3_takesPart_16 : decode cX3_takesPart 16 = .ok (.aload_n 0, 1) := by decide +kernel
theorem dX3_takesPart_17 : decode cX3_takesPart 17 = .ok (.getfield 115, 3) := by decide +kernel
theorem dX3_takesPart_20 : decode cX3_takesPart 20 = .ok (.imul, 1) := by decide +kernel
theorem dX3_takesPart_21 : decode cX3_takesPart 21 = .ok (.iaload, 1) := by decide +kernel
theorem dX3_takesPart_22 : decode cX3_takesPart 22 = .ok (.istore_n 1, 1) := by decide +kernel
theorem dX3_takesPart_23 : decode cX3_takesPart 23 = .ok (.aload_n 0, 1) := by decide +kernel
theorem dX3_takesPart_24 : decode cX3_takesPart 24 = .ok (.getfield 22, 3) := by decide +kernel
theorem dX3_takesPart_27 : decode cX3_takesPart 27 = .ok (.iconst 3, 1) := by decide +kernel
theorem dX3_takesPart_28 : decode cX3_takesPart 28 = .ok (.aload_n 0, 1) := by decide +kernel
theorem dX3_takesPart_29 : decode cX3_takesPart 29 = .ok (.getfield 115, 3) := by decide +kernel
theorem dX3_takesPart_32 : decode cX3_takesPart 32 = .ok (.imul, 1) := by decide +kernel
theorem dX3_takesPart_33 : decode cX3_takesPart 33 = .ok (.iconst 1, 1) := by decide +kernel
theorem dX3_takesPart_34 : decode cX3_takesPart 34 = .ok (.iadd, 1) := by decide +kernel
theorem dX3_takesPart_35 : decode cX3_takesPart 35 = .ok (.iload_n 1, 1) := by decide +kernel
theorem dX3_takesPart_36 : decode cX3_takesPart 36 = .ok (.iastore, 1) := by decide +kernel
theorem dX3_takesPart_37 : decode cX3_takesPart 37 = .ok (.aload_n 0, 1) := by decide +kernel
theorem dX3_takesPart_38 : decode cX3_takesPart 38 = .ok (.getfield 22, 3) := by decide +kernel
theorem dX3_takesPart_41 : decode cX3_takesPart 41 = .ok (.iconst 3, 1) := by decide +kernel
theorem dX3_takesPart_42 : decode cX3_takesPart 42 = .ok (.aload_n 0, 1) := by decide +kernel
theorem dX3_takesPart_43 : decode cX3_takesPart 43 = .ok (.getfield 115, 3) := by decide +kernel
theorem dX3_takesPart_46 : decode cX3_takesPart 46 = .ok (.imul, 1) := by decide +kernel
theorem dX3_takesPart_47 : decode cX3_takesPart 47 = .ok (.iconst 2, 1) := by decide +kernel
theorem dX3_takesPart_48 : decode cX3_takesPart 48 = .ok (.iadd, 1) := by decide +kernel
theorem dX3_takesPart_49 : decode cX3_takesPart 49 = .ok (.iconst 0, 1) := by decide +kernel
theorem dX3_takesPart_50 : decode cX3_takesPart 50 = .ok (.iastore, 1) := by decide +kernel
theorem dX3_takesPart_51 : decode cX3_takesPart 51 = .ok (.iload_n 1, 1) := by decide +kernel
theorem dX3_takesPart_52 : decode cX3_takesPart 52 = .ok (.bipush 39, 2) := by decide +kernel
theorem dX3_takesPart_54 : decode cX3_takesPart 54 = .ok (.if_icmp .ge 23, 3) := by decide +kernel
theorem dX3_takesPart_57 : decode cX3_takesPart 57 = .ok (.aload_n 0, 1) := by decide +kernel
theorem dX3_takesPart_58 : decode cX3_takesPart 58 = .ok (.bipush 45, 2) := by decide +kernel
theorem dX3_takesPart_60 : decode cX3_takesPart 60 = .ok (.invokevirtual 125, 3) := by decide +kernel
theorem dX3_takesPart_63 : decode cX3_takesPart 63 = .ok (.ifCond .eq 14, 3) := by decide +kernel
theorem dX3_takesPart_66 : decode cX3_takesPart 66 = .ok (.aload_n 0, 1) := by decide +kernel
theorem dX3_takesPart_67 : decode cX3_takesPart 67 = .ok (.iconst 1, 1) := by decide +kernel
theorem dX3_takesPart_68 : decode cX3_takesPart 68 = .ok (.iload_n 1, 1) := by decide +kernel
theorem dX3_takesPart_69 : decode cX3_takesPart 69 = .ok (.invokevirtual 122, 3) := by decide +kernel
theorem dX3_takesPart_72 : decode cX3_takesPart 72 = .ok (.ifCond .ne 5, 3) := by decide +kernel
theorem dX3_takesPart_75 : decode cX3_takesPart 75 = .ok (.iconst 0, 1) := by decide +kernel
theorem dX3_takesPart_76 : decode cX3_takesPart 76 = .ok (.ireturn, 1) := by decide +kernel
theorem dX3_takesPart_77 : decode cX3_takesPart 77 = .ok (.aload_n 0, 1) := by decide +kernel
theorem dX3_takesPart_78 : decode cX3_takesPart 78 = .ok (.bipush 104, 2) := by decide +kernel
theorem dX3_takesPart_80 : decode cX3_takesPart 80 = .ok (.invokevirtual 125, 3) := by decide +kernel
theorem dX3_takesPart_83 : decode cX3_takesPart 83 = .ok (.ifCond .eq 54, 3) := by decide +kernel
theorem dX3_takesPart_86 : decode cX3_takesPart 86 = .ok (.aload_n 0, 1) := by decide +kernel
theorem dX3_takesPart_87 : decode cX3_takesPart 87 = .ok (.bipush 48, 2) := by decide +kernel
theorem dX3_takesPart_89 : decode cX3_takesPart 89 = .ok (.bipush 51, 2) := by decide +kernel
theorem dX3_takesPart_91 : decode cX3_takesPart 91 = .ok (.invokevirtual 108, 3) := by decide +kernel
theorem dX3_takesPart_94 : decode cX3_takesPart 94 = .ok (.ifCond .ne 8, 3) := by decide +kernel
theorem dX3_takesPart_97 : decode cX3_takesPart 97 = .ok (.aload_n 0, 1) := by decide +kernel
theorem dX3_takesPart_98 : decode cX3_takesPart 98 = .ok (.invokevirtual 118, 3) := by decide +kernel
theorem dX3_takesPart_101 : decode cX3_takesPart 101 = .ok (.ireturn, 1) := by decide +kernel
theorem dX3_takesPart_102 : decode cX3_takesPart 102 = .ok (.aload_n 0, 1) := by decide +kernel
theorem dX3_takesPart_103 : decode cX3_takesPart 103 = .ok (.getfield 22, 3) := by decide +kernel
theorem dX3_takesPart_106 : decode cX3_takesPart 106 = .ok (.iconst 3, 1) := by decide +kernel
theorem dX3_takesPart_107 : decode cX3_takesPart 107 = .ok (.aload_n 0, 1) := by decide +kernel
theorem dX3_takesPart_108 : decode cX3_takesPart 108 = .ok (.getfield 115, 3) := by decide +kernel
theorem dX3_takesPart_111 : decode cX3_takesPart 111 = .ok (.imul, 1) := by decide +kernel
theorem dX3_takesPart_112 : decode cX3_takesPart 112 = .ok (.iconst 2, 1) := by decide +kernel
theorem dX3_takesPart_113 : decode cX3_takesPart 113 = .ok (.iadd, 1) := by decide +kernel
theorem dX3_takesPart_114 : decode cX3_takesPart 114 = .ok (.aload_n 0, 1) := by decide +kernel
theorem dX3_takesPart_115 : decode cX3_takesPart 115 = .ok (.getfield 19, 3) := by decide +kernel
theorem dX3_takesPart_118 : decode cX3_takesPart 118 = .ok (.aload_n 0, 1) := by decide +kernel
theorem dX3_takesPart_119 : decode cX3_takesPart 119 = .ok (.getfield 101, 3) := by decide +kernel
theorem dX3_takesPart_122 : decode cX3_takesPart 122 = .ok (.iaload, 1) := by decide +kernel
theorem dX3_takesPart_123 : decode cX3_takesPart 123 = .ok (.bipush 48, 2) := by decide +kernel
theorem dX3_takesPart_125 : decode cX3_takesPart 125 = .ok (.isub, 1) := by decide +kernel
theorem dX3_takesPart_126 : decode cX3_takesPart 126 = .ok (.iastore, 1) := by decide +kernel
theorem dX3_takesPart_127 : decode cX3_takesPart 127 = .ok (.aload_n 0, 1) := by decide +kernel
theorem dX3_takesPart_128 : decode cX3_takesPart 128 = .ok (.dup, 1) := by decide +kernel
theorem dX3_takesPart_129 : decode cX3_takesPart 129 = .ok (.getfield 101, 3) := by decide +kernel
theorem dX3_takesPart_132 : decode cX3_takesPart 132 = .ok (.iconst 1, 1) := by decide +kernel
theorem dX3_takesPart_133 : decode cX3_takesPart 133 = .ok (.iadd, 1) := by decide +kernel
theorem dX3_takesPart_134 : decode cX3_takesPart 134 = .ok (.putfield 101, 3) := by decide +kernel
theorem dX3_takesPart_137 : decode cX3_takesPart 137 = .ok (.iconst 1, 1) := by decide +kernel
theorem dX3_takesPart_138 : decode cX3_takesPart 138 = .ok (.ireturn, 1) := by decide +kernel
set_option maxRecDepth 20000 in
theorem ggX3_isText_X3_takesPart : GoodIn wsX3_isText wsX3_takesPart := goodIn_r _ [9, 10, 2, 11, 1, 12, 13, 14, 8, 15, 16, 17, 18, 19, 4, 20, 21, 22, 23, 24, 25, 26, 27, 28, 29, 30, 3, 31, 32, 33, 34, 35, 36, 37, 38, 39, 40, 41, 42, 43, 44, 45, 46] (by decide +kernel) (by decide +kernel)
set_option maxRecDepth 20000 in
theorem gX3_isText_X3_takesPart : GoodIn wsX3_isText (wsV RX3 128 RX3 yX3_takesPart wsX3_takesPart) := goodIn_app (goodIn_of _ (by decide +kernel)) ggX3_isText_X3_takesPart
set_option maxRecDepth 20000 in
theorem ggX3_isText_X3_takes : GoodIn wsX3_isText wsX3_takes := goodIn_r _ [34, 1, 16, 17, 18, 8, 19, 4, 11, 20, 21, 22, 35, 36, 37, 38, 39, 40, 41, 42, 43, 44, 45, 46] (by decide +kernel) (by decide +kernel)
set_option maxRecDepth 20000 in
theorem gX3_isText_X3_takes : GoodIn wsX3_isText (wsV RX3 125 RX3 yX3_takes wsX3_takes) := goodIn_app (goodIn_of _ (by decide +kernel)) ggX3_isText_X3_takes
theorem dX3_isText_0 : decode cX3_isText 0 = .ok (.aload_n 0, 1) := by decide +kernel
theorem dX3_isText_1 : decode cX3_isText 1 = .ok (.iconst 0, 1) := by decide +kernel
theorem dX3_isText_2 : decode cX3_isText 2 = .ok (.putfield 101, 3) := by decide +kernel
theorem dX3_isText_5 : decode cX3_isText 5 = .ok (.aload_n 0, 1) := by decide +kernel
theorem dX3_isText_6 : decode cX3_isText 6 = .ok (.iconst 0, 1) := by decide +kernel
theorem dX3_isText_7 : decode cX3_isText 7 = .ok (.putfield 115, 3) := by decide +kernel
theorem dX3_isText_10 : decode cX3_isText 10 = .ok (.aload_n 0, 1) := by decide +kernel
theorem dX3_isText_11 : decode cX3_isText 11 = .ok (.iconst 0, 1) := by decide +kernel
theorem dX3_isText_12 : decode cX3_isText 12 = .ok (.putfield 104, 3) := by decide +kernel
theorem dX3_isText_15 : decode cX3_isText 15 = .ok (.iconst 1, 1) := by decide +kernel
theorem dX3_isText_16 : decode cX3_isText 16 = .ok (.istore_n 1, 1) := by decide +kernel
theorem dX3_isText_17 : decode cX3_isText 17 = .ok (.iload_n 1, 1) := by decide +kernel
theorem dX3_isText_18 : decode cX3_isText 18 = .ok (.ifCond .eq 32, 3) := by decide +kernel
theorem dX3_isText_21 : decode cX3_isText 21 = .ok (.aload_n 0, 1) := by decide +kernel
theorem dX3_isText_22 : decode cX3_isText 22 = .ok (.invokevirtual 128, 3) := by decide +kernel
theorem dX3_isText_25 : decode cX3_isText 25 = .ok (.ifCond .ne 5, 3) := by decide +kernel
theorem dX3_isText_28 : decode cX3_isText 28 = .ok (.iconst 0, 1) := by decide +kernel
theorem dX3_isText_29 : decode cX3_isText 29 = .ok (.ireturn, 1) := by decide +kernel
theorem dX3_isText_30 : decode cX3_isText 30 = .ok (.aload_n 0, 1) := by decide +kernel
theorem dX3_isText_31 : decode cX3_isText 31 = .ok (.dup, 1) := by decide +kernel
theorem dX3_isText_32 : decode cX3_isText 32 = .ok (.getfield 115, 3) := by decide +kernel
theorem dX3_isText_35 : decode cX3_isText 35 = .ok (.iconst 1, 1) := by decide +kernel
theorem dX3_isText_36 : decode cX3_isText 36 = .ok (.iadd, 1) := by decide +kernel
theorem dX3_isText_37 : decode cX3_isText 37 = .ok (.putfield 115, 3) := by decide +kernel
theorem dX3_isText_40 : decode cX3_isText 40 = .ok (.aload_n 0, 1) := by decide +kernel
theorem dX3_isText_41 : decode cX3_isText 41 = .ok (.bipush 59, 2) := by decide +kernel
theorem dX3_isText_43 : decode cX3_isText 43 = .ok (.invokevirtual 125, 3) := by decide +kernel
theorem dX3_isText_46 : decode cX3_isText 46 = .ok (.istore_n 1, 1) := by decide +kernel
theorem dX3_isText_47 : decode cX3_isText 47 = .ok (.goto (-30), 3) := by decide +kernel
theorem dX3_isText_50 : decode cX3_isText 50 = .ok (.aload_n 0, 1) := by decide +kernel
theorem dX3_isText_51 : decode cX3_isText 51 = .ok (.aload_n 0, 1) := by decide +kernel
theorem dX3_isText_52 : decode cX3_isText 52 = .ok (.getfield 101, 3) := by decide +kernel
theorem dX3_isText_55 : decode cX3_isText 55 = .ok (.aload_n 0, 1) := by decide +kernel
theorem dX3_isText_56 : decode cX3_isText 56 = .ok (.getfield 98, 3) := by decide +kernel
theorem dX3_isText_59 : decode cX3_isText 59 = .ok (.if_icmp .ge 7, 3) := by decide +kernel
theorem dX3_isText_62 : decode cX3_isText 62 = .ok (.iconst 1, 1) := by decide +kernel
theorem dX3_isText_63 : decode cX3_isText 63 = .ok (.goto 4, 3) := by decide +kernel
theorem dX3_isText_66 : decode cX3_isText 66 = .ok (.iconst 0, 1) := by decide +kernel
theorem dX3_isText_67 : decode cX3_isText 67 = .ok (.putfield 104, 3) := by decide +kernel
theorem dX3_isText_70 : decode cX3_isText 70 = .ok (.aload_n 0, 1) := by decide +kernel
theorem dX3_isText_71 : decode cX3_isText 71 = .ok (.getfield 101, 3) := by decide +kernel
theorem dX3_isText_74 : decode cX3_isText 74 = .ok (.aload_n 0, 1) := by decide +kernel
theorem dX3_isText_75 : decode cX3_isText 75 = .ok (.getfield 98, 3) := by decide +kernel
theorem dX3_isText_78 : decode cX3_isText 78 = .ok (.if_icmp .ne 7, 3) := by decide +kernel
theorem dX3_isText_81 : decode cX3_isText 81 = .ok (.iconst 1, 1) := by decide +kernel
theorem dX3_isText_82 : decode cX3_isText 82 = .ok (.goto 4, 3) := by decide +kernel
theorem dX3_isText_85 : decode cX3_isText 85 = .ok (.iconst 0, 1) := by decide +kernel
theorem dX3_isText_86 : decode cX3_isText 86 = .ok (.ireturn, 1) := by decide +kernel
set_option maxRecDepth 20000 in
theorem ggX3_firstError_X3_isText : GoodIn wsX3_firstError wsX3_isText := goodIn_r _ [9, 3, 10, 2, 4, 11, 12, 13, 8, 14, 15, 16, 17, 18, 19, 20, 21, 22, 23, 24, 25, 26, 27, 28, 29, 30, 31, 32, 33, 34, 35, 36, 37, 38, 39, 40, 41, 42, 43, 44, 45, 46, 47, 48, 49, 50, 51] (by decide +kernel) (by decide +kernel)
set_option maxRecDepth 20000 in
theorem gX3_firstError_X3_isText : GoodIn wsX3_firstError (wsV RX3 131 RX3 yX3_isText wsX3_isText) := goodIn_app (goodIn_of _ (by decide +kernel)) ggX3_firstError_X3_isText
theorem dX3_firstError_0 : decode cX3_firstError 0 = .ok (.aload_n 0, 1) := by decide +kernel
theorem dX3_firstError_1 : decode cX3_firstError 1 = .ok (.iconst 0, 1) := by decide +kernel
theorem dX3_firstError_2 : decode cX3_firstError 2 = .ok (.putfield 25, 3) := by decide +kernel
theorem dX3_firstError_5 : decode cX3_firstError 5 = .ok (.aload_n 0, 1) := by decide +kernel
theorem dX3_firstError_6 : decode cX3_firstError 6 = .ok (.invokevirtual 131, 3) := by decide +kernel
theorem dX3_firstError_9 : decode cX3_firstError 9 = .ok (.istore_n 1, 1) := by decide +kernel
theorem dX3_firstError_10 : decode cX3_firstError 10 = .ok (.iload_n 1, 1) := by decide +kernel
theorem dX3_firstError_11 : decode cX3_firstError 11 = .ok (.ifCond .ne 17, 3) := by decide +kernel
theorem dX3_firstError_14 : decode cX3_firstError 14 = .ok (.aload_n 0, 1) := by decide +kernel
theorem dX3_firstError_15 : decode cX3_firstError 15 = .ok (.getfield 104, 3) := by decide +kernel
theorem dX3_firstError_18 : decode cX3_firstError 18 = .ok (.ifCond .eq 10, 3) := by decide +kernel
theorem dX3_firstError_21 : decode cX3_firstError 21 = .ok (.aload_n 0, 1) := by decide +kernel
theorem dX3_firstError_22 : decode cX3_firstError 22 = .ok (.getfield 101, 3) := by decide +kernel
theorem dX3_firstError_25 : decode cX3_firstError 25 = .ok (.goto 7, 3) := by decide +kernel
theorem dX3_firstError_28 : decode cX3_firstError 28 = .ok (.aload_n 0, 1) := by decide +kernel
theorem dX3_firstError_29 : decode cX3_firstError 29 = .ok (.getfield 98, 3) := by decide +kernel
theorem dX3_firstError_32 : decode cX3_firstError 32 = .ok (.ireturn, 1) := by decide +kernel
set_option maxRecDepth 20000 in
theorem ggX3_writeAll_X3_isText : GoodIn wsX3_writeAll wsX3_isText := goodIn_r _ [10, 11, 4, 12, 2, 13, 14, 15, 9, 16, 5, 17, 18, 19, 20, 21, 22, 23, 24, 25, 26, 27, 28, 29, 30, 31, 32, 33, 34, 35, 36, 37, 38, 39, 40, 87, 88, 89, 90, 91, 92, 93, 94, 95, 96, 97, 98] (by decide +kernel) (by decide +kernel)
set_option maxRecDepth 20000 in
theorem gX3_writeAll_X3_isText : GoodIn wsX3_writeAll (wsV RX3 131 RX3 yX3_isText wsX3_isText) := goodIn_app (goodIn_of _ (by decide +kernel)) ggX3_writeAll_X3_isText
set_option maxRecDepth 20000 in
theorem ggX3_writeAll_X3_fails : GoodIn wsX3_writeAll wsX3_fails := goodIn_r _ [44, 1, 87, 88, 89, 90, 91, 92, 93, 94, 95, 96, 97, 98] (by decide +kernel) (by decide +kernel)
set_option maxRecDepth 20000 in
theorem gX3_writeAll_X3_fails : GoodIn wsX3_writeAll (wsV RX3 40 RX3 yX3_fails wsX3_fails) := goodIn_app (goodIn_of _ (by decide +kernel)) ggX3_writeAll_X3_fails
set_option maxRecDepth 20000 in
theorem ggX3_writeAll_X3_saves : GoodIn wsX3_writeAll wsX3_saves := goodIn_r _ [48, 49, 50, 3, 51, 52, 9, 53, 87, 88, 89, 90, 91, 92, 93, 94, 95, 96, 97, 98] (by decide +kernel) (by decide +kernel)
set_option maxRecDepth 20000 in
theorem gX3_writeAll_X3_saves : GoodIn wsX3_writeAll (wsV RX3 86 RX3 yX3_saves wsX3_saves) := goodIn_app (goodIn_of _ (by decide +kernel)) ggX3_writeAll_X3_saves
set_option maxRecDepth 20000 in
theorem ggX3_writeAll_X3_writes : GoodIn wsX3_writeAll wsX3_writes := goodIn_r _ [56, 57, 58, 9, 59, 60, 61, 62, 63, 64, 65, 66, 67, 68, 69, 70, 71, 72, 73, 74, 75, 76, 77, 78, 79, 80, 81, 82, 83, 84, 85, 86] (by decide +kernel) (by decide +kernel)
set_option maxRecDepth 20000 in
theorem gX3_writeAll_X3_writes : GoodIn wsX3_writeAll (va_wsS RX3 89 yX3_writes wsX3_writes) := goodIn_app (goodIn_of _ (by decide +kernel)) ggX3_writeAll_X3_writes
theorem dX3_writeAll_0 : decode cX3_writeAll 0 = .ok (.aload_n 0, 1) := by decide +kernel
theorem dX3_writeAll_1 : decode cX3_writeAll 1 = .ok (.iconst 0, 1) := by decide +kernel
theorem dX3_writeAll_2 : decode cX3_writeAll 2 = .ok (.putfield 25, 3) := by decide +kernel
theorem dX3_writeAll_5 : decode cX3_writeAll 5 = .ok (.aload_n 0, 1) := by decide +kernel
theorem dX3_writeAll_6 : decode cX3_writeAll 6 = .ok (.invokevirtual 131, 3) := by decide +kernel
theorem dX3_writeAll_9 : decode cX3_writeAll 9 = .ok (.ifCond .ne 9, 3) := by decide +kernel
theorem dX3_writeAll_12 : decode cX3_writeAll 12 = .ok (.aload_n 0, 1) := by decide +kernel
theorem dX3_writeAll_13 : decode cX3_writeAll 13 = .ok (.iconst 1, 1) := by decide +kernel
theorem dX3_writeAll_14 : decode cX3_writeAll 14 = .ok (.invokevirtual 40, 3) := by decide +kernel
theorem dX3_writeAll_17 : decode cX3_writeAll 17 = .ok (.ireturn, 1) := by decide +kernel
theorem dX3_writeAll_18 : decode cX3_writeAll 18 = .ok (.aload_n 0, 1) := by decide +kernel
theorem dX3_writeAll_19 : decode cX3_writeAll 19 = .ok (.invokevirtual 86, 3) := by decide +kernel
theorem dX3_writeAll_22 : decode cX3_writeAll 22 = .ok (.aload_n 0, 1) := by decide +kernel
theorem dX3_writeAll_23 : decode cX3_writeAll 23 = .ok (.iconst 0, 1) := by decide +kernel
theorem dX3_writeAll_24 : decode cX3_writeAll 24 = .ok (.putfield 98, 3) := by decide +kernel
theorem dX3_writeAll_27 : decode cX3_writeAll 27 = .ok (.aload_n 0, 1) := by decide +kernel
theorem dX3_writeAll_28 : decode cX3_writeAll 28 = .ok (.getfield 7, 3) := by decide +kernel
theorem dX3_writeAll_31 : decode cX3_writeAll 31 = .ok (.sipush 360, 3) := by decide +kernel
theorem dX3_writeAll_34 : decode cX3_writeAll 34 = .ok (.iaload, 1) := by decide +kernel
theorem dX3_writeAll_35 : decode cX3_writeAll 35 = .ok (.istore_n 1, 1) := by decide +kernel
theorem dX3_writeAll_36 : decode cX3_writeAll 36 = .ok (.iconst 0, 1) := by decide +kernel
theorem dX3_writeAll_37 : decode cX3_writeAll 37 = .ok (.istore_n 2, 1) := by decide +kernel
theorem dX3_writeAll_38 : decode cX3_writeAll 38 = .ok (.iload_n 2, 1) := by decide +kernel
theorem dX3_writeAll_39 : decode cX3_writeAll 39 = .ok (.aload_n 0, 1) := by decide +kernel
theorem dX3_writeAll_40 : decode cX3_writeAll 40 = .ok (.getfield 115, 3) := by decide +kernel
theorem dX3_writeAll_43 : decode cX3_writeAll 43 = .ok (.if_icmp .ge 58, 3) := by decide +kernel
theorem dX3_writeAll_46 : decode cX3_writeAll 46 = .ok (.aload_n 0, 1) := by decide +kernel
theorem dX3_writeAll_47 : decode cX3_writeAll 47 = .ok (.getfield 22, 3) := by decide +kernel
theorem dX3_writeAll_50 : decode cX3_writeAll 50 = .ok (.iconst 3, 1) := by decide +kernel
theorem dX3_writeAll_51 : decode cX3_writeAll 51 = .ok (.iload_n 2, 1) := by decide +kernel
theorem dX3_writeAll_52 : decode cX3_writeAll 52 = .ok (.imul, 1) := by decide +kernel
theorem dX3_writeAll_53 : decode cX3_writeAll 53 = .ok (.iaload, 1) := by decide +kernel
theorem dX3_writeAll_54 : decode cX3_writeAll 54 = .ok (.istore_n 3, 1) := by decide +kernel
theorem dX3_writeAll_55 : decode cX3_writeAll 55 = .ok (.iload_n 3, 1) := by decide +kernel
theorem dX3_writeAll_56 : decode cX3_writeAll 56 = .ok (.aload_n 0, 1) := by decide +kernel
theorem dX3_writeAll_57 : decode cX3_writeAll 57 = .ok (.getfield 22, 3) := by decide +kernel
theorem dX3_writeAll_60 : decode cX3_writeAll 60 = .ok (.iconst 3, 1) := by decide +kernel
theorem dX3_writeAll_61 : decode cX3_writeAll 61 = .ok (.iload_n 2, 1) := by decide +kernel
theorem dX3_writeAll_62 : decode cX3_writeAll 62 = .ok (.imul, 1) := by decide +kernel
theorem dX3_writeAll_63 : decode cX3_writeAll 63 = .ok (.iconst 1, 1) := by decide +kernel
theorem dX3_writeAll_64 : decode cX3_writeAll 64 = .ok (.iadd, 1) := by decide +kernel
theorem dX3_writeAll_65 : decode cX3_writeAll 65 = .ok (.iaload, 1) := by decide +kernel
theorem dX3_writeAll_66 : decode cX3_writeAll 66 = .ok (.if_icmp .gt 29, 3) := by decide +kernel
theorem dX3_writeAll_69 : decode cX3_writeAll 69 = .ok (.aload_n 0, 1) := by decide +kernel
theorem dX3_writeAll_70 : decode cX3_writeAll 70 = .ok (.getfield 7, 3) := by decide +kernel
theorem dX3_writeAll_73 : decode cX3_writeAll 73 = .ok (.iload_n 3, 1) := by decide +kernel
theorem dX3_writeAll_74 : decode cX3_writeAll 74 = .ok (.aload_n 0, 1) := by decide +kernel
theorem dX3_writeAll_75 : decode cX3_writeAll 75 = .ok (.getfield 22, 3) := by decide +kernel
theorem dX3_writeAll_78 : decode cX3_writeAll 78 = .ok (.iconst 3, 1) := by decide +kernel
theorem dX3_writeAll_79 : decode cX3_writeAll 79 = .ok (.iload_n 2, 1) := by decide +kernel
theorem dX3_writeAll_80 : decode cX3_writeAll 80 = .ok (.imul, 1) := by decide +kernel
theorem dX3_writeAll_81 : decode cX3_writeAll 81 = .ok (.iconst 2, 1) := by decide +kernel
theorem dX3_writeAll_82 : decode cX3_writeAll 82 = .ok (.iadd, 1) := by decide +kernel
theorem dX3_writeAll_83 : decode cX3_writeAll 83 = .ok (.iaload, 1) := by decide +kernel
theorem dX3_writeAll_84 : decode cX3_writeAll 84 = .ok (.invokestatic 89, 3) := by decide +kernel
theorem dX3_writeAll_87 : decode cX3_writeAll 87 = .ok (.istore 4, 2) := by decide +kernel
theorem dX3_writeAll_89 : decode cX3_writeAll 89 = .ok (.iinc 3 1, 3) := by decide +kernel
theorem dX3_writeAll_92 : decode cX3_writeAll 92 = .ok (.goto (-37), 3) := by decide +kernel
theorem dX3_writeAll_95 : decode cX3_writeAll 95 = .ok (.iinc 2 1, 3) := by decide +kernel
theorem dX3_writeAll_98 : decode cX3_writeAll 98 = .ok (.goto (-60), 3) := by decide +kernel
theorem dX3_writeAll_101 : decode cX3_writeAll 101 = .ok (.aload_n 0, 1) := by decide +kernel
theorem dX3_writeAll_102 : decode cX3_writeAll 102 = .ok (.getfield 7, 3) := by decide +kernel
theorem dX3_writeAll_105 : decode cX3_writeAll 105 = .ok (.sipush 360, 3) := by decide +kernel
theorem dX3_writeAll_108 : decode cX3_writeAll 108 = .ok (.iaload, 1) := by decide +kernel
theorem dX3_writeAll_109 : decode cX3_writeAll 109 = .ok (.iload_n 1, 1) := by decide +kernel
theorem dX3_writeAll_110 : decode cX3_writeAll 110 = .ok (.isub, 1) := by decide +kernel
theorem dX3_writeAll_111 : decode cX3_writeAll 111 = .ok (.ireturn, 1) := by decide +kernel
set_option maxRecDepth 20000 in
theorem ggX3_ofPage_X3_of : GoodIn wsX3_ofPage wsX3_of := goodIn_r _ [5] (by decide +kernel) (by decide +kernel)
set_option maxRecDepth 20000 in
theorem gX3_ofPage_X3_of : GoodIn wsX3_ofPage (va_wsS RX3 44 yX3_of wsX3_of) := goodIn_app (goodIn_of _ (by decide +kernel)) ggX3_ofPage_X3_of
theorem dX3_ofPage_0 : decode cX3_ofPage 0 = .ok (.aload_n 0, 1) := by decide +kernel
theorem dX3_ofPage_1 : decode cX3_ofPage 1 = .ok (.getfield 7, 3) := by decide +kernel
theorem dX3_ofPage_4 : decode cX3_ofPage 4 = .ok (.iload_n 1, 1) := by decide +kernel
theorem dX3_ofPage_5 : decode cX3_ofPage 5 = .ok (.iconst 0, 1) := by decide +kernel
theorem dX3_ofPage_6 : decode cX3_ofPage 6 = .ok (.invokestatic 44, 3) := by decide +kernel
theorem dX3_ofPage_9 : decode cX3_ofPage 9 = .ok (.istore_n 3, 1) := by decide +kernel
theorem dX3_ofPage_10 : decode cX3_ofPage 10 = .ok (.iload_n 2, 1) := by decide +kernel
theorem dX3_ofPage_11 : decode cX3_ofPage 11 = .ok (.ifCond .ne 19, 3) := by decide +kernel
theorem dX3_ofPage_14 : decode cX3_ofPage 14 = .ok (.iload_n 3, 1) := by decide +kernel
theorem dX3_ofPage_15 : decode cX3_ofPage 15 = .ok (.iconst (-1), 1) := by decide +kernel
theorem dX3_ofPage_16 : decode cX3_ofPage 16 = .ok (.if_icmp .ne 7, 3) := by decide +kernel
theorem dX3_ofPage_19 : decode cX3_ofPage 19 = .ok (.iconst (-1), 1) := by decide +kernel
theorem dX3_ofPage_20 : decode cX3_ofPage 20 = .ok (.goto 59, 3) := by decide +kernel
theorem dX3_ofPage_23 : decode cX3_ofPage 23 = .ok (.iload_n 3, 1) := by decide +kernel
theorem dX3_ofPage_24 : decode cX3_ofPage 24 = .ok (.bipush 8, 2) := by decide +kernel
theorem dX3_ofPage_26 : decode cX3_ofPage 26 = .ok (.idiv, 1) := by decide +kernel
theorem dX3_ofPage_27 : decode cX3_ofPage 27 = .ok (.goto 52, 3) := by decide +kernel
theorem dX3_ofPage_30 : decode cX3_ofPage 30 = .ok (.iload_n 2, 1) := by decide +kernel
theorem dX3_ofPage_31 : decode cX3_ofPage 31 = .ok (.iconst 1, 1) := by decide +kernel
theorem dX3_ofPage_32 : decode cX3_ofPage 32 = .ok (.if_icmp .ne 19, 3) := by decide +kernel
theorem dX3_ofPage_35 : decode cX3_ofPage 35 = .ok (.iload_n 3, 1) := by decide +kernel
theorem dX3_ofPage_36 : decode cX3_ofPage 36 = .ok (.iconst (-1), 1) := by decide +kernel
theorem dX3_ofPage_37 : decode cX3_ofPage 37 = .ok (.if_icmp .ne 7, 3) := by decide +kernel
theorem dX3_ofPage_40 : decode cX3_ofPage 40 = .ok (.iconst (-1), 1) := by decide +kernel
theorem dX3_ofPage_41 : decode cX3_ofPage 41 = .ok (.goto 38, 3) := by decide +kernel
theorem dX3_ofPage_44 : decode cX3_ofPage 44 = .ok (.iload_n 3, 1) := by decide +kernel
theorem dX3_ofPage_45 : decode cX3_ofPage 45 = .ok (.bipush 8, 2) := by decide +kernel
theorem dX3_ofPage_47 : decode cX3_ofPage 47 = .ok (.irem, 1) := by decide +kernel
theorem dX3_ofPage_48 : decode cX3_ofPage 48 = .ok (.goto 31, 3) := by decide +kernel
theorem dX3_ofPage_51 : decode cX3_ofPage 51 = .ok (.iload_n 2, 1) := by decide +kernel
theorem dX3_ofPage_52 : decode cX3_ofPage 52 = .ok (.iconst 2, 1) := by decide +kernel
theorem dX3_ofPage_53 : decode cX3_ofPage 53 = .ok (.if_icmp .ne 15, 3) := by decide +kernel
theorem dX3_ofPage_56 : decode cX3_ofPage 56 = .ok (.aload_n 0, 1) := by decide +kernel
theorem dX3_ofPage_57 : decode cX3_ofPage 57 = .ok (.getfield 7, 3) := by decide +kernel
theorem dX3_ofPage_60 : decode cX3_ofPage 60 = .ok (.iload_n 1, 1) := by decide +kernel
theorem dX3_ofPage_61 : decode cX3_ofPage 61 = .ok (.iconst 1, 1) := by decide +kernel
theorem dX3_ofPage_62 : decode cX3_ofPage 62 = .ok (.invokestatic 44, 3) := by decide +kernel
theorem dX3_ofPage_65 : decode cX3_ofPage 65 = .ok (.goto 14, 3) := by decide +kernel
theorem dX3_ofPage_68 : decode cX3_ofPage 68 = .ok (.aload_n 0, 1) := by decide +kernel
theorem dX3_ofPage_69 : decode cX3_ofPage 69 = .ok (.getfield 7, 3) := by decide +kernel
theorem dX3_ofPage_72 : decode cX3_ofPage 72 = .ok (.iload_n 1, 1) := by decide +kernel
theorem dX3_ofPage_73 : decode cX3_ofPage 73 = .ok (.iload_n 2, 1) := by decide +kernel
theorem dX3_ofPage_74 : decode cX3_ofPage 74 = .ok (.iconst 1, 1) := by decide +kernel
theorem dX3_ofPage_75 : decode cX3_ofPage 75 = .ok (.isub, 1) := by decide +kernel
theorem dX3_ofPage_76 : decode cX3_ofPage 76 = .ok (.invokestatic 44, 3) := by decide +kernel
theorem dX3_ofPage_79 : decode cX3_ofPage 79 = .ok (.ireturn, 1) := by decide +kernel
set_option maxRecDepth 20000 in
theorem ggX3_page_X3_isPage : GoodIn wsX3_page wsX3_isPage := goodIn_r _ [5, 6, 7, 4, 8] (by decide +kernel) (by decide +kernel)
set_option maxRecDepth 20000 in
theorem gX3_page_X3_isPage : GoodIn wsX3_page (va_wsS RX3 79 yX3_isPage wsX3_isPage) := goodIn_app (goodIn_of _ (by decide +kernel)) ggX3_page_X3_isPage
set_option maxRecDepth 20000 in
theorem ggX3_page_X3_fails : GoodIn wsX3_page wsX3_fails := goodIn_r _ [12, 1, 21, 22, 23, 24, 25, 26, 27, 28, 29, 30, 31, 32] (by decide +kernel) (by decide +kernel)
set_option maxRecDepth 20000 in
theorem gX3_page_X3_fails : GoodIn wsX3_page (wsV RX3 40 RX3 yX3_fails wsX3_fails) := goodIn_app (goodIn_of _ (by decide +kernel)) ggX3_page_X3_fails
set_option maxRecDepth 20000 in
theorem ggX3_page_X3_in : GoodIn wsX3_page wsX3_in := goodIn_r _ [8] (by decide +kernel) (by decide +kernel)
set_option maxRecDepth 20000 in
theorem gX3_page_X3_in : GoodIn wsX3_page (va_wsS RX3 29 yX3_in wsX3_in) := goodIn_app (goodIn_of _ (by decide +kernel)) ggX3_page_X3_in
set_option maxRecDepth 20000 in
theorem ggX3_page_X3_ofPage : GoodIn wsX3_page wsX3_ofPage := goodIn_r _ [16, 17, 18, 19, 4, 20, 21, 22, 23, 24, 25, 26, 27, 28, 29, 30, 31, 32] (by decide +kernel) (by decide +kernel)
set_option maxRecDepth 20000 in
theorem gX3_page_X3_ofPage : GoodIn wsX3_page (wsV RX3 134 RX3 yX3_ofPage wsX3_ofPage) := goodIn_app (goodIn_of _ (by decide +kernel)) ggX3_page_X3_ofPage
theorem dX3_page_0 : decode cX3_page 0 = .ok (.aload_n 0, 1) := by decide +kernel
theorem dX3_page_1 : decode cX3_page 1 = .ok (.iconst 0, 1) := by decide +kernel
theorem dX3_page_2 : decode cX3_page 2 = .ok (.putfield 25, 3) := by decide +kernel
theorem dX3_page_5 : decode cX3_page 5 = .ok (.iload_n 1, 1) := by decide +kernel
theorem dX3_page_6 : decode cX3_page 6 = .ok (.invokestatic 79, 3) := by decide +kernel
theorem dX3_page_9 : decode cX3_page 9 = .ok (.ifCond .ne 9, 3) := by decide +kernel
theorem dX3_page_12 : decode cX3_page 12 = .ok (.aload_n 0, 1) := by decide +kernel
theorem dX3_page_13 : decode cX3_page 13 = .ok (.iconst 1, 1) := by decide +kernel
theorem dX3_page_14 : decode cX3_page 14 = .ok (.invokevirtual 40, 3) := by decide +kernel
theorem dX3_page_17 : decode cX3_page 17 = .ok (.ireturn, 1) := by decide +kernel
theorem dX3_page_18 : decode cX3_page 18 = .ok (.iload_n 2, 1) := by decide +kernel
theorem dX3_page_19 : decode cX3_page 19 = .ok (.iconst 0, 1) := by decide +kernel
theorem dX3_page_20 : decode cX3_page 20 = .ok (.iconst 5, 1) := by decide +kernel
theorem dX3_page_21 : decode cX3_page 21 = .ok (.invokestatic 29, 3) := by decide +kernel
theorem dX3_page_24 : decode cX3_page 24 = .ok (.ifCond .eq 12, 3) := by decide +kernel
theorem dX3_page_27 : decode cX3_page 27 = .ok (.aload_n 0, 1) := by decide +kernel
theorem dX3_page_28 : decode cX3_page 28 = .ok (.iload_n 1, 1) := by decide +kernel
theorem dX3_page_29 : decode cX3_page 29 = .ok (.iload_n 2, 1) := by decide +kernel
theorem dX3_page_30 : decode cX3_page 30 = .ok (.invokevirtual 134, 3) := by decide +kernel
theorem dX3_page_33 : decode cX3_page 33 = .ok (.goto 8, 3) := by decide +kernel
theorem dX3_page_36 : decode cX3_page 36 = .ok (.aload_n 0, 1) := by decide +kernel
theorem dX3_page_37 : decode cX3_page 37 = .ok (.iconst 2, 1) := by decide +kernel
theorem dX3_page_38 : decode cX3_page 38 = .ok (.invokevirtual 40, 3) := by decide +kernel
theorem dX3_page_41 : decode cX3_page 41 = .ok (.ireturn, 1) := by decide +kernel
theorem dX3_closedAhead_0 : decode cX3_closedAhead 0 = .ok (.aload_n 0, 1) := by decide +kernel
theorem dX3_closedAhead_1 : decode cX3_closedAhead 1 = .ok (.getfield 7, 3) := by decide +kernel
theorem dX3_closedAhead_4 : decode cX3_closedAhead 4 = .ok (.bipush 96, 2) := by decide +kernel
theorem dX3_closedAhead_6 : decode cX3_closedAhead 6 = .ok (.iload_n 1, 1) := by decide +kernel
theorem dX3_closedAhead_7 : decode cX3_closedAhead 7 = .ok (.iadd, 1) := by decide +kernel
theorem dX3_closedAhead_8 : decode cX3_closedAhead 8 = .ok (.iaload, 1) := by decide +kernel
theorem dX3_closedAhead_9 : decode cX3_closedAhead 9 = .ok (.iconst 2, 1) := by decide +kernel
theorem dX3_closedAhead_10 : decode cX3_closedAhead 10 = .ok (.if_icmp .eq 5, 3) := by decide +kernel
theorem dX3_closedAhead_13 : decode cX3_closedAhead 13 = .ok (.iconst (-1), 1) := by decide +kernel
theorem dX3_closedAhead_14 : decode cX3_closedAhead 14 = .ok (.ireturn, 1) := by decide +kernel
theorem dX3_closedAhead_15 : decode cX3_closedAhead 15 = .ok (.iconst 0, 1) := by decide +kernel
theorem dX3_closedAhead_16 : decode cX3_closedAhead 16 = .ok (.istore_n 2, 1) := by decide +kernel
theorem dX3_closedAhead_17 : decode cX3_closedAhead 17 = .ok (.iconst 0, 1) := by decide +kernel
theorem dX3_closedAhead_18 : decode cX3_closedAhead 18 = .ok (.istore_n 3, 1) := by decide +kernel
theorem dX3_closedAhead_19 : decode cX3_closedAhead 19 = .ok (.iload_n 3, 1) := by decide +kernel
theorem dX3_closedAhead_20 : decode cX3_closedAhead 20 = .ok (.bipush 12, 2) := by decide +kernel
theorem dX3_closedAhead_22 : decode cX3_closedAhead 22 = .ok (.if_icmp .ge 53, 3) := by decide +kernel
theorem dX3_closedAhead_25 : decode cX3_closedAhead 25 = .ok (.iload_n 2, 1) := by decide +kernel
theorem dX3_closedAhead_26 : decode cX3_closedAhead 26 = .ok (.aload_n 0, 1) := by decide +kernel
theorem dX3_closedAhead_27 : decode cX3_closedAhead 27 = .ok (.getfield 7, 3) := by decide +kernel
theorem dX3_closedAhead_30 : decode cX3_closedAhead 30 = .ok (.bipush 96, 2) := by decide +kernel
theorem dX3_closedAhead_32 : decode cX3_closedAhead 32 = .ok (.iload_n 3, 1) := by decide +kernel
theorem dX3_closedAhead_33 : decode cX3_closedAhead 33 = .ok (.iadd, 1) := by decide +kernel
theorem dX3_closedAhead_34 : decode cX3_closedAhead 34 = .ok (.iaload, 1) := by decide +kernel
theorem dX3_closedAhead_35 : decode cX3_closedAhead 35 = .ok (.iconst 2, 1) := by decide +kernel
theorem dX3_closedAhead_36 : decode cX3_closedAhead 36 = .ok (.if_icmp .ne 30, 3) := by decide +kernel
theorem dX3_closedAhead_39 : decode cX3_closedAhead 39 = .ok (.aload_n 0, 1) := by decide +kernel
theorem dX3_closedAhead_40 : decode cX3_closedAhead 40 = .ok (.getfield 7, 3) := by decide +kernel
theorem dX3_closedAhead_43 : decode cX3_closedAhead 43 = .ok (.sipush 132, 3) := by decide +kernel
theorem dX3_closedAhead_46 : decode cX3_closedAhead 46 = .ok (.iload_n 3, 1) := by decide +kernel
theorem dX3_closedAhead_47 : decode cX3_closedAhead 47 = .ok (.iadd, 1) := by decide +kernel
theorem dX3_closedAhead_48 : decode cX3_closedAhead 48 = .ok (.iaload, 1) := by decide +kernel
theorem dX3_closedAhead_49 : decode cX3_closedAhead 49 = .ok (.aload_n 0, 1) := by decide +kernel
theorem dX3_closedAhead_50 : decode cX3_closedAhead 50 = .ok (.getfield 7, 3) := by decide +kernel
theorem dX3_closedAhead_53 : decode cX3_closedAhead 53 = .ok (.sipush 132, 3) := by decide +kernel
theorem dX3_closedAhead_56 : decode cX3_closedAhead 56 = .ok (.iload_n 1, 1) := by decide +kernel
theorem dX3_closedAhead_57 : decode cX3_closedAhead 57 = .ok (.iadd, 1) := by decide +kernel
theorem dX3_closedAhead_58 : decode cX3_closedAhead 58 = .ok (.iaload, 1) := by decide +kernel
theorem dX3_closedAhead_59 : decode cX3_closedAhead 59 = .ok (.if_icmp .ge 7, 3) := by decide +kernel
theorem dX3_closedAhead_62 : decode cX3_closedAhead 62 = .ok (.iconst 1, 1) := by decide +kernel
theorem dX3_closedAhead_63 : decode cX3_closedAhead 63 = .ok (.goto 4, 3) := by decide +kernel
theorem dX3_closedAhead_66 : decode cX3_closedAhead 66 = .ok (.iconst 0, 1) := by decide +kernel
theorem dX3_closedAhead_67 : decode cX3_closedAhead 67 = .ok (.iadd, 1) := by decide +kernel
theorem dX3_closedAhead_68 : decode cX3_closedAhead 68 = .ok (.istore_n 2, 1) := by decide +kernel
theorem dX3_closedAhead_69 : decode cX3_closedAhead 69 = .ok (.iinc 3 1, 3) := by decide +kernel
theorem dX3_closedAhead_72 : decode cX3_closedAhead 72 = .ok (.goto (-53), 3) := by decide +kernel
theorem dX3_closedAhead_75 : decode cX3_closedAhead 75 = .ok (.iload_n 2, 1) := by decide +kernel
theorem dX3_closedAhead_76 : decode cX3_closedAhead 76 = .ok (.ireturn, 1) := by decide +kernel
set_option maxRecDepth 20000 in
theorem ggX3_unlikeHints_X3_isValid : GoodIn wsX3_unlikeHints wsX3_isValid := goodIn_r _ [5, 6, 7, 4, 8] (by decide +kernel) (by decide +kernel)
set_option maxRecDepth 20000 in
theorem gX3_unlikeHints_X3_isValid : GoodIn wsX3_unlikeHints (va_wsS RX3 48 yX3_isValid wsX3_isValid) := goodIn_app (goodIn_of _ (by decide +kernel)) ggX3_unlikeHints_X3_isValid
set_option maxRecDepth 20000 in
theorem ggX3_unlikeHints_X3_of : GoodIn wsX3_unlikeHints wsX3_of := goodIn_r _ [8] (by decide +kernel) (by decide +kernel)
set_option maxRecDepth 20000 in
theorem gX3_unlikeHints_X3_of : GoodIn wsX3_unlikeHints (va_wsS RX3 44 yX3_of wsX3_of) := goodIn_app (goodIn_of _ (by decide +kernel)) ggX3_unlikeHints_X3_of
theorem dX3_unlikeHints_0 : decode cX3_unlikeHints 0 = .ok (.iconst 0, 1) := by decide +kernel
theorem dX3_unlikeHints_1 : decode cX3_unlikeHints 1 = .ok (.istore_n 2, 1) := by decide +kernel
theorem dX3_unlikeHints_2 : decode cX3_unlikeHints 2 = .ok (.bipush 8, 2) := by decide +kernel
theorem dX3_unlikeHints_4 : decode cX3_unlikeHints 4 = .ok (.iload_n 1, 1) := by decide +kernel
theorem dX3_unlikeHints_5 : decode cX3_unlikeHints 5 = .ok (.imul, 1) := by decide +kernel
theorem dX3_unlikeHints_6 : decode cX3_unlikeHints 6 = .ok (.istore_n 3, 1) := by decide +kernel
theorem dX3_unlikeHints_7 : decode cX3_unlikeHints 7 = .ok (.iload_n 3, 1) := by decide +kernel
theorem dX3_unlikeHints_8 : decode cX3_unlikeHints 8 = .ok (.bipush 8, 2) := by decide +kernel
theorem dX3_unlikeHints_10 : decode cX3_unlikeHints 10 = .ok (.iload_n 1, 1) := by decide +kernel
theorem dX3_unlikeHints_11 : decode cX3_unlikeHints 11 = .ok (.imul, 1) := by decide +kernel
theorem dX3_unlikeHints_12 : decode cX3_unlikeHints 12 = .ok (.bipush 8, 2) := by decide +kernel
theorem dX3_unlikeHints_14 : decode cX3_unlikeHints 14 = .ok (.iadd, 1) := by decide +kernel
theorem dX3_unlikeHints_15 : decode cX3_unlikeHints 15 = .ok (.if_icmp .ge 43, 3) := by decide +kernel
theorem dX3_unlikeHints_18 : decode cX3_unlikeHints 18 = .ok (.iload_n 2, 1) := by decide +kernel
theorem dX3_unlikeHints_19 : decode cX3_unlikeHints 19 = .ok (.aload_n 0, 1) := by decide +kernel
theorem dX3_unlikeHints_20 : decode cX3_unlikeHints 20 = .ok (.getfield 7, 3) := by decide +kernel
theorem dX3_unlikeHints_23 : decode cX3_unlikeHints 23 = .ok (.iload_n 3, 1) := by decide +kernel
theorem dX3_unlikeHints_24 : decode cX3_unlikeHints 24 = .ok (.invokestatic 48, 3) := by decide +kernel
theorem dX3_unlikeHints_27 : decode cX3_unlikeHints 27 = .ok (.ifCond .eq 22, 3) := by decide +kernel
theorem dX3_unlikeHints_30 : decode cX3_unlikeHints 30 = .ok (.iconst 1, 1) := by decide +kernel
theorem dX3_unlikeHints_31 : decode cX3_unlikeHints 31 = .ok (.aload_n 0, 1) := by decide +kernel
theorem dX3_unlikeHints_32 : decode cX3_unlikeHints 32 = .ok (.getfield 7, 3) := by decide +kernel
theorem dX3_unlikeHints_35 : decode cX3_unlikeHints 35 = .ok (.aload_n 0, 1) := by decide +kernel
theorem dX3_unlikeHints_36 : decode cX3_unlikeHints 36 = .ok (.getfield 7, 3) := by decide +kernel
theorem dX3_unlikeHints_39 : decode cX3_unlikeHints 39 = .ok (.iload_n 3, 1) := by decide +kernel
theorem dX3_unlikeHints_40 : decode cX3_unlikeHints 40 = .ok (.iaload, 1) := by decide +kernel
theorem dX3_unlikeHints_41 : decode cX3_unlikeHints 41 = .ok (.iconst 1, 1) := by decide +kernel
theorem dX3_unlikeHints_42 : decode cX3_unlikeHints 42 = .ok (.invokestatic 44, 3) := by decide +kernel
theorem dX3_unlikeHints_45 : decode cX3_unlikeHints 45 = .ok (.ishl, 1) := by decide +kernel
theorem dX3_unlikeHints_46 : decode cX3_unlikeHints 46 = .ok (.goto 4, 3) := by decide +kernel
theorem dX3_unlikeHints_49 : decode cX3_unlikeHints 49 = .ok (.iconst 0, 1) := by decide +kernel
theorem dX3_unlikeHints_50 : decode cX3_unlikeHints 50 = .ok (.ior, 1) := by decide +kernel
theorem dX3_unlikeHints_51 : decode cX3_unlikeHints 51 = .ok (.istore_n 2, 1) := by decide +kernel
theorem dX3_unlikeHints_52 : decode cX3_unlikeHints 52 = .ok (.iinc 3 1, 3) := by decide +kernel
theorem dX3_unlikeHints_55 : decode cX3_unlikeHints 55 = .ok (.goto (-48), 3) := by decide +kernel
theorem dX3_unlikeHints_58 : decode cX3_unlikeHints 58 = .ok (.iload_n 2, 1) := by decide +kernel
theorem dX3_unlikeHints_59 : decode cX3_unlikeHints 59 = .ok (.iconst 1, 1) := by decide +kernel
theorem dX3_unlikeHints_60 : decode cX3_unlikeHints 60 = .ok (.iand, 1) := by decide +kernel
theorem dX3_unlikeHints_61 : decode cX3_unlikeHints 61 = .ok (.iload_n 2, 1) := by decide +kernel
theorem dX3_unlikeHints_62 : decode cX3_unlikeHints 62 = .ok (.iconst 1, 1) := by decide +kernel
theorem dX3_unlikeHints_63 : decode cX3_unlikeHints 63 = .ok (.ishr, 1) := by decide +kernel
theorem dX3_unlikeHints_64 : decode cX3_unlikeHints 64 = .ok (.iconst 1, 1) := by decide +kernel
theorem dX3_unlikeHints_65 : decode cX3_unlikeHints 65 = .ok (.iand, 1) := by decide +kernel
theorem dX3_unlikeHints_66 : decode cX3_unlikeHints 66 = .ok (.iadd, 1) := by decide +kernel
theorem dX3_unlikeHints_67 : decode cX3_unlikeHints 67 = .ok (.iload_n 2, 1) := by decide +kernel
theorem dX3_unlikeHints_68 : decode cX3_unlikeHints 68 = .ok (.iconst 2, 1) := by decide +kernel
theorem dX3_unlikeHints_69 : decode cX3_unlikeHints 69 = .ok (.ishr, 1) := by decide +kernel
theorem dX3_unlikeHints_70 : decode cX3_unlikeHints 70 = .ok (.iconst 1, 1) := by decide +kernel
theorem dX3_unlikeHints_71 : decode cX3_unlikeHints 71 = .ok (.iand, 1) := by decide +kernel
theorem dX3_unlikeHints_72 : decode cX3_unlikeHints 72 = .ok (.iadd, 1) := by decide +kernel
theorem dX3_unlikeHints_73 : decode cX3_unlikeHints 73 = .ok (.iload_n 2, 1) := by decide +kernel
theorem dX3_unlikeHints_74 : decode cX3_unlikeHints 74 = .ok (.iconst 3, 1) := by decide +kernel
theorem dX3_unlikeHints_75 : decode cX3_unlikeHints 75 = .ok (.ishr, 1) := by decide +kernel
theorem dX3_unlikeHints_76 : decode cX3_unlikeHints 76 = .ok (.iconst 1, 1) := by decide +kernel
theorem dX3_unlikeHints_77 : decode cX3_unlikeHints 77 = .ok (.iand, 1) := by decide +kernel
theorem dX3_unlikeHints_78 : decode cX3_unlikeHints 78 = .ok (.iadd, 1) := by decide +kernel
theorem dX3_unlikeHints_79 : decode cX3_unlikeHints 79 = .ok (.ireturn, 1) := by decide +kernel
set_option maxRecDepth 20000 in
theorem ggX3_ofBlock_X3_slots : GoodIn wsX3_ofBlock wsX3_slots := goodIn_r _ [5, 6, 7, 4, 8, 9, 10, 11] (by decide +kernel) (by decide +kernel)
set_option maxRecDepth 20000 in
theorem gX3_ofBlock_X3_slots : GoodIn wsX3_ofBlock (va_wsS RX3 60 yX3_slots wsX3_slots) := goodIn_app (goodIn_of _ (by decide +kernel)) ggX3_ofBlock_X3_slots
set_option maxRecDepth 20000 in
theorem ggX3_ofBlock_X3_closedAhead : GoodIn wsX3_ofBlock wsX3_closedAhead := goodIn_r _ [15, 1, 20, 21, 22, 23, 24, 25, 26, 27, 28, 29, 30, 31] (by decide +kernel) (by decide +kernel)
set_option maxRecDepth 20000 in
theorem gX3_ofBlock_X3_closedAhead : GoodIn wsX3_ofBlock (wsV RX3 138 RX3 yX3_closedAhead wsX3_closedAhead) := goodIn_app (goodIn_of _ (by decide +kernel)) ggX3_ofBlock_X3_closedAhead
set_option maxRecDepth 20000 in
theorem ggX3_ofBlock_X3_unlikeHints : GoodIn wsX3_ofBlock wsX3_unlikeHints := goodIn_r _ [19, 1, 6, 7, 4, 8, 9, 10, 11, 20, 21, 22, 23, 24, 25, 26, 27, 28, 29, 30, 31] (by decide +kernel) (by decide +kernel)
set_option maxRecDepth 20000 in
theorem gX3_ofBlock_X3_unlikeHints : GoodIn wsX3_ofBlock (wsV RX3 141 RX3 yX3_unlikeHints wsX3_unlikeHints) := goodIn_app (goodIn_of _ (by decide +kernel)) ggX3_ofBlock_X3_unlikeHints
theorem dX3_ofBlock_0 : decode cX3_ofBlock 0 = .ok (.iload_n 2, 1) := by decide +kernel
theorem dX3_ofBlock_1 : decode cX3_ofBlock 1 = .ok (.tableswitch 91 0 6 #[43, 53, 63, 63, 63, 75, 85], 43) := by decide +kernel
theorem dX3_ofBlock_44 : decode cX3_ofBlock 44 = .ok (.aload_n 0, 1) := by decide +kernel
theorem dX3_ofBlock_45 : decode cX3_ofBlock 45 = .ok (.getfield 7, 3) := by decide +kernel
theorem dX3_ofBlock_48 : decode cX3_ofBlock 48 = .ok (.bipush 96, 2) := by decide +kernel
theorem dX3_ofBlock_50 : decode cX3_ofBlock 50 = .ok (.iload_n 1, 1) := by decide +kernel
theorem dX3_ofBlock_51 : decode cX3_ofBlock 51 = .ok (.iadd, 1) := by decide +kernel
theorem dX3_ofBlock_52 : decode cX3_ofBlock 52 = .ok (.iaload, 1) := by decide +kernel
theorem dX3_ofBlock_53 : decode cX3_ofBlock 53 = .ok (.ireturn, 1) := by decide +kernel
theorem dX3_ofBlock_54 : decode cX3_ofBlock 54 = .ok (.aload_n 0, 1) := by decide +kernel
theorem dX3_ofBlock_55 : decode cX3_ofBlock 55 = .ok (.getfield 7, 3) := by decide +kernel
theorem dX3_ofBlock_58 : decode cX3_ofBlock 58 = .ok (.bipush 108, 2) := by decide +kernel
theorem dX3_ofBlock_60 : decode cX3_ofBlock 60 = .ok (.iload_n 1, 1) := by decide +kernel
theorem dX3_ofBlock_61 : decode cX3_ofBlock 61 = .ok (.iadd, 1) := by decide +kernel
theorem dX3_ofBlock_62 : decode cX3_ofBlock 62 = .ok (.iaload, 1) := by decide +kernel
theorem dX3_ofBlock_63 : decode cX3_ofBlock 63 = .ok (.ireturn, 1) := by decide +kernel
theorem dX3_ofBlock_64 : decode cX3_ofBlock 64 = .ok (.aload_n 0, 1) := by decide +kernel
theorem dX3_ofBlock_65 : decode cX3_ofBlock 65 = .ok (.getfield 7, 3) := by decide +kernel
theorem dX3_ofBlock_68 : decode cX3_ofBlock 68 = .ok (.iload_n 1, 1) := by decide +kernel
theorem dX3_ofBlock_69 : decode cX3_ofBlock 69 = .ok (.iload_n 2, 1) := by decide +kernel
theorem dX3_ofBlock_70 : decode cX3_ofBlock 70 = .ok (.iconst 2, 1) := by decide +kernel
theorem dX3_ofBlock_71 : decode cX3_ofBlock 71 = .ok (.isub, 1) := by decide +kernel
theorem dX3_ofBlock_72 : decode cX3_ofBlock 72 = .ok (.invokestatic 60, 3) := by decide +kernel
theorem dX3_ofBlock_75 : decode cX3_ofBlock 75 = .ok (.ireturn, 1) := by decide +kernel
theorem dX3_ofBlock_76 : decode cX3_ofBlock 76 = .ok (.aload_n 0, 1) := by decide +kernel
theorem dX3_ofBlock_77 : decode cX3_ofBlock 77 = .ok (.getfield 7, 3) := by decide +kernel
theorem dX3_ofBlock_80 : decode cX3_ofBlock 80 = .ok (.bipush 120, 2) := by decide +kernel
theorem dX3_ofBlock_82 : decode cX3_ofBlock 82 = .ok (.iload_n 1, 1) := by decide +kernel
theorem dX3_ofBlock_83 : decode cX3_ofBlock 83 = .ok (.iadd, 1) := by decide +kernel
theorem dX3_ofBlock_84 : decode cX3_ofBlock 84 = .ok (.iaload, 1) := by decide +kernel
theorem dX3_ofBlock_85 : decode cX3_ofBlock 85 = .ok (.ireturn, 1) := by decide +kernel
theorem dX3_ofBlock_86 : decode cX3_ofBlock 86 = .ok (.aload_n 0, 1) := by decide +kernel
theorem dX3_ofBlock_87 : decode cX3_ofBlock 87 = .ok (.iload_n 1, 1) := by decide +kernel
theorem dX3_ofBlock_88 : decode cX3_ofBlock 88 = .ok (.invokevirtual 138, 3) := by decide +kernel
theorem dX3_ofBlock_91 : decode cX3_ofBlock 91 = .ok (.ireturn, 1) := by decide +kernel
theorem dX3_ofBlock_92 : decode cX3_ofBlock 92 = .ok (.aload_n 0, 1) := by decide +kernel
theorem dX3_ofBlock_93 : decode cX3_ofBlock 93 = .ok (.iload_n 1, 1) := by decide +kernel
theorem dX3_ofBlock_94 : decode cX3_ofBlock 94 = .ok (.invokevirtual 141, 3) := by decide +kernel
theorem dX3_ofBlock_97 : decode cX3_ofBlock 97 = .ok (.ireturn, 1) := by decide +kernel
set_option maxRecDepth 20000 in
theorem ggX3_block_X3_isBlock : GoodIn wsX3_block wsX3_isBlock := goodIn_r _ [5, 6, 7, 4, 8] (by decide +kernel) (by decide +kernel)
set_option maxRecDepth 20000 in
theorem gX3_block_X3_isBlock : GoodIn wsX3_block (va_wsS RX3 95 yX3_isBlock wsX3_isBlock) := goodIn_app (goodIn_of _ (by decide +kernel)) ggX3_block_X3_isBlock
set_option maxRecDepth 20000 in
theorem ggX3_block_X3_fails : GoodIn wsX3_block wsX3_fails := goodIn_r _ [12, 1, 35, 36, 37, 38, 39, 40, 41, 42, 43, 44, 45, 46] (by decide +kernel) (by decide +kernel)
set_option maxRecDepth 20000 in
theorem gX3_block_X3_fails : GoodIn wsX3_block (wsV RX3 40 RX3 yX3_fails wsX3_fails) := goodIn_app (goodIn_of _ (by decide +kernel)) ggX3_block_X3_fails
set_option maxRecDepth 20000 in
theorem ggX3_block_X3_in : GoodIn wsX3_block wsX3_in := goodIn_r _ [8] (by decide +kernel) (by decide +kernel)
set_option maxRecDepth 20000 in
theorem gX3_block_X3_in : GoodIn wsX3_block (va_wsS RX3 29 yX3_in wsX3_in) := goodIn_app (goodIn_of _ (by decide +kernel)) ggX3_block_X3_in
set_option maxRecDepth 20000 in
theorem ggX3_block_X3_ofBlock : GoodIn wsX3_block wsX3_ofBlock := goodIn_r _ [16, 17, 18, 19, 4, 20, 21, 22, 23, 24, 25, 26, 27, 28, 29, 30, 31, 32, 33, 34, 35, 36, 37, 38, 39, 40, 41, 42, 43, 44, 45, 46] (by decide +kernel) (by decide +kernel)
set_option maxRecDepth 20000 in
theorem gX3_block_X3_ofBlock : GoodIn wsX3_block (wsV RX3 144 RX3 yX3_ofBlock wsX3_ofBlock) := goodIn_app (goodIn_of _ (by decide +kernel)) ggX3_block_X3_ofBlock
theorem dX3_block_0 : decode cX3_block 0 = .ok (.aload_n 0, 1) := by decide +kernel
theorem dX3_block_1 : decode cX3_block 1 = .ok (.iconst 0, 1) := by decide +kernel
theorem dX3_block_2 : decode cX3_block 2 = .ok (.putfield 25, 3) := by decide +kernel
theorem dX3_block_5 : decode cX3_block 5 = .ok (.iload_n 1, 1) := by decide +kernel
theorem dX3_block_6 : decode cX3_block 6 = .ok (.invokestatic 95, 3) := by decide +kernel
theorem dX3_block_9 : decode cX3_block 9 = .ok (.ifCond .ne 9, 3) := by decide +kernel
theorem dX3_block_12 : decode cX3_block 12 = .ok (.aload_n 0, 1) := by decide +kernel
theorem dX3_block_13 : decode cX3_block 13 = .ok (.iconst 1, 1) := by decide +kernel
theorem dX3_block_14 : decode cX3_block 14 = .ok (.invokevirtual 40, 3) := by decide +kernel
theorem dX3_block_17 : decode cX3_block 17 = .ok (.ireturn, 1) := by decide +kernel
theorem dX3_block_18 : decode cX3_block 18 = .ok (.iload_n 2, 1) := by decide +kernel
theorem dX3_block_19 : decode cX3_block 19 = .ok (.iconst 0, 1) := by decide +kernel
theorem dX3_block_20 : decode cX3_block 20 = .ok (.bipush 7, 2) := by decide +kernel
theorem dX3_block_22 : decode cX3_block 22 = .ok (.invokestatic 29, 3) := by decide +kernel
theorem dX3_block_25 : decode cX3_block 25 = .ok (.ifCond .eq 12, 3) := by decide +kernel
theorem dX3_block_28 : decode cX3_block 28 = .ok (.aload_n 0, 1) := by decide +kernel
theorem dX3_block_29 : decode cX3_block 29 = .ok (.iload_n 1, 1) := by decide +kernel
theorem dX3_block_30 : decode cX3_block 30 = .ok (.iload_n 2, 1) := by decide +kernel
theorem dX3_block_31 : decode cX3_block 31 = .ok (.invokevirtual 144, 3) := by decide +kernel
theorem dX3_block_34 : decode cX3_block 34 = .ok (.goto 8, 3) := by decide +kernel
theorem dX3_block_37 : decode cX3_block 37 = .ok (.aload_n 0, 1) := by decide +kernel
theorem dX3_block_38 : decode cX3_block 38 = .ok (.iconst 2, 1) := by decide +kernel
theorem dX3_block_39 : decode cX3_block 39 = .ok (.invokevirtual 40, 3) := by decide +kernel
theorem dX3_block_42 : decode cX3_block 42 = .ok (.ireturn, 1) := by decide +kernel
set_option maxRecDepth 20000 in
theorem ggX3_slot_X3_isBlock : GoodIn wsX3_slot wsX3_isBlock := goodIn_r _ [6, 7, 8, 5, 9] (by decide +kernel) (by decide +kernel)
set_option maxRecDepth 20000 in
theorem gX3_slot_X3_isBlock : GoodIn wsX3_slot (va_wsS RX3 95 yX3_isBlock wsX3_isBlock) := goodIn_app (goodIn_of _ (by decide +kernel)) ggX3_slot_X3_isBlock
set_option maxRecDepth 20000 in
theorem ggX3_slot_X3_in : GoodIn wsX3_slot wsX3_in := goodIn_r _ [9] (by decide +kernel) (by decide +kernel)
set_option maxRecDepth 20000 in
theorem gX3_slot_X3_in : GoodIn wsX3_slot (va_wsS RX3 29 yX3_in wsX3_in) := goodIn_app (goodIn_of _ (by decide +kernel)) ggX3_slot_X3_in
set_option maxRecDepth 20000 in
theorem ggX3_slot_X3_fails : GoodIn wsX3_slot wsX3_fails := goodIn_r _ [13, 1, 20, 21, 22, 23, 24, 25, 26, 27, 28, 29, 30, 31] (by decide +kernel) (by decide +kernel)
set_option maxRecDepth 20000 in
theorem gX3_slot_X3_fails : GoodIn wsX3_slot (wsV RX3 40 RX3 yX3_fails wsX3_fails) := goodIn_app (goodIn_of _ (by decide +kernel)) ggX3_slot_X3_fails
set_option maxRecDepth 20000 in
theorem ggX3_slot_X3_isValid : GoodIn wsX3_slot wsX3_isValid := goodIn_r _ [16, 17, 18, 5, 19] (by decide +kernel) (by decide +kernel)
set_option maxRecDepth 20000 in
theorem gX3_slot_X3_isValid : GoodIn wsX3_slot (va_wsS RX3 48 yX3_isValid wsX3_isValid) := goodIn_app (goodIn_of _ (by decide +kernel)) ggX3_slot_X3_isValid
theorem dX3_slot_0 : decode cX3_slot 0 = .ok (.aload_n 0, 1) := by decide +kernel
theorem dX3_slot_1 : decode cX3_slot 1 = .ok (.iconst 0, 1) := by decide +kernel
theorem dX3_slot_2 : decode cX3_slot 2 = .ok (.putfield 25, 3) := by decide +kernel
theorem dX3_slot_5 : decode cX3_slot 5 = .ok (.iload_n 1, 1) := by decide +kernel
theorem dX3_slot_6 : decode cX3_slot 6 = .ok (.invokestatic 95, 3) := by decide +kernel
theorem dX3_slot_9 : decode cX3_slot 9 = .ok (.ifCond .eq 13, 3) := by decide +kernel
theorem dX3_slot_12 : decode cX3_slot 12 = .ok (.iload_n 2, 1) := by decide +kernel
theorem dX3_slot_13 : decode cX3_slot 13 = .ok (.iconst 0, 1) := by decide +kernel
theorem dX3_slot_14 : decode cX3_slot 14 = .ok (.bipush 7, 2) := by decide +kernel
theorem dX3_slot_16 : decode cX3_slot 16 = .ok (.invokestatic 29, 3) := by decide +kernel
theorem dX3_slot_19 : decode cX3_slot 19 = .ok (.ifCond .ne 9, 3) := by decide +kernel
theorem dX3_slot_22 : decode cX3_slot 22 = .ok (.aload_n 0, 1) := by decide +kernel
theorem dX3_slot_23 : decode cX3_slot 23 = .ok (.iconst 1, 1) := by decide +kernel
theorem dX3_slot_24 : decode cX3_slot 24 = .ok (.invokevirtual 40, 3) := by decide +kernel
theorem dX3_slot_27 : decode cX3_slot 27 = .ok (.ireturn, 1) := by decide +kernel
theorem dX3_slot_28 : decode cX3_slot 28 = .ok (.bipush 8, 2) := by decide +kernel
theorem dX3_slot_30 : decode cX3_slot 30 = .ok (.iload_n 1, 1) := by decide +kernel
theorem dX3_slot_31 : decode cX3_slot 31 = .ok (.imul, 1) := by decide +kernel
theorem dX3_slot_32 : decode cX3_slot 32 = .ok (.iload_n 2, 1) := by decide +kernel
theorem dX3_slot_33 : decode cX3_slot 33 = .ok (.iadd, 1) := by decide +kernel
theorem dX3_slot_34 : decode cX3_slot 34 = .ok (.istore 4, 2) := by decide +kernel
theorem dX3_slot_36 : decode cX3_slot 36 = .ok (.iload_n 3, 1) := by decide +kernel
theorem dX3_slot_37 : decode cX3_slot 37 = .ok (.ifCond .eq 19, 3) := by decide +kernel
theorem dX3_slot_40 : decode cX3_slot 40 = .ok (.aload_n 0, 1) := by decide +kernel
theorem dX3_slot_41 : decode cX3_slot 41 = .ok (.getfield 7, 3) := by decide +kernel
theorem dX3_slot_44 : decode cX3_slot 44 = .ok (.iload 4, 2) := by decide +kernel
theorem dX3_slot_46 : decode cX3_slot 46 = .ok (.invokestatic 48, 3) := by decide +kernel
theorem dX3_slot_49 : decode cX3_slot 49 = .ok (.ifCond .ne 7, 3) := by decide +kernel
theorem dX3_slot_52 : decode cX3_slot 52 = .ok (.iconst (-1), 1) := by decide +kernel
theorem dX3_slot_53 : decode cX3_slot 53 = .ok (.goto 10, 3) := by decide +kernel
theorem dX3_slot_56 : decode cX3_slot 56 = .ok (.aload_n 0, 1) := by decide +kernel
theorem dX3_slot_57 : decode cX3_slot 57 = .ok (.getfield 7, 3) := by decide +kernel
theorem dX3_slot_60 : decode cX3_slot 60 = .ok (.iload 4, 2) := by decide +kernel
theorem dX3_slot_62 : decode cX3_slot 62 = .ok (.iaload, 1) := by decide +kernel
theorem dX3_slot_63 : decode cX3_slot 63 = .ok (.ireturn, 1) := by decide +kernel
set_option maxRecDepth 20000 in
theorem ggX3_withHint_X3_of : GoodIn wsX3_withHint wsX3_of := goodIn_r _ [5] (by decide +kernel) (by decide +kernel)
set_option maxRecDepth 20000 in
theorem gX3_withHint_X3_of : GoodIn wsX3_withHint (va_wsS RX3 44 yX3_of wsX3_of) := goodIn_app (goodIn_of _ (by decide +kernel)) ggX3_withHint_X3_of
theorem dX3_withHint_0 : decode cX3_withHint 0 = .ok (.iconst 0, 1) := by decide +kernel
theorem dX3_withHint_1 : decode cX3_withHint 1 = .ok (.istore_n 2, 1) := by decide +kernel
theorem dX3_withHint_2 : decode cX3_withHint 2 = .ok (.iconst 0, 1) := by decide +kernel
theorem dX3_withHint_3 : decode cX3_withHint 3 = .ok (.istore_n 3, 1) := by decide +kernel
theorem dX3_withHint_4 : decode cX3_withHint 4 = .ok (.iload_n 3, 1) := by decide +kernel
theorem dX3_withHint_5 : decode cX3_withHint 5 = .ok (.bipush 40, 2) := by decide +kernel
theorem dX3_withHint_7 : decode cX3_withHint 7 = .ok (.if_icmp .ge 30, 3) := by decide +kernel
theorem dX3_withHint_10 : decode cX3_withHint 10 = .ok (.iload_n 2, 1) := by decide +kernel
theorem dX3_withHint_11 : decode cX3_withHint 11 = .ok (.aload_n 0, 1) := by decide +kernel
theorem dX3_withHint_12 : decode cX3_withHint 12 = .ok (.getfield 7, 3) := by decide +kernel
theorem dX3_withHint_15 : decode cX3_withHint 15 = .ok (.iload_n 3, 1) := by decide +kernel
theorem dX3_withHint_16 : decode cX3_withHint 16 = .ok (.iconst 1, 1) := by decide +kernel
theorem dX3_withHint_17 : decode cX3_withHint 17 = .ok (.invokestatic 44, 3) := by decide +kernel
theorem dX3_withHint_20 : decode cX3_withHint 20 = .ok (.iload_n 1, 1) := by decide +kernel
theorem dX3_withHint_21 : decode cX3_withHint 21 = .ok (.if_icmp .ne 7, 3) := by decide +kernel
theorem dX3_withHint_24 : decode cX3_withHint 24 = .ok (.iconst 1, 1) := by decide +kernel
theorem dX3_withHint_25 : decode cX3_withHint 25 = .ok (.goto 4, 3) := by decide +kernel
theorem dX3_withHint_28 : decode cX3_withHint 28 = .ok (.iconst 0, 1) := by decide +kernel
theorem dX3_withHint_29 : decode cX3_withHint 29 = .ok (.iadd, 1) := by decide +kernel
theorem dX3_withHint_30 : decode cX3_withHint 30 = .ok (.istore_n 2, 1) := by decide +kernel
theorem dX3_withHint_31 : decode cX3_withHint 31 = .ok (.iinc 3 1, 3) := by decide +kernel
theorem dX3_withHint_34 : decode cX3_withHint 34 = .ok (.goto (-30), 3) := by decide +kernel
theorem dX3_withHint_37 : decode cX3_withHint 37 = .ok (.iload_n 2, 1) := by decide +kernel
theorem dX3_withHint_38 : decode cX3_withHint 38 = .ok (.ireturn, 1) := by decide +kernel
set_option maxRecDepth 20000 in
theorem ggX3_ofStream_X3_withHint : GoodIn wsX3_ofStream wsX3_withHint := goodIn_r _ [6, 1, 7, 8, 5, 9, 10, 11, 12, 13, 14, 15, 16, 17, 18, 19, 20, 21] (by decide +kernel) (by decide +kernel)
set_option maxRecDepth 20000 in
theorem gX3_ofStream_X3_withHint : GoodIn wsX3_ofStream (wsV RX3 147 RX3 yX3_withHint wsX3_withHint) := goodIn_app (goodIn_of _ (by decide +kernel)) ggX3_ofStream_X3_withHint
theorem dX3_ofStream_0 : decode cX3_ofStream 0 = .ok (.aload_n 0, 1) := by decide +kernel
theorem dX3_ofStream_1 : decode cX3_ofStream 1 = .ok (.getfield 7, 3) := by decide +kernel
theorem dX3_ofStream_4 : decode cX3_ofStream 4 = .ok (.sipush 344, 3) := by decide +kernel
theorem dX3_ofStream_7 : decode cX3_ofStream 7 = .ok (.iconst 2, 1) := by decide +kernel
theorem dX3_ofStream_8 : decode cX3_ofStream 8 = .ok (.iload_n 1, 1) := by decide +kernel
theorem dX3_ofStream_9 : decode cX3_ofStream 9 = .ok (.imul, 1) := by decide +kernel
theorem dX3_ofStream_10 : decode cX3_ofStream 10 = .ok (.iadd, 1) := by decide +kernel
theorem dX3_ofStream_11 : decode cX3_ofStream 11 = .ok (.iconst 1, 1) := by decide +kernel
theorem dX3_ofStream_12 : decode cX3_ofStream 12 = .ok (.iadd, 1) := by decide +kernel
theorem dX3_ofStream_13 : decode cX3_ofStream 13 = .ok (.iaload, 1) := by decide +kernel
theorem dX3_ofStream_14 : decode cX3_ofStream 14 = .ok (.istore_n 3, 1) := by decide +kernel
theorem dX3_ofStream_15 : decode cX3_ofStream 15 = .ok (.iload_n 1, 1) := by decide +kernel
theorem dX3_ofStream_16 : decode cX3_ofStream 16 = .ok (.iconst 4, 1) := by decide +kernel
theorem dX3_ofStream_17 : decode cX3_ofStream 17 = .ok (.if_icmp .ne 7, 3) := by decide +kernel
theorem dX3_ofStream_20 : decode cX3_ofStream 20 = .ok (.iconst 0, 1) := by decide +kernel
theorem dX3_ofStream_21 : decode cX3_ofStream 21 = .ok (.goto 13, 3) := by decide +kernel
theorem dX3_ofStream_24 : decode cX3_ofStream 24 = .ok (.aload_n 0, 1) := by decide +kernel
theorem dX3_ofStream_25 : decode cX3_ofStream 25 = .ok (.getfield 7, 3) := by decide +kernel
theorem dX3_ofStream_28 : decode cX3_ofStream 28 = .ok (.sipush 354, 3) := by decide +kernel
theorem dX3_ofStream_31 : decode cX3_ofStream 31 = .ok (.iload_n 1, 1) := by decide +kernel
theorem dX3_ofStream_32 : decode cX3_ofStream 32 = .ok (.iadd, 1) := by decide +kernel
theorem dX3_ofStream_33 : decode cX3_ofStream 33 = .ok (.iaload, 1) := by decide +kernel
theorem dX3_ofStream_34 : decode cX3_ofStream 34 = .ok (.istore 4, 2) := by decide +kernel
theorem dX3_ofStream_36 : decode cX3_ofStream 36 = .ok (.iload_n 2, 1) := by decide +kernel
theorem dX3_ofStream_37 : decode cX3_ofStream 37 = .ok (.tableswitch 64 0 3 #[31, 44, 46, 61], 31) := by decide +kernel
theorem dX3_ofStream_68 : decode cX3_ofStream 68 = .ok (.aload_n 0, 1) := by decide +kernel
theorem dX3_ofStream_69 : decode cX3_ofStream 69 = .ok (.getfield 7, 3) := by decide +kernel
theorem dX3_ofStream_72 : decode cX3_ofStream 72 = .ok (.sipush 344, 3) := by decide +kernel
theorem dX3_ofStream_75 : decode cX3_ofStream 75 = .ok (.iconst 2, 1) := by decide +kernel
theorem dX3_ofStream_76 : decode cX3_ofStream 76 = .ok (.iload_n 1, 1) := by decide +kernel
theorem dX3_ofStream_77 : decode cX3_ofStream 77 = .ok (.imul, 1) := by decide +kernel
theorem dX3_ofStream_78 : decode cX3_ofStream 78 = .ok (.iadd, 1) := by decide +kernel
theorem dX3_ofStream_79 : decode cX3_ofStream 79 = .ok (.iaload, 1) := by decide +kernel
theorem dX3_ofStream_80 : decode cX3_ofStream 80 = .ok (.ireturn, 1) := by decide +kernel
theorem dX3_ofStream_81 : decode cX3_ofStream 81 = .ok (.iload_n 3, 1) := by decide +kernel
theorem dX3_ofStream_82 : decode cX3_ofStream 82 = .ok (.ireturn, 1) := by decide +kernel
theorem dX3_ofStream_83 : decode cX3_ofStream 83 = .ok (.iload_n 1, 1) := by decide +kernel
theorem dX3_ofStream_84 : decode cX3_ofStream 84 = .ok (.iconst 4, 1) := by decide +kernel
theorem dX3_ofStream_85 : decode cX3_ofStream 85 = .ok (.if_icmp .ne 7, 3) := by decide +kernel
theorem dX3_ofStream_88 : decode cX3_ofStream 88 = .ok (.iconst 0, 1) := by decide +kernel
theorem dX3_ofStream_89 : decode cX3_ofStream 89 = .ok (.goto 8, 3) := by decide +kernel
theorem dX3_ofStream_92 : decode cX3_ofStream 92 = .ok (.aload_n 0, 1) := by decide +kernel
theorem dX3_ofStream_93 : decode cX3_ofStream 93 = .ok (.iload_n 1, 1) := by decide +kernel
theorem dX3_ofStream_94 : decode cX3_ofStream 94 = .ok (.invokevirtual 147, 3) := by decide +kernel
theorem dX3_ofStream_97 : decode cX3_ofStream 97 = .ok (.ireturn, 1) := by decide +kernel
theorem dX3_ofStream_98 : decode cX3_ofStream 98 = .ok (.iload 4, 2) := by decide +kernel
theorem dX3_ofStream_100 : decode cX3_ofStream 100 = .ok (.ireturn, 1) := by decide +kernel
theorem dX3_ofStream_101 : decode cX3_ofStream 101 = .ok (.iload_n 3, 1) := by decide +kernel
theorem dX3_ofStream_102 : decode cX3_ofStream 102 = .ok (.ifCond .ne 7, 3) := by decide +kernel
theorem dX3_ofStream_105 : decode cX3_ofStream 105 = .ok (.iconst 0, 1) := by decide +kernel
theorem dX3_ofStream_106 : decode cX3_ofStream 106 = .ok (.goto 12, 3) := by decide +kernel
theorem dX3_ofStream_109 : decode cX3_ofStream 109 = .ok (.bipush 100, 2) := by decide +kernel
theorem dX3_ofStream_111 : decode cX3_ofStream 111 = .ok (.iload_n 3, 1) := by decide +kernel
theorem dX3_ofStream_112 : decode cX3_ofStream 112 = .ok (.iload 4, 2) := by decide +kernel
theorem dX3_ofStream_114 : decode cX3_ofStream 114 = .ok (.iadd, 1) := by decide +kernel
theorem dX3_ofStream_115 : decode cX3_ofStream 115 = .ok (.imul, 1) := by decide +kernel
theorem dX3_ofStream_116 : decode cX3_ofStream 116 = .ok (.iload_n 3, 1) := by decide +kernel
theorem dX3_ofStream_117 : decode cX3_ofStream 117 = .ok (.idiv, 1) := by decide +kernel
theorem dX3_ofStream_118 : decode cX3_ofStream 118 = .ok (.ireturn, 1) := by decide +kernel
set_option maxRecDepth 20000 in
theorem ggX3_stream_X3_in : GoodIn wsX3_stream wsX3_in := goodIn_r _ [5] (by decide +kernel) (by decide +kernel)
set_option maxRecDepth 20000 in
theorem gX3_stream_X3_in : GoodIn wsX3_stream (va_wsS RX3 29 yX3_in wsX3_in) := goodIn_app (goodIn_of _ (by decide +kernel)) ggX3_stream_X3_in
set_option maxRecDepth 20000 in
theorem ggX3_stream_X3_fails : GoodIn wsX3_stream wsX3_fails := goodIn_r _ [9, 1, 22, 23, 24, 25, 26, 27, 28, 29, 30, 31, 32, 33] (by decide +kernel) (by decide +kernel)
set_option maxRecDepth 20000 in
theorem gX3_stream_X3_fails : GoodIn wsX3_stream (wsV RX3 40 RX3 yX3_fails wsX3_fails) := goodIn_app (goodIn_of _ (by decide +kernel)) ggX3_stream_X3_fails
set_option maxRecDepth 20000 in
theorem ggX3_stream_X3_ofStream : GoodIn wsX3_stream wsX3_ofStream := goodIn_r _ [13, 14, 15, 16, 17, 4, 18, 19, 20, 21, 22, 23, 24, 25, 26, 27, 28, 29, 30, 31, 32, 33] (by decide +kernel) (by decide +kernel)
set_option maxRecDepth 20000 in
theorem gX3_stream_X3_ofStream : GoodIn wsX3_stream (wsV RX3 150 RX3 yX3_ofStream wsX3_ofStream) := goodIn_app (goodIn_of _ (by decide +kernel)) ggX3_stream_X3_ofStream
theorem dX3_stream_0 : decode cX3_stream 0 = .ok (.aload_n 0, 1) := by decide +kernel
theorem dX3_stream_1 : decode cX3_stream 1 = .ok (.iconst 0, 1) := by decide +kernel
theorem dX3_stream_2 : decode cX3_stream 2 = .ok (.putfield 25, 3) := by decide +kernel
theorem dX3_stream_5 : decode cX3_stream 5 = .ok (.iload_n 1, 1) := by decide +kernel
theorem dX3_stream_6 : decode cX3_stream 6 = .ok (.iconst 0, 1) := by decide +kernel
theorem dX3_stream_7 : decode cX3_stream 7 = .ok (.iconst 4, 1) := by decide +kernel
theorem dX3_stream_8 : decode cX3_stream 8 = .ok (.invokestatic 29, 3) := by decide +kernel
theorem dX3_stream_11 : decode cX3_stream 11 = .ok (.ifCond .ne 9, 3) := by decide +kernel
theorem dX3_stream_14 : decode cX3_stream 14 = .ok (.aload_n 0, 1) := by decide +kernel
theorem dX3_stream_15 : decode cX3_stream 15 = .ok (.iconst 1, 1) := by decide +kernel
theorem dX3_stream_16 : decode cX3_stream 16 = .ok (.invokevirtual 40, 3) := by decide +kernel
theorem dX3_stream_19 : decode cX3_stream 19 = .ok (.ireturn, 1) := by decide +kernel
theorem dX3_stream_20 : decode cX3_stream 20 = .ok (.iload_n 2, 1) := by decide +kernel
theorem dX3_stream_21 : decode cX3_stream 21 = .ok (.iconst 0, 1) := by decide +kernel
theorem dX3_stream_22 : decode cX3_stream 22 = .ok (.iconst 4, 1) := by decide +kernel
theorem dX3_stream_23 : decode cX3_stream 23 = .ok (.invokestatic 29, 3) := by decide +kernel
theorem dX3_stream_26 : decode cX3_stream 26 = .ok (.ifCond .eq 12, 3) := by decide +kernel
theorem dX3_stream_29 : decode cX3_stream 29 = .ok (.aload_n 0, 1) := by decide +kernel
theorem dX3_stream_30 : decode cX3_stream 30 = .ok (.iload_n 1, 1) := by decide +kernel
theorem dX3_stream_31 : decode cX3_stream 31 = .ok (.iload_n 2, 1) := by decide +kernel
theorem dX3_stream_32 : decode cX3_stream 32 = .ok (.invokevirtual 150, 3) := by decide +kernel
theorem dX3_stream_35 : decode cX3_stream 35 = .ok (.goto 8, 3) := by decide +kernel
theorem dX3_stream_38 : decode cX3_stream 38 = .ok (.aload_n 0, 1) := by decide +kernel
theorem dX3_stream_39 : decode cX3_stream 39 = .ok (.iconst 2, 1) := by decide +kernel
theorem dX3_stream_40 : decode cX3_stream 40 = .ok (.invokevirtual 40, 3) := by decide +kernel
theorem dX3_stream_43 : decode cX3_stream 43 = .ok (.ireturn, 1) := by decide +kernel
set_option maxRecDepth 20000 in
theorem ggX3_allSlots_X3_slots : GoodIn wsX3_allSlots wsX3_slots := goodIn_r _ [5, 6, 7, 4, 8, 9, 10, 11] (by decide +kernel) (by decide +kernel)
set_option maxRecDepth 20000 in
theorem gX3_allSlots_X3_slots : GoodIn wsX3_allSlots (va_wsS RX3 60 yX3_slots wsX3_slots) := goodIn_app (goodIn_of _ (by decide +kernel)) ggX3_allSlots_X3_slots
theorem dX3_allSlots_0 : decode cX3_allSlots 0 = .ok (.iconst 0, 1) := by decide +kernel
theorem dX3_allSlots_1 : decode cX3_allSlots 1 = .ok (.istore_n 2, 1) := by decide +kernel
theorem dX3_allSlots_2 : decode cX3_allSlots 2 = .ok (.iconst 0, 1) := by decide +kernel
theorem dX3_allSlots_3 : decode cX3_allSlots 3 = .ok (.istore_n 3, 1) := by decide +kernel
theorem dX3_allSlots_4 : decode cX3_allSlots 4 = .ok (.iload_n 3, 1) := by decide +kernel
theorem dX3_allSlots_5 : decode cX3_allSlots 5 = .ok (.bipush 12, 2) := by decide +kernel
theorem dX3_allSlots_7 : decode cX3_allSlots 7 = .ok (.if_icmp .ge 21, 3) := by decide +kernel
theorem dX3_allSlots_10 : decode cX3_allSlots 10 = .ok (.iload_n 2, 1) := by decide +kernel
theorem dX3_allSlots_11 : decode cX3_allSlots 11 = .ok (.aload_n 0, 1) := by decide +kernel
theorem dX3_allSlots_12 : decode cX3_allSlots 12 = .ok (.getfield 7, 3) := by decide +kernel
theorem dX3_allSlots_15 : decode cX3_allSlots 15 = .ok (.iload_n 3, 1) := by decide +kernel
theorem dX3_allSlots_16 : decode cX3_allSlots 16 = .ok (.iload_n 1, 1) := by decide +kernel
theorem dX3_allSlots_17 : decode cX3_allSlots 17 = .ok (.invokestatic 60, 3) := by decide +kernel
theorem dX3_allSlots_20 : decode cX3_allSlots 20 = .ok (.iadd, 1) := by decide +kernel
theorem dX3_allSlots_21 : decode cX3_allSlots 21 = .ok (.istore_n 2, 1) := by decide +kernel
theorem dX3_allSlots_22 : decode cX3_allSlots 22 = .ok (.iinc 3 1, 3) := by decide +kernel
theorem dX3_allSlots_25 : decode cX3_allSlots 25 = .ok (.goto (-21), 3) := by decide +kernel
theorem dX3_allSlots_28 : decode cX3_allSlots 28 = .ok (.iload_n 2, 1) := by decide +kernel
theorem dX3_allSlots_29 : decode cX3_allSlots 29 = .ok (.ireturn, 1) := by decide +kernel
theorem dX3_unlikeErasures_0 : decode cX3_unlikeErasures 0 = .ok (.aload_n 0, 1) := by decide +kernel
theorem dX3_unlikeErasures_1 : decode cX3_unlikeErasures 1 = .ok (.getfield 7, 3) := by decide +kernel
theorem dX3_unlikeErasures_4 : decode cX3_unlikeErasures 4 = .ok (.bipush 120, 2) := by decide +kernel
theorem dX3_unlikeErasures_6 : decode cX3_unlikeErasures 6 = .ok (.iaload, 1) := by decide +kernel
theorem dX3_unlikeErasures_7 : decode cX3_unlikeErasures 7 = .ok (.istore_n 1, 1) := by decide +kernel
theorem dX3_unlikeErasures_8 : decode cX3_unlikeErasures 8 = .ok (.aload_n 0, 1) := by decide +kernel
theorem dX3_unlikeErasures_9 : decode cX3_unlikeErasures 9 = .ok (.getfield 7, 3) := by decide +kernel
theorem dX3_unlikeErasures_12 : decode cX3_unlikeErasures 12 = .ok (.bipush 120, 2) := by decide +kernel
theorem dX3_unlikeErasures_14 : decode cX3_unlikeErasures 14 = .ok (.iaload, 1) := by decide +kernel
theorem dX3_unlikeErasures_15 : decode cX3_unlikeErasures 15 = .ok (.istore_n 2, 1) := by decide +kernel
theorem dX3_unlikeErasures_16 : decode cX3_unlikeErasures 16 = .ok (.iconst 1, 1) := by decide +kernel
theorem dX3_unlikeErasures_17 : decode cX3_unlikeErasures 17 = .ok (.istore_n 3, 1) := by decide +kernel
theorem dX3_unlikeErasures_18 : decode cX3_unlikeErasures 18 = .ok (.iload_n 3, 1) := by decide +kernel
theorem dX3_unlikeErasures_19 : decode cX3_unlikeErasures 19 = .ok (.bipush 12, 2) := by decide +kernel
theorem dX3_unlikeErasures_21 : decode cX3_unlikeErasures 21 = .ok (.if_icmp .ge 63, 3) := by decide +kernel
theorem dX3_unlikeErasures_24 : decode cX3_unlikeErasures 24 = .ok (.aload_n 0, 1) := by decide +kernel
theorem dX3_unlikeErasures_25 : decode cX3_unlikeErasures 25 = .ok (.getfield 7, 3) := by decide +kernel
theorem dX3_unlikeErasures_28 : decode cX3_unlikeErasures 28 = .ok (.bipush 120, 2) := by decide +kernel
theorem dX3_unlikeErasures_30 : decode cX3_unlikeErasures 30 = .ok (.iload_n 3, 1) := by decide +kernel
theorem dX3_unlikeErasures_31 : decode cX3_unlikeErasures 31 = .ok (.iadd, 1) := by decide +kernel
theorem dX3_unlikeErasures_32 : decode cX3_unlikeErasures 32 = .ok (.iaload, 1) := by decide +kernel
theorem dX3_unlikeErasures_33 : decode cX3_unlikeErasures 33 = .ok (.iload_n 1, 1) := by decide +kernel
theorem dX3_unlikeErasures_34 : decode cX3_unlikeErasures 34 = .ok (.if_icmp .ge 15, 3) := by decide +kernel
theorem dX3_unlikeErasures_37 : decode cX3_unlikeErasures 37 = .ok (.aload_n 0, 1) := by decide +kernel
theorem dX3_unlikeErasures_38 : decode cX3_unlikeErasures 38 = .ok (.getfield 7, 3) := by decide +kernel
theorem dX3_unlikeErasures_41 : decode cX3_unlikeErasures 41 = .ok (.bipush 120, 2) := by decide +kernel
theorem dX3_unlikeErasures_43 : decode cX3_unlikeErasures 43 = .ok (.iload_n 3, 1) := by decide +kernel
theorem dX3_unlikeErasures_44 : decode cX3_unlikeErasures 44 = .ok (.iadd, 1) := by decide +kernel
theorem dX3_unlikeErasures_45 : decode cX3_unlikeErasures 45 = .ok (.iaload, 1) := by decide +kernel
theorem dX3_unlikeErasures_46 : decode cX3_unlikeErasures 46 = .ok (.goto 4, 3) := by decide +kernel
theorem dX3_unlikeErasures_49 : decode cX3_unlikeErasures 49 = .ok (.iload_n 1, 1) := by decide +kernel
theorem dX3_unlikeErasures_50 : decode cX3_unlikeErasures 50 = .ok (.istore_n 1, 1) := by decide +kernel
theorem dX3_unlikeErasures_51 : decode cX3_unlikeErasures 51 = .ok (.aload_n 0, 1) := by decide +kernel
theorem dX3_unlikeErasures_52 : decode cX3_unlikeErasures 52 = .ok (.getfield 7, 3) := by decide +kernel
theorem dX3_unlikeErasures_55 : decode cX3_unlikeErasures 55 = .ok (.bipush 120, 2) := by decide +kernel
theorem dX3_unlikeErasures_57 : decode cX3_unlikeErasures 57 = .ok (.iload_n 3, 1) := by decide +kernel
theorem dX3_unlikeErasures_58 : decode cX3_unlikeErasures 58 = .ok (.iadd, 1) := by decide +kernel
theorem dX3_unlikeErasures_59 : decode cX3_unlikeErasures 59 = .ok (.iaload, 1) := by decide +kernel
theorem dX3_unlikeErasures_60 : decode cX3_unlikeErasures 60 = .ok (.iload_n 2, 1) := by decide +kernel
theorem dX3_unlikeErasures_61 : decode cX3_unlikeErasures 61 = .ok (.if_icmp .le 15, 3) := by decide +kernel
theorem dX3_unlikeErasures_64 : decode cX3_unlikeErasures 64 = .ok (.aload_n 0, 1) := by decide +kernel
theorem dX3_unlikeErasures_65 : decode cX3_unlikeErasures 65 = .ok (.getfield 7, 3) := by decide +kernel
theorem dX3_unlikeErasures_68 : decode cX3_unlikeErasures 68 = .ok (.bipush 120, 2) := by decide +kernel
theorem dX3_unlikeErasures_70 : decode cX3_unlikeErasures 70 = .ok (.iload_n 3, 1) := by decide +kernel
theorem dX3_unlikeErasures_71 : decode cX3_unlikeErasures 71 = .ok (.iadd, 1) := by decide +kernel
theorem dX3_unlikeErasures_72 : decode cX3_unlikeErasures 72 = .ok (.iaload, 1) := by decide +kernel
theorem dX3_unlikeErasures_73 : decode cX3_unlikeErasures 73 = .ok (.goto 4, 3) := by decide +kernel
theorem dX3_unlikeErasures_76 : decode cX3_unlikeErasures 76 = .ok (.iload_n 2, 1) := by decide +kernel
theorem dX3_unlikeErasures_77 : decode cX3_unlikeErasures 77 = .ok (.istore_n 2, 1) := by decide +kernel
theorem dX3_unlikeErasures_78 : decode cX3_unlikeErasures 78 = .ok (.iinc 3 1, 3) := by decide +kernel
theorem dX3_unlikeErasures_81 : decode cX3_unlikeErasures 81 = .ok (.goto (-63), 3) := by decide +kernel
theorem dX3_unlikeErasures_84 : decode cX3_unlikeErasures 84 = .ok (.iload_n 2, 1) := by decide +kernel
theorem dX3_unlikeErasures_85 : decode cX3_unlikeErasures 85 = .ok (.iload_n 1, 1) := by decide +kernel
theorem dX3_unlikeErasures_86 : decode cX3_unlikeErasures 86 = .ok (.isub, 1) := by decide +kernel
theorem dX3_unlikeErasures_87 : decode cX3_unlikeErasures 87 = .ok (.ireturn, 1) := by decide +kernel
set_option maxRecDepth 20000 in
theorem ggX3_counted_X3_allSlots : GoodIn wsX3_counted wsX3_allSlots := goodIn_r _ [7, 1, 8, 9, 6, 10, 11, 12, 13, 14, 15, 16, 30, 31, 32, 33, 34, 35, 36, 37, 38, 39, 40, 41] (by decide +kernel) (by decide +kernel)
set_option maxRecDepth 20000 in
theorem gX3_counted_X3_allSlots : GoodIn wsX3_counted (wsV RX3 153 RX3 yX3_allSlots wsX3_allSlots) := goodIn_app (goodIn_of _ (by decide +kernel)) ggX3_counted_X3_allSlots
set_option maxRecDepth 20000 in
theorem ggX3_counted_X3_inState : GoodIn wsX3_counted wsX3_inState := goodIn_r _ [19] (by decide +kernel) (by decide +kernel)
set_option maxRecDepth 20000 in
theorem gX3_counted_X3_inState : GoodIn wsX3_counted (va_wsS RX3 70 yX3_inState wsX3_inState) := goodIn_app (goodIn_of _ (by decide +kernel)) ggX3_counted_X3_inState
set_option maxRecDepth 20000 in
theorem ggX3_counted_X3_unlikeErasures : GoodIn wsX3_counted wsX3_unlikeErasures := goodIn_r _ [23, 1, 30, 31, 32, 33, 34, 35, 36, 37, 38, 39, 40, 41] (by decide +kernel) (by decide +kernel)
set_option maxRecDepth 20000 in
theorem gX3_counted_X3_unlikeErasures : GoodIn wsX3_counted (wsV RX3 156 RX3 yX3_unlikeErasures wsX3_unlikeErasures) := goodIn_app (goodIn_of _ (by decide +kernel)) ggX3_counted_X3_unlikeErasures
set_option maxRecDepth 20000 in
theorem ggX3_counted_X3_victim : GoodIn wsX3_counted wsX3_victim := goodIn_r _ [26, 8, 9, 6, 10, 11, 12, 13, 14, 15, 16, 27, 28, 29] (by decide +kernel) (by decide +kernel)
set_option maxRecDepth 20000 in
theorem gX3_counted_X3_victim : GoodIn wsX3_counted (va_wsS RX3 67 yX3_victim wsX3_victim) := goodIn_app (goodIn_of _ (by decide +kernel)) ggX3_counted_X3_victim
theorem dX3_counted_0 : decode cX3_counted 0 = .ok (.iload_n 1, 1) := by decide +kernel
theorem dX3_counted_1 : decode cX3_counted 1 = .ok (.tableswitch 124 0 10 #[59, 65, 65, 65, 76, 76, 84, 93, 102, 111, 116], 59) := by decide +kernel
theorem dX3_counted_60 : decode cX3_counted 60 = .ok (.aload_n 0, 1) := by decide +kernel
theorem dX3_counted_61 : decode cX3_counted 61 = .ok (.iconst 0, 1) := by decide +kernel
theorem dX3_counted_62 : decode cX3_counted 62 = .ok (.invokevirtual 153, 3) := by decide +kernel
theorem dX3_counted_65 : decode cX3_counted 65 = .ok (.ireturn, 1) := by decide +kernel
theorem dX3_counted_66 : decode cX3_counted 66 = .ok (.aload_n 0, 1) := by decide +kernel
theorem dX3_counted_67 : decode cX3_counted 67 = .ok (.getfield 7, 3) := by decide +kernel
theorem dX3_counted_70 : decode cX3_counted 70 = .ok (.iload_n 1, 1) := by decide +kernel
theorem dX3_counted_71 : decode cX3_counted 71 = .ok (.iconst 1, 1) := by decide +kernel
theorem dX3_counted_72 : decode cX3_counted 72 = .ok (.isub, 1) := by decide +kernel
theorem dX3_counted_73 : decode cX3_counted 73 = .ok (.invokestatic 70, 3) := by decide +kernel
theorem dX3_counted_76 : decode cX3_counted 76 = .ok (.ireturn, 1) := by decide +kernel
theorem dX3_counted_77 : decode cX3_counted 77 = .ok (.aload_n 0, 1) := by decide +kernel
theorem dX3_counted_78 : decode cX3_counted 78 = .ok (.iload_n 1, 1) := by decide +kernel
theorem dX3_counted_79 : decode cX3_counted 79 = .ok (.iconst 3, 1) := by decide +kernel
theorem dX3_counted_80 : decode cX3_counted 80 = .ok (.isub, 1) := by decide +kernel
theorem dX3_counted_81 : decode cX3_counted 81 = .ok (.invokevirtual 153, 3) := by decide +kernel
theorem dX3_counted_84 : decode cX3_counted 84 = .ok (.ireturn, 1) := by decide +kernel
theorem dX3_counted_85 : decode cX3_counted 85 = .ok (.aload_n 0, 1) := by decide +kernel
theorem dX3_counted_86 : decode cX3_counted 86 = .ok (.getfield 7, 3) := by decide +kernel
theorem dX3_counted_89 : decode cX3_counted 89 = .ok (.sipush 360, 3) := by decide +kernel
theorem dX3_counted_92 : decode cX3_counted 92 = .ok (.iaload, 1) := by decide +kernel
theorem dX3_counted_93 : decode cX3_counted 93 = .ok (.ireturn, 1) := by decide +kernel
theorem dX3_counted_94 : decode cX3_counted 94 = .ok (.aload_n 0, 1) := by decide +kernel
theorem dX3_counted_95 : decode cX3_counted 95 = .ok (.getfield 7, 3) := by decide +kernel
theorem dX3_counted_98 : decode cX3_counted 98 = .ok (.sipush 361, 3) := by decide +kernel
theorem dX3_counted_101 : decode cX3_counted 101 = .ok (.iaload, 1) := by decide +kernel
theorem dX3_counted_102 : decode cX3_counted 102 = .ok (.ireturn, 1) := by decide +kernel
theorem dX3_counted_103 : decode cX3_counted 103 = .ok (.aload_n 0, 1) := by decide +kernel
theorem dX3_counted_104 : decode cX3_counted 104 = .ok (.getfield 7, 3) := by decide +kernel
theorem dX3_counted_107 : decode cX3_counted 107 = .ok (.sipush 362, 3) := by decide +kernel
theorem dX3_counted_110 : decode cX3_counted 110 = .ok (.iaload, 1) := by decide +kernel
theorem dX3_counted_111 : decode cX3_counted 111 = .ok (.ireturn, 1) := by decide +kernel
theorem dX3_counted_112 : decode cX3_counted 112 = .ok (.aload_n 0, 1) := by decide +kernel
theorem dX3_counted_113 : decode cX3_counted 113 = .ok (.invokevirtual 156, 3) := by decide +kernel
theorem dX3_counted_116 : decode cX3_counted 116 = .ok (.ireturn, 1) := by decide +kernel
theorem dX3_counted_117 : decode cX3_counted 117 = .ok (.aload_n 0, 1) := by decide +kernel
theorem dX3_counted_118 : decode cX3_counted 118 = .ok (.getfield 7, 3) := by decide +kernel
theorem dX3_counted_121 : decode cX3_counted 121 = .ok (.invokestatic 67, 3) := by decide +kernel
theorem dX3_counted_124 : decode cX3_counted 124 = .ok (.ireturn, 1) := by decide +kernel
theorem dX3_counted_125 : decode cX3_counted 125 = .ok (.aload_n 0, 1) := by decide +kernel
theorem dX3_counted_126 : decode cX3_counted 126 = .ok (.getfield 33, 3) := by decide +kernel
theorem dX3_counted_129 : decode cX3_counted 129 = .ok (.ireturn, 1) := by decide +kernel
set_option maxRecDepth 20000 in
theorem ggX3_count_X3_in : GoodIn wsX3_count wsX3_in := goodIn_r _ [5] (by decide +kernel) (by decide +kernel)
set_option maxRecDepth 20000 in
theorem gX3_count_X3_in : GoodIn wsX3_count (va_wsS RX3 29 yX3_in wsX3_in) := goodIn_app (goodIn_of _ (by decide +kernel)) ggX3_count_X3_in
set_option maxRecDepth 20000 in
theorem ggX3_count_X3_counted : GoodIn wsX3_count wsX3_counted := goodIn_r _ [9, 10, 11, 12, 13, 14, 4, 15, 16, 17, 18, 19, 20, 21, 22, 23, 24, 25, 26, 27, 28, 29, 30, 31, 32, 33, 34, 35, 36, 37, 42, 43, 44, 45, 46, 47, 48, 49, 50, 51, 52, 53] (by decide +kernel) (by decide +kernel)
set_option maxRecDepth 20000 in
theorem gX3_count_X3_counted : GoodIn wsX3_count (wsV RX3 160 RX3 yX3_counted wsX3_counted) := goodIn_app (goodIn_of _ (by decide +kernel)) ggX3_count_X3_counted
set_option maxRecDepth 20000 in
theorem ggX3_count_X3_fails : GoodIn wsX3_count wsX3_fails := goodIn_r _ [41, 1, 42, 43, 44, 45, 46, 47, 48, 49, 50, 51, 52, 53] (by decide +kernel) (by decide +kernel)
set_option maxRecDepth 20000 in
theorem gX3_count_X3_fails : GoodIn wsX3_count (wsV RX3 40 RX3 yX3_fails wsX3_fails) := goodIn_app (goodIn_of _ (by decide +kernel)) ggX3_count_X3_fails
theorem dX3_count_0 : decode cX3_count 0 = .ok (.aload_n 0, 1) := by decide +kernel
theorem dX3_count_1 : decode cX3_count 1 = .ok (.iconst 0, 1) := by decide +kernel
theorem dX3_count_2 : decode cX3_count 2 = .ok (.putfield 25, 3) := by decide +kernel
theorem dX3_count_5 : decode cX3_count 5 = .ok (.iload_n 1, 1) := by decide +kernel
theorem dX3_count_6 : decode cX3_count 6 = .ok (.iconst 0, 1) := by decide +kernel
theorem dX3_count_7 : decode cX3_count 7 = .ok (.bipush 11, 2) := by decide +kernel
theorem dX3_count_9 : decode cX3_count 9 = .ok (.invokestatic 29, 3) := by decide +kernel
theorem dX3_count_12 : decode cX3_count 12 = .ok (.ifCond .eq 11, 3) := by decide +kernel
theorem dX3_count_15 : decode cX3_count 15 = .ok (.aload_n 0, 1) := by decide +kernel
theorem dX3_count_16 : decode cX3_count 16 = .ok (.iload_n 1, 1) := by decide +kernel
theorem dX3_count_17 : decode cX3_count 17 = .ok (.invokevirtual 160, 3) := by decide +kernel
theorem dX3_count_20 : decode cX3_count 20 = .ok (.goto 8, 3) := by decide +kernel
theorem dX3_count_23 : decode cX3_count 23 = .ok (.aload_n 0, 1) := by decide +kernel
theorem dX3_count_24 : decode cX3_count 24 = .ok (.iconst 1, 1) := by decide +kernel
theorem dX3_count_25 : decode cX3_count 25 = .ok (.invokevirtual 40, 3) := by decide +kernel
theorem dX3_count_28 : decode cX3_count 28 = .ok (.ireturn, 1) := by decide +kernel
set_option maxRecDepth 20000 in
theorem ggX3_setting_X3_in : GoodIn wsX3_setting wsX3_in := goodIn_r _ [6] (by decide +kernel) (by decide +kernel)
set_option maxRecDepth 20000 in
theorem gX3_setting_X3_in : GoodIn wsX3_setting (va_wsS RX3 29 yX3_in wsX3_in) := goodIn_app (goodIn_of _ (by decide +kernel)) ggX3_setting_X3_in
set_option maxRecDepth 20000 in
theorem ggX3_setting_X3_fails : GoodIn wsX3_setting wsX3_fails := goodIn_r _ [10, 1, 11, 12, 13, 14, 15, 16, 17, 18, 19, 20, 21, 22] (by decide +kernel) (by decide +kernel)
set_option maxRecDepth 20000 in
theorem gX3_setting_X3_fails : GoodIn wsX3_setting (wsV RX3 40 RX3 yX3_fails wsX3_fails) := goodIn_app (goodIn_of _ (by decide +kernel)) ggX3_setting_X3_fails
theorem dX3_setting_0 : decode cX3_setting 0 = .ok (.aload_n 0, 1) := by decide +kernel
theorem dX3_setting_1 : decode cX3_setting 1 = .ok (.iconst 0, 1) := by decide +kernel
theorem dX3_setting_2 : decode cX3_setting 2 = .ok (.putfield 25, 3) := by decide +kernel
theorem dX3_setting_5 : decode cX3_setting 5 = .ok (.iload_n 1, 1) := by decide +kernel
theorem dX3_setting_6 : decode cX3_setting 6 = .ok (.iconst 0, 1) := by decide +kernel
theorem dX3_setting_7 : decode cX3_setting 7 = .ok (.iconst 1, 1) := by decide +kernel
theorem dX3_setting_8 : decode cX3_setting 8 = .ok (.invokestatic 29, 3) := by decide +kernel
theorem dX3_setting_11 : decode cX3_setting 11 = .ok (.ifCond .eq 16, 3) := by decide +kernel
theorem dX3_setting_14 : decode cX3_setting 14 = .ok (.aload_n 0, 1) := by decide +kernel
theorem dX3_setting_15 : decode cX3_setting 15 = .ok (.getfield 7, 3) := by decide +kernel
theorem dX3_setting_18 : decode cX3_setting 18 = .ok (.sipush 358, 3) := by decide +kernel
theorem dX3_setting_21 : decode cX3_setting 21 = .ok (.iload_n 1, 1) := by decide +kernel
theorem dX3_setting_22 : decode cX3_setting 22 = .ok (.iadd, 1) := by decide +kernel
theorem dX3_setting_23 : decode cX3_setting 23 = .ok (.iaload, 1) := by decide +kernel
theorem dX3_setting_24 : decode cX3_setting 24 = .ok (.goto 8, 3) := by decide +kernel
theorem dX3_setting_27 : decode cX3_setting 27 = .ok (.aload_n 0, 1) := by decide +kernel
theorem dX3_setting_28 : decode cX3_setting 28 = .ok (.iconst 1, 1) := by decide +kernel
theorem dX3_setting_29 : decode cX3_setting 29 = .ok (.invokevirtual 40, 3) := by decide +kernel
theorem dX3_setting_32 : decode cX3_setting 32 = .ok (.ireturn, 1) := by decide +kernel
set_option maxRecDepth 20000 in
theorem ggX3_written_X3_lays : GoodIn wsX3_written wsX3_lays := goodIn_r _ [6] (by decide +kernel) (by decide +kernel)
set_option maxRecDepth 20000 in
theorem gX3_written_X3_lays : GoodIn wsX3_written (va_wsS RX3 36 yX3_lays wsX3_lays) := goodIn_app (goodIn_of _ (by decide +kernel)) ggX3_written_X3_lays
set_option maxRecDepth 20000 in
theorem ggX3_written_X3_writes : GoodIn wsX3_written wsX3_writes := goodIn_r _ [9, 10, 11, 5, 12, 13, 14, 15, 16, 17, 18, 19, 20, 21, 22, 23, 24, 25, 26, 27, 28, 29, 30, 31, 32, 33, 34, 35, 36, 37, 38, 39] (by decide +kernel) (by decide +kernel)
set_option maxRecDepth 20000 in
theorem gX3_written_X3_writes : GoodIn wsX3_written (va_wsS RX3 89 yX3_writes wsX3_writes) := goodIn_app (goodIn_of _ (by decide +kernel)) ggX3_written_X3_writes
set_option maxRecDepth 20000 in
theorem ggX3_written_X3_of : GoodIn wsX3_written wsX3_of := goodIn_r _ [24] (by decide +kernel) (by decide +kernel)
set_option maxRecDepth 20000 in
theorem gX3_written_X3_of : GoodIn wsX3_written (va_wsS RX3 44 yX3_of wsX3_of) := goodIn_app (goodIn_of _ (by decide +kernel)) ggX3_written_X3_of
theorem dX3_written_0 : decode cX3_written 0 = .ok (.aload_n 0, 1) := by decide +kernel
theorem dX3_written_1 : decode cX3_written 1 = .ok (.getfield 7, 3) := by decide +kernel
theorem dX3_written_4 : decode cX3_written 4 = .ok (.iconst 0, 1) := by decide +kernel
theorem dX3_written_5 : decode cX3_written 5 = .ok (.aload_n 0, 1) := by decide +kernel
theorem dX3_written_6 : decode cX3_written 6 = .ok (.getfield 13, 3) := by decide +kernel
theorem dX3_written_9 : decode cX3_written 9 = .ok (.iconst 0, 1) := by decide +kernel
theorem dX3_written_10 : decode cX3_written 10 = .ok (.invokestatic 36, 3) := by decide +kernel
theorem dX3_written_13 : decode cX3_written 13 = .ok (.aload_n 0, 1) := by decide +kernel
theorem dX3_written_14 : decode cX3_written 14 = .ok (.getfield 13, 3) := by decide +kernel
theorem dX3_written_17 : decode cX3_written 17 = .ok (.iload_n 1, 1) := by decide +kernel
theorem dX3_written_18 : decode cX3_written 18 = .ok (.iload_n 2, 1) := by decide +kernel
theorem dX3_written_19 : decode cX3_written 19 = .ok (.invokestatic 89, 3) := by decide +kernel
theorem dX3_written_22 : decode cX3_written 22 = .ok (.istore 4, 2) := by decide +kernel
theorem dX3_written_24 : decode cX3_written 24 = .ok (.iload_n 3, 1) := by decide +kernel
theorem dX3_written_25 : decode cX3_written 25 = .ok (.ifCond .ne 8, 3) := by decide +kernel
theorem dX3_written_28 : decode cX3_written 28 = .ok (.iload 4, 2) := by decide +kernel
theorem dX3_written_30 : decode cX3_written 30 = .ok (.goto 40, 3) := by decide +kernel
theorem dX3_written_33 : decode cX3_written 33 = .ok (.iload_n 3, 1) := by decide +kernel
theorem dX3_written_34 : decode cX3_written 34 = .ok (.iconst 1, 1) := by decide +kernel
theorem dX3_written_35 : decode cX3_written 35 = .ok (.if_icmp .ne 18, 3) := by decide +kernel
theorem dX3_written_38 : decode cX3_written 38 = .ok (.aload_n 0, 1) := by decide +kernel
theorem dX3_written_39 : decode cX3_written 39 = .ok (.getfield 13, 3) := by decide +kernel
theorem dX3_written_42 : decode cX3_written 42 = .ok (.iload_n 1, 1) := by decide +kernel
theorem dX3_written_43 : decode cX3_written 43 = .ok (.iconst 0, 1) := by decide +kernel
theorem dX3_written_44 : decode cX3_written 44 = .ok (.invokestatic 44, 3) := by decide +kernel
theorem dX3_written_47 : decode cX3_written 47 = .ok (.bipush 8, 2) := by decide +kernel
theorem dX3_written_49 : decode cX3_written 49 = .ok (.idiv, 1) := by decide +kernel
theorem dX3_written_50 : decode cX3_written 50 = .ok (.goto 20, 3) := by decide +kernel
theorem dX3_written_53 : decode cX3_written 53 = .ok (.aload_n 0, 1) := by decide +kernel
theorem dX3_written_54 : decode cX3_written 54 = .ok (.getfield 13, 3) := by decide +kernel
theorem dX3_written_57 : decode cX3_written 57 = .ok (.sipush 362, 3) := by decide +kernel
theorem dX3_written_60 : decode cX3_written 60 = .ok (.iaload, 1) := by decide +kernel
theorem dX3_written_61 : decode cX3_written 61 = .ok (.aload_n 0, 1) := by decide +kernel
theorem dX3_written_62 : decode cX3_written 62 = .ok (.getfield 7, 3) := by decide +kernel
theorem dX3_written_65 : decode cX3_written 65 = .ok (.sipush 362, 3) := by decide +kernel
theorem dX3_written_68 : decode cX3_written 68 = .ok (.iaload, 1) := by decide +kernel
theorem dX3_written_69 : decode cX3_written 69 = .ok (.isub, 1) := by decide +kernel
theorem dX3_written_70 : decode cX3_written 70 = .ok (.ireturn, 1) := by decide +kernel
set_option maxRecDepth 20000 in
theorem ggX3_ifWritten_X3_isPage : GoodIn wsX3_ifWritten wsX3_isPage := goodIn_r _ [5, 6, 7, 4, 8] (by decide +kernel) (by decide +kernel)
set_option maxRecDepth 20000 in
theorem gX3_ifWritten_X3_isPage : GoodIn wsX3_ifWritten (va_wsS RX3 79 yX3_isPage wsX3_isPage) := goodIn_app (goodIn_of _ (by decide +kernel)) ggX3_ifWritten_X3_isPage
set_option maxRecDepth 20000 in
theorem ggX3_ifWritten_X3_fails : GoodIn wsX3_ifWritten wsX3_fails := goodIn_r _ [12, 1, 58, 59, 60, 61, 62, 63, 64, 65, 66, 67, 68, 69] (by decide +kernel) (by decide +kernel)
set_option maxRecDepth 20000 in
theorem gX3_ifWritten_X3_fails : GoodIn wsX3_ifWritten (wsV RX3 40 RX3 yX3_fails wsX3_fails) := goodIn_app (goodIn_of _ (by decide +kernel)) ggX3_ifWritten_X3_fails
set_option maxRecDepth 20000 in
theorem ggX3_ifWritten_X3_isHint : GoodIn wsX3_ifWritten wsX3_isHint := goodIn_r _ [15, 6, 7, 4, 8] (by decide +kernel) (by decide +kernel)
set_option maxRecDepth 20000 in
theorem gX3_ifWritten_X3_isHint : GoodIn wsX3_ifWritten (va_wsS RX3 83 yX3_isHint wsX3_isHint) := goodIn_app (goodIn_of _ (by decide +kernel)) ggX3_ifWritten_X3_isHint
set_option maxRecDepth 20000 in
theorem ggX3_ifWritten_X3_in : GoodIn wsX3_ifWritten wsX3_in := goodIn_r _ [8] (by decide +kernel) (by decide +kernel)
set_option maxRecDepth 20000 in
theorem gX3_ifWritten_X3_in : GoodIn wsX3_ifWritten (va_wsS RX3 29 yX3_in wsX3_in) := goodIn_app (goodIn_of _ (by decide +kernel)) ggX3_ifWritten_X3_in
set_option maxRecDepth 20000 in
theorem ggX3_ifWritten_X3_written : GoodIn wsX3_ifWritten wsX3_written := goodIn_r _ [19, 20, 21, 22, 23, 4, 24, 25, 26, 27, 28, 29, 30, 31, 32, 33, 34, 35, 36, 37, 38, 39, 40, 41, 42, 43, 44, 45, 46, 47, 48, 49, 50, 51, 52, 53, 54, 55, 56, 57, 58, 59, 60, 61, 62, 63, 64, 65, 66, 67, 68, 69] (by decide +kernel) (by decide +kernel)
set_option maxRecDepth 20000 in
theorem gX3_ifWritten_X3_written : GoodIn wsX3_ifWritten (wsV RX3 163 RX3 yX3_written wsX3_written) := goodIn_app (goodIn_of _ (by decide +kernel)) ggX3_ifWritten_X3_written
theorem dX3_ifWritten_0 : decode cX3_ifWritten 0 = .ok (.aload_n 0, 1) := by decide +kernel
theorem dX3_ifWritten_1 : decode cX3_ifWritten 1 = .ok (.iconst 0, 1) := by decide +kernel
theorem dX3_ifWritten_2 : decode cX3_ifWritten 2 = .ok (.putfield 25, 3) := by decide +kernel
theorem dX3_ifWritten_5 : decode cX3_ifWritten 5 = .ok (.iload_n 1, 1) := by decide +kernel
theorem dX3_ifWritten_6 : decode cX3_ifWritten 6 = .ok (.invokestatic 79, 3) := by decide +kernel
theorem dX3_ifWritten_9 : decode cX3_ifWritten 9 = .ok (.ifCond .ne 9, 3) := by decide +kernel
theorem dX3_ifWritten_12 : decode cX3_ifWritten 12 = .ok (.aload_n 0, 1) := by decide +kernel
theorem dX3_ifWritten_13 : decode cX3_ifWritten 13 = .ok (.iconst 1, 1) := by decide +kernel
theorem dX3_ifWritten_14 : decode cX3_ifWritten 14 = .ok (.invokevirtual 40, 3) := by decide +kernel
theorem dX3_ifWritten_17 : decode cX3_ifWritten 17 = .ok (.ireturn, 1) := by decide +kernel
theorem dX3_ifWritten_18 : decode cX3_ifWritten 18 = .ok (.iload_n 2, 1) := by decide +kernel
theorem dX3_ifWritten_19 : decode cX3_ifWritten 19 = .ok (.invokestatic 83, 3) := by decide +kernel
theorem dX3_ifWritten_22 : decode cX3_ifWritten 22 = .ok (.ifCond .eq 22, 3) := by decide +kernel
theorem dX3_ifWritten_25 : decode cX3_ifWritten 25 = .ok (.iload_n 3, 1) := by decide +kernel
theorem dX3_ifWritten_26 : decode cX3_ifWritten 26 = .ok (.iconst 0, 1) := by decide +kernel
theorem dX3_ifWritten_27 : decode cX3_ifWritten 27 = .ok (.iconst 2, 1) := by decide +kernel
theorem dX3_ifWritten_28 : decode cX3_ifWritten 28 = .ok (.invokestatic 29, 3) := by decide +kernel
theorem dX3_ifWritten_31 : decode cX3_ifWritten 31 = .ok (.ifCond .eq 13, 3) := by decide +kernel
theorem dX3_ifWritten_34 : decode cX3_ifWritten 34 = .ok (.aload_n 0, 1) := by decide +kernel
theorem dX3_ifWritten_35 : decode cX3_ifWritten 35 = .ok (.iload_n 1, 1) := by decide +kernel
theorem dX3_ifWritten_36 : decode cX3_ifWritten 36 = .ok (.iload_n 2, 1) := by decide +kernel
theorem dX3_ifWritten_37 : decode cX3_ifWritten 37 = .ok (.iload_n 3, 1) := by decide +kernel
theorem dX3_ifWritten_38 : decode cX3_ifWritten 38 = .ok (.invokevirtual 163, 3) := by decide +kernel
theorem dX3_ifWritten_41 : decode cX3_ifWritten 41 = .ok (.goto 8, 3) := by decide +kernel
theorem dX3_ifWritten_44 : decode cX3_ifWritten 44 = .ok (.aload_n 0, 1) := by decide +kernel
theorem dX3_ifWritten_45 : decode cX3_ifWritten 45 = .ok (.iconst 2, 1) := by decide +kernel
theorem dX3_ifWritten_46 : decode cX3_ifWritten 46 = .ok (.invokevirtual 40, 3) := by decide +kernel
theorem dX3_ifWritten_49 : decode cX3_ifWritten 49 = .ok (.ireturn, 1) := by decide +kernel
set_option maxRecDepth 20000 in
theorem ggX3_rewritten_X3_lays : GoodIn wsX3_rewritten wsX3_lays := goodIn_r _ [6] (by decide +kernel) (by decide +kernel)
set_option maxRecDepth 20000 in
theorem gX3_rewritten_X3_lays : GoodIn wsX3_rewritten (va_wsS RX3 36 yX3_lays wsX3_lays) := goodIn_app (goodIn_of _ (by decide +kernel)) ggX3_rewritten_X3_lays
set_option maxRecDepth 20000 in
theorem ggX3_rewritten_X3_of : GoodIn wsX3_rewritten wsX3_of := goodIn_r _ [9] (by decide +kernel) (by decide +kernel)
set_option maxRecDepth 20000 in
theorem gX3_rewritten_X3_of : GoodIn wsX3_rewritten (va_wsS RX3 44 yX3_of wsX3_of) := goodIn_app (goodIn_of _ (by decide +kernel)) ggX3_rewritten_X3_of
set_option maxRecDepth 20000 in
theorem ggX3_rewritten_X3_writes : GoodIn wsX3_rewritten wsX3_writes := goodIn_r _ [12, 13, 14, 5, 15, 16, 17, 18, 19, 20, 21, 22, 23, 24, 7, 8, 9, 25, 26, 27, 28, 29, 30, 31, 32, 33, 34, 35, 36, 37, 38, 39] (by decide +kernel) (by decide +kernel)
set_option maxRecDepth 20000 in
theorem gX3_rewritten_X3_writes : GoodIn wsX3_rewritten (va_wsS RX3 89 yX3_writes wsX3_writes) := goodIn_app (goodIn_of _ (by decide +kernel)) ggX3_rewritten_X3_writes
theorem dX3_rewritten_0 : decode cX3_rewritten 0 = .ok (.aload_n 0, 1) := by decide +kernel
theorem dX3_rewritten_1 : decode cX3_rewritten 1 = .ok (.getfield 7, 3) := by decide +kernel
theorem dX3_rewritten_4 : decode cX3_rewritten 4 = .ok (.iconst 0, 1) := by decide +kernel
theorem dX3_rewritten_5 : decode cX3_rewritten 5 = .ok (.aload_n 0, 1) := by decide +kernel
theorem dX3_rewritten_6 : decode cX3_rewritten 6 = .ok (.getfield 13, 3) := by decide +kernel
theorem dX3_rewritten_9 : decode cX3_rewritten 9 = .ok (.iconst 0, 1) := by decide +kernel
theorem dX3_rewritten_10 : decode cX3_rewritten 10 = .ok (.invokestatic 36, 3) := by decide +kernel
theorem dX3_rewritten_13 : decode cX3_rewritten 13 = .ok (.aload_n 0, 1) := by decide +kernel
theorem dX3_rewritten_14 : decode cX3_rewritten 14 = .ok (.getfield 13, 3) := by decide +kernel
theorem dX3_rewritten_17 : decode cX3_rewritten 17 = .ok (.sipush 358, 3) := by decide +kernel
theorem dX3_rewritten_20 : decode cX3_rewritten 20 = .ok (.iload_n 2, 1) := by decide +kernel
theorem dX3_rewritten_21 : decode cX3_rewritten 21 = .ok (.iastore, 1) := by decide +kernel
theorem dX3_rewritten_22 : decode cX3_rewritten 22 = .ok (.iconst 0, 1) := by decide +kernel
theorem dX3_rewritten_23 : decode cX3_rewritten 23 = .ok (.istore_n 3, 1) := by decide +kernel
theorem dX3_rewritten_24 : decode cX3_rewritten 24 = .ok (.iconst 0, 1) := by decide +kernel
theorem dX3_rewritten_25 : decode cX3_rewritten 25 = .ok (.istore 4, 2) := by decide +kernel
theorem dX3_rewritten_27 : decode cX3_rewritten 27 = .ok (.iload 4, 2) := by decide +kernel
theorem dX3_rewritten_29 : decode cX3_rewritten 29 = .ok (.bipush 40, 2) := by decide +kernel
theorem dX3_rewritten_31 : decode cX3_rewritten 31 = .ok (.iload_n 1, 1) := by decide +kernel
theorem dX3_rewritten_32 : decode cX3_rewritten 32 = .ok (.imul, 1) := by decide +kernel
theorem dX3_rewritten_33 : decode cX3_rewritten 33 = .ok (.if_icmp .ge 52, 3) := by decide +kernel
theorem dX3_rewritten_36 : decode cX3_rewritten 36 = .ok (.iload 4, 2) := by decide +kernel
theorem dX3_rewritten_38 : decode cX3_rewritten 38 = .ok (.bipush 40, 2) := by decide +kernel
theorem dX3_rewritten_40 : decode cX3_rewritten 40 = .ok (.irem, 1) := by decide +kernel
theorem dX3_rewritten_41 : decode cX3_rewritten 41 = .ok (.istore 5, 2) := by decide +kernel
theorem dX3_rewritten_43 : decode cX3_rewritten 43 = .ok (.aload_n 0, 1) := by decide +kernel
theorem dX3_rewritten_44 : decode cX3_rewritten 44 = .ok (.getfield 13, 3) := by decide +kernel
theorem dX3_rewritten_47 : decode cX3_rewritten 47 = .ok (.iload 5, 2) := by decide +kernel
theorem dX3_rewritten_49 : decode cX3_rewritten 49 = .ok (.iconst 1, 1) := by decide +kernel
theorem dX3_rewritten_50 : decode cX3_rewritten 50 = .ok (.invokestatic 44, 3) := by decide +kernel
theorem dX3_rewritten_53 : decode cX3_rewritten 53 = .ok (.istore 6, 2) := by decide +kernel
theorem dX3_rewritten_55 : decode cX3_rewritten 55 = .ok (.iload_n 3, 1) := by decide +kernel
theorem dX3_rewritten_56 : decode cX3_rewritten 56 = .ok (.aload_n 0, 1) := by decide +kernel
theorem dX3_rewritten_57 : decode cX3_rewritten 57 = .ok (.getfield 13, 3) := by decide +kernel
theorem dX3_rewritten_60 : decode cX3_rewritten 60 = .ok (.iload 5, 2) := by decide +kernel
theorem dX3_rewritten_62 : decode cX3_rewritten 62 = .ok (.iload 6, 2) := by decide +kernel
theorem dX3_rewritten_64 : decode cX3_rewritten 64 = .ok (.iconst (-1), 1) := by decide +kernel
theorem dX3_rewritten_65 : decode cX3_rewritten 65 = .ok (.if_icmp .ne 7, 3) := by decide +kernel
theorem dX3_rewritten_68 : decode cX3_rewritten 68 = .ok (.iconst 0, 1) := by decide +kernel
theorem dX3_rewritten_69 : decode cX3_rewritten 69 = .ok (.goto 5, 3) := by decide +kernel
theorem dX3_rewritten_72 : decode cX3_rewritten 72 = .ok (.iload 6, 2) := by decide +kernel
theorem dX3_rewritten_74 : decode cX3_rewritten 74 = .ok (.invokestatic 89, 3) := by decide +kernel
theorem dX3_rewritten_77 : decode cX3_rewritten 77 = .ok (.iadd, 1) := by decide +kernel
theorem dX3_rewritten_78 : decode cX3_rewritten 78 = .ok (.istore_n 3, 1) := by decide +kernel
theorem dX3_rewritten_79 : decode cX3_rewritten 79 = .ok (.iinc 4 1, 3) := by decide +kernel
theorem dX3_rewritten_82 : decode cX3_rewritten 82 = .ok (.goto (-55), 3) := by decide +kernel
theorem dX3_rewritten_85 : decode cX3_rewritten 85 = .ok (.iload_n 3, 1) := by decide +kernel
theorem dX3_rewritten_86 : decode cX3_rewritten 86 = .ok (.ireturn, 1) := by decide +kernel
set_option maxRecDepth 20000 in
theorem ggX3_ifRewritten_X3_in : GoodIn wsX3_ifRewritten wsX3_in := goodIn_r _ [6] (by decide +kernel) (by decide +kernel)
set_option maxRecDepth 20000 in
theorem gX3_ifRewritten_X3_in : GoodIn wsX3_ifRewritten (va_wsS RX3 29 yX3_in wsX3_in) := goodIn_app (goodIn_of _ (by decide +kernel)) ggX3_ifRewritten_X3_in
set_option maxRecDepth 20000 in
theorem ggX3_ifRewritten_X3_rewritten : GoodIn wsX3_ifRewritten wsX3_rewritten := goodIn_r _ [10, 2, 11, 12, 13, 5, 14, 15, 16, 17, 18, 19, 20, 21, 22, 23, 24, 25, 26, 27, 28, 29, 30, 31, 32, 33, 34, 35, 36, 37, 38, 39, 40, 41, 42, 43, 44, 45, 46, 47, 52, 53, 54, 55, 56, 57, 58, 59, 60, 61, 62, 63] (by decide +kernel) (by decide +kernel)
set_option maxRecDepth 20000 in
theorem gX3_ifRewritten_X3_rewritten : GoodIn wsX3_ifRewritten (wsV RX3 167 RX3 yX3_rewritten wsX3_rewritten) := goodIn_app (goodIn_of _ (by decide +kernel)) ggX3_ifRewritten_X3_rewritten
set_option maxRecDepth 20000 in
theorem ggX3_ifRewritten_X3_fails : GoodIn wsX3_ifRewritten wsX3_fails := goodIn_r _ [51, 1, 52, 53, 54, 55, 56, 57, 58, 59, 60, 61, 62, 63] (by decide +kernel) (by decide +kernel)
set_option maxRecDepth 20000 in
theorem gX3_ifRewritten_X3_fails : GoodIn wsX3_ifRewritten (wsV RX3 40 RX3 yX3_fails wsX3_fails) := goodIn_app (goodIn_of _ (by decide +kernel)) ggX3_ifRewritten_X3_fails
theorem dX3_ifRewritten_0 : decode cX3_ifRewritten 0 = .ok (.aload_n 0, 1) := by decide +kernel
theorem dX3_ifRewritten_1 : decode cX3_ifRewritten 1 = .ok (.iconst 0, 1) := by decide +kernel
theorem dX3_ifRewritten_2 : decode cX3_ifRewritten 2 = .ok (.putfield 25, 3) := by decide +kernel
theorem dX3_ifRewritten_5 : decode cX3_ifRewritten 5 = .ok (.iload_n 1, 1) := by decide +kernel
theorem dX3_ifRewritten_6 : decode cX3_ifRewritten 6 = .ok (.iconst 1, 1) := by decide +kernel
theorem dX3_ifRewritten_7 : decode cX3_ifRewritten 7 = .ok (.bipush 9, 2) := by decide +kernel
theorem dX3_ifRewritten_9 : decode cX3_ifRewritten 9 = .ok (.invokestatic 29, 3) := by decide +kernel
theorem dX3_ifRewritten_12 : decode cX3_ifRewritten 12 = .ok (.ifCond .eq 19, 3) := by decide +kernel
theorem dX3_ifRewritten_15 : decode cX3_ifRewritten 15 = .ok (.aload_n 0, 1) := by decide +kernel
theorem dX3_ifRewritten_16 : decode cX3_ifRewritten 16 = .ok (.iload_n 1, 1) := by decide +kernel
theorem dX3_ifRewritten_17 : decode cX3_ifRewritten 17 = .ok (.aload_n 0, 1) := by decide +kernel
theorem dX3_ifRewritten_18 : decode cX3_ifRewritten 18 = .ok (.getfield 7, 3) := by decide +kernel
theorem dX3_ifRewritten_21 : decode cX3_ifRewritten 21 = .ok (.sipush 358, 3) := by decide +kernel
theorem dX3_ifRewritten_24 : decode cX3_ifRewritten 24 = .ok (.iaload, 1) := by decide +kernel
theorem dX3_ifRewritten_25 : decode cX3_ifRewritten 25 = .ok (.invokevirtual 167, 3) := by decide +kernel
theorem dX3_ifRewritten_28 : decode cX3_ifRewritten 28 = .ok (.goto 8, 3) := by decide +kernel
theorem dX3_ifRewritten_31 : decode cX3_ifRewritten 31 = .ok (.aload_n 0, 1) := by decide +kernel
theorem dX3_ifRewritten_32 : decode cX3_ifRewritten 32 = .ok (.iconst 1, 1) := by decide +kernel
theorem dX3_ifRewritten_33 : decode cX3_ifRewritten 33 = .ok (.invokevirtual 40, 3) := by decide +kernel
theorem dX3_ifRewritten_36 : decode cX3_ifRewritten 36 = .ok (.ireturn, 1) := by decide +kernel
set_option maxRecDepth 20000 in
theorem ggX3_best_X3_rewritten : GoodIn wsX3_best wsX3_rewritten := goodIn_r _ [5, 6, 7, 8, 9, 4, 10, 11, 12, 13, 14, 15, 16, 17, 18, 19, 20, 21, 22, 23, 24, 25, 26, 27, 28, 29, 30, 31, 32, 33, 34, 35, 36, 37, 38, 39, 40, 41, 42, 43, 44, 45, 46, 47, 48, 49, 50, 51, 52, 53, 54, 55] (by decide +kernel) (by decide +kernel)
set_option maxRecDepth 20000 in
theorem gX3_best_X3_rewritten : GoodIn wsX3_best (wsV RX3 167 RX3 yX3_rewritten wsX3_rewritten) := goodIn_app (goodIn_of _ (by decide +kernel)) ggX3_best_X3_rewritten
theorem dX3_best_0 : decode cX3_best 0 = .ok (.iconst 0, 1) := by decide +kernel
theorem dX3_best_1 : decode cX3_best 1 = .ok (.istore_n 2, 1) := by decide +kernel
theorem dX3_best_2 : decode cX3_best 2 = .ok (.aload_n 0, 1) := by decide +kernel
theorem dX3_best_3 : decode cX3_best 3 = .ok (.iload_n 1, 1) := by decide +kernel
theorem dX3_best_4 : decode cX3_best 4 = .ok (.iconst 0, 1) := by decide +kernel
theorem dX3_best_5 : decode cX3_best 5 = .ok (.invokevirtual 167, 3) := by decide +kernel
theorem dX3_best_8 : decode cX3_best 8 = .ok (.istore_n 3, 1) := by decide +kernel
theorem dX3_best_9 : decode cX3_best 9 = .ok (.iconst 1, 1) := by decide +kernel
theorem dX3_best_10 : decode cX3_best 10 = .ok (.istore 4, 2) := by decide +kernel
theorem dX3_best_12 : decode cX3_best 12 = .ok (.iload 4, 2) := by decide +kernel
theorem dX3_best_14 : decode cX3_best 14 = .ok (.iconst 3, 1) := by decide +kernel
theorem dX3_best_15 : decode cX3_best 15 = .ok (.if_icmp .ge 44, 3) := by decide +kernel
theorem dX3_best_18 : decode cX3_best 18 = .ok (.aload_n 0, 1) := by decide +kernel
theorem dX3_best_19 : decode cX3_best 19 = .ok (.iload_n 1, 1) := by decide +kernel
theorem dX3_best_20 : decode cX3_best 20 = .ok (.iload 4, 2) := by decide +kernel
theorem dX3_best_22 : decode cX3_best 22 = .ok (.invokevirtual 167, 3) := by decide +kernel
theorem dX3_best_25 : decode cX3_best 25 = .ok (.istore 5, 2) := by decide +kernel
theorem dX3_best_27 : decode cX3_best 27 = .ok (.iload 5, 2) := by decide +kernel
theorem dX3_best_29 : decode cX3_best 29 = .ok (.iload_n 3, 1) := by decide +kernel
theorem dX3_best_30 : decode cX3_best 30 = .ok (.if_icmp .ge 8, 3) := by decide +kernel
theorem dX3_best_33 : decode cX3_best 33 = .ok (.iload 4, 2) := by decide +kernel
theorem dX3_best_35 : decode cX3_best 35 = .ok (.goto 4, 3) := by decide +kernel
theorem dX3_best_38 : decode cX3_best 38 = .ok (.iload_n 2, 1) := by decide +kernel
theorem dX3_best_39 : decode cX3_best 39 = .ok (.istore_n 2, 1) := by decide +kernel
theorem dX3_best_40 : decode cX3_best 40 = .ok (.iload 5, 2) := by decide +kernel
theorem dX3_best_42 : decode cX3_best 42 = .ok (.iload_n 3, 1) := by decide +kernel
theorem dX3_best_43 : decode cX3_best 43 = .ok (.if_icmp .ge 8, 3) := by decide +kernel
theorem dX3_best_46 : decode cX3_best 46 = .ok (.iload 5, 2) := by decide +kernel
theorem dX3_best_48 : decode cX3_best 48 = .ok (.goto 4, 3) := by decide +kernel
theorem dX3_best_51 : decode cX3_best 51 = .ok (.iload_n 3, 1) := by decide +kernel
theorem dX3_best_52 : decode cX3_best 52 = .ok (.istore_n 3, 1) := by decide +kernel
theorem dX3_best_53 : decode cX3_best 53 = .ok (.iinc 4 1, 3) := by decide +kernel
theorem dX3_best_56 : decode cX3_best 56 = .ok (.goto (-44), 3) := by decide +kernel
theorem dX3_best_59 : decode cX3_best 59 = .ok (.iload_n 2, 1) := by decide +kernel
theorem dX3_best_60 : decode cX3_best 60 = .ok (.ireturn, 1) := by decide +kernel
set_option maxRecDepth 20000 in
theorem ggX3_bestRule_X3_in : GoodIn wsX3_bestRule wsX3_in := goodIn_r _ [5] (by decide +kernel) (by decide +kernel)
set_option maxRecDepth 20000 in
theorem gX3_bestRule_X3_in : GoodIn wsX3_bestRule (va_wsS RX3 29 yX3_in wsX3_in) := goodIn_app (goodIn_of _ (by decide +kernel)) ggX3_bestRule_X3_in
set_option maxRecDepth 20000 in
theorem ggX3_bestRule_X3_best : GoodIn wsX3_bestRule wsX3_best := goodIn_r _ [9, 10, 11, 12, 4, 13, 14, 15, 16, 17, 18, 19, 20, 21, 22, 23, 24, 25, 26, 27, 28, 29, 30, 31, 32, 33, 34, 35, 36, 37, 38, 39, 40, 41, 42, 43, 44, 45, 46, 47, 48, 49, 50, 51, 56, 57, 58, 59, 60, 61, 62, 63, 64, 65, 66, 67] (by decide +kernel) (by decide +kernel)
set_option maxRecDepth 20000 in
theorem gX3_bestRule_X3_best : GoodIn wsX3_bestRule (wsV RX3 170 RX3 yX3_best wsX3_best) := goodIn_app (goodIn_of _ (by decide +kernel)) ggX3_bestRule_X3_best
set_option maxRecDepth 20000 in
theorem ggX3_bestRule_X3_fails : GoodIn wsX3_bestRule wsX3_fails := goodIn_r _ [55, 1, 56, 57, 58, 59, 60, 61, 62, 63, 64, 65, 66, 67] (by decide +kernel) (by decide +kernel)
set_option maxRecDepth 20000 in
theorem gX3_bestRule_X3_fails : GoodIn wsX3_bestRule (wsV RX3 40 RX3 yX3_fails wsX3_fails) := goodIn_app (goodIn_of _ (by decide +kernel)) ggX3_bestRule_X3_fails
theorem dX3_bestRule_0 : decode cX3_bestRule 0 = .ok (.aload_n 0, 1) := by decide +kernel
theorem dX3_bestRule_1 : decode cX3_bestRule 1 = .ok (.iconst 0, 1) := by decide +kernel
theorem dX3_bestRule_2 : decode cX3_bestRule 2 = .ok (.putfield 25, 3) := by decide +kernel
theorem dX3_bestRule_5 : decode cX3_bestRule 5 = .ok (.iload_n 1, 1) := by decide +kernel
theorem dX3_bestRule_6 : decode cX3_bestRule 6 = .ok (.iconst 1, 1) := by decide +kernel
theorem dX3_bestRule_7 : decode cX3_bestRule 7 = .ok (.bipush 9, 2) := by decide +kernel
theorem dX3_bestRule_9 : decode cX3_bestRule 9 = .ok (.invokestatic 29, 3) := by decide +kernel
theorem dX3_bestRule_12 : decode cX3_bestRule 12 = .ok (.ifCond .eq 11, 3) := by decide +kernel
theorem dX3_bestRule_15 : decode cX3_bestRule 15 = .ok (.aload_n 0, 1) := by decide +kernel
theorem dX3_bestRule_16 : decode cX3_bestRule 16 = .ok (.iload_n 1, 1) := by decide +kernel
theorem dX3_bestRule_17 : decode cX3_bestRule 17 = .ok (.invokevirtual 170, 3) := by decide +kernel
theorem dX3_bestRule_20 : decode cX3_bestRule 20 = .ok (.goto 8, 3) := by decide +kernel
theorem dX3_bestRule_23 : decode cX3_bestRule 23 = .ok (.aload_n 0, 1) := by decide +kernel
theorem dX3_bestRule_24 : decode cX3_bestRule 24 = .ok (.iconst 1, 1) := by decide +kernel
theorem dX3_bestRule_25 : decode cX3_bestRule 25 = .ok (.invokevirtual 40, 3) := by decide +kernel
theorem dX3_bestRule_28 : decode cX3_bestRule 28 = .ok (.ireturn, 1) := by decide +kernel
theorem dX3_amplified_0 : decode cX3_amplified 0 = .ok (.aload_n 0, 1) := by decide +kernel
theorem dX3_amplified_1 : decode cX3_amplified 1 = .ok (.getfield 7, 3) := by decide +kernel
theorem dX3_amplified_4 : decode cX3_amplified 4 = .ok (.sipush 360, 3) := by decide +kernel
theorem dX3_amplified_7 : decode cX3_amplified 7 = .ok (.iaload, 1) := by decide +kernel
theorem dX3_amplified_8 : decode cX3_amplified 8 = .ok (.istore_n 1, 1) := by decide +kernel
theorem dX3_amplified_9 : decode cX3_amplified 9 = .ok (.iload_n 1, 1) := by decide +kernel
theorem dX3_amplified_10 : decode cX3_amplified 10 = .ok (.ifCond .ne 7, 3) := by decide +kernel
theorem dX3_amplified_13 : decode cX3_amplified 13 = .ok (.dconst 1, 1) := by decide +kernel
theorem dX3_amplified_14 : decode cX3_amplified 14 = .ok (.goto 17, 3) := by decide +kernel
theorem dX3_amplified_17 : decode cX3_amplified 17 = .ok (.iload_n 1, 1) := by decide +kernel
theorem dX3_amplified_18 : decode cX3_amplified 18 = .ok (.aload_n 0, 1) := by decide +kernel
theorem dX3_amplified_19 : decode cX3_amplified 19 = .ok (.getfield 7, 3) := by decide +kernel
theorem dX3_amplified_22 : decode cX3_amplified 22 = .ok (.sipush 361, 3) := by decide +kernel
theorem dX3_amplified_25 : decode cX3_amplified 25 = .ok (.iaload, 1) := by decide +kernel
theorem dX3_amplified_26 : decode cX3_amplified 26 = .ok (.iadd, 1) := by decide +kernel
theorem dX3_amplified_27 : decode cX3_amplified 27 = .ok (.i2d, 1) := by decide +kernel
theorem dX3_amplified_28 : decode cX3_amplified 28 = .ok (.iload_n 1, 1) := by decide +kernel
theorem dX3_amplified_29 : decode cX3_amplified 29 = .ok (.i2d, 1) := by decide +kernel
theorem dX3_amplified_30 : decode cX3_amplified 30 = .ok (.ddiv, 1) := by decide +kernel
theorem dX3_amplified_31 : decode cX3_amplified 31 = .ok (.dreturn, 1) := by decide +kernel
set_option maxRecDepth 20000 in
theorem ggX3_amplification_X3_amplified : GoodIn wsX3_amplification wsX3_amplified := goodIn_r _ [6, 7, 8, 9, 10, 11, 12, 13, 14, 15, 16, 17, 18, 19] (by decide +kernel) (by decide +kernel)
set_option maxRecDepth 20000 in
theorem gX3_amplification_X3_amplified : GoodIn wsX3_amplification (wsV RX3 173 RX3 yX3_amplified wsX3_amplified) := goodIn_app (goodIn_of _ (by decide +kernel)) ggX3_amplification_X3_amplified
theorem dX3_amplification_0 : decode cX3_amplification 0 = .ok (.aload_n 0, 1) := by decide +kernel
theorem dX3_amplification_1 : decode cX3_amplification 1 = .ok (.iconst 0, 1) := by decide +kernel
theorem dX3_amplification_2 : decode cX3_amplification 2 = .ok (.putfield 25, 3) := by decide +kernel
theorem dX3_amplification_5 : decode cX3_amplification 5 = .ok (.aload_n 0, 1) := by decide +kernel
theorem dX3_amplification_6 : decode cX3_amplification 6 = .ok (.invokevirtual 173, 3) := by decide +kernel
theorem dX3_amplification_9 : decode cX3_amplification 9 = .ok (.dreturn, 1) := by decide +kernel
theorem dX3_mixes_0 : decode cX3_mixes 0 = .ok (.aload_n 0, 1) := by decide +kernel
theorem dX3_mixes_1 : decode cX3_mixes 1 = .ok (.ldc2_w 177, 3) := by decide +kernel
theorem dX3_mixes_4 : decode cX3_mixes 4 = .ok (.aload_n 0, 1) := by decide +kernel
theorem dX3_mixes_5 : decode cX3_mixes 5 = .ok (.getfield 179, 3) := by decide +kernel
theorem dX3_mixes_8 : decode cX3_mixes 8 = .ok (.lmul, 1) := by decide +kernel
theorem dX3_mixes_9 : decode cX3_mixes 9 = .ok (.lload_n 1, 1) := by decide +kernel
theorem dX3_mixes_10 : decode cX3_mixes 10 = .ok (.ladd, 1) := by decide +kernel
theorem dX3_mixes_11 : decode cX3_mixes 11 = .ok (.putfield 179, 3) := by decide +kernel
theorem dX3_mixes_14 : decode cX3_mixes 14 = .ok (.return_, 1) := by decide +kernel
set_option maxRecDepth 20000 in
theorem ggX3_mixesBlock_X3_ofBlock : GoodIn wsX3_mixesBlock wsX3_ofBlock := goodIn_r _ [6, 1, 7, 8, 5, 9, 10, 11, 12, 13, 14, 15, 16, 17, 18, 19, 20, 21, 22, 23, 30, 31, 32, 33, 34, 35, 36, 37, 38, 39, 40, 41] (by decide +kernel) (by decide +kernel)
set_option maxRecDepth 20000 in
theorem gX3_mixesBlock_X3_ofBlock : GoodIn wsX3_mixesBlock (wsV RX3 144 RX3 yX3_ofBlock wsX3_ofBlock) := goodIn_app (goodIn_of _ (by decide +kernel)) ggX3_mixesBlock_X3_ofBlock
set_option maxRecDepth 20000 in
theorem ggX3_mixesBlock_X3_mixes : GoodIn wsX3_mixesBlock wsX3_mixes := goodIn_r _ [27, 28, 29, 30, 31, 32, 33, 34, 35, 36, 37, 38, 39, 40, 41] (by decide +kernel) (by decide +kernel)
set_option maxRecDepth 20000 in
theorem gX3_mixesBlock_X3_mixes : GoodIn wsX3_mixesBlock (wsV RX3 183 RX3 yX3_mixes wsX3_mixes) := goodIn_app (goodIn_of _ (by decide +kernel)) ggX3_mixesBlock_X3_mixes
theorem dX3_mixesBlock_0 : decode cX3_mixesBlock 0 = .ok (.iconst 0, 1) := by decide +kernel
theorem dX3_mixesBlock_1 : decode cX3_mixesBlock 1 = .ok (.istore_n 2, 1) := by decide +kernel
theorem dX3_mixesBlock_2 : decode cX3_mixesBlock 2 = .ok (.iload_n 2, 1) := by decide +kernel
theorem dX3_mixesBlock_3 : decode cX3_mixesBlock 3 = .ok (.bipush 8, 2) := by decide +kernel
theorem dX3_mixesBlock_5 : decode cX3_mixesBlock 5 = .ok (.if_icmp .ge 20, 3) := by decide +kernel
theorem dX3_mixesBlock_8 : decode cX3_mixesBlock 8 = .ok (.aload_n 0, 1) := by decide +kernel
theorem dX3_mixesBlock_9 : decode cX3_mixesBlock 9 = .ok (.aload_n 0, 1) := by decide +kernel
theorem dX3_mixesBlock_10 : decode cX3_mixesBlock 10 = .ok (.iload_n 1, 1) := by decide +kernel
theorem dX3_mixesBlock_11 : decode cX3_mixesBlock 11 = .ok (.iload_n 2, 1) := by decide +kernel
theorem dX3_mixesBlock_12 : decode cX3_mixesBlock 12 = .ok (.invokevirtual 144, 3) := by decide +kernel
theorem dX3_mixesBlock_15 : decode cX3_mixesBlock 15 = .ok (.i2l, 1) := by decide +kernel
theorem dX3_mixesBlock_16 : decode cX3_mixesBlock 16 = .ok (.invokevirtual 183, 3) := by decide +kernel
theorem dX3_mixesBlock_19 : decode cX3_mixesBlock 19 = .ok (.iinc 2 1, 3) := by decide +kernel
theorem dX3_mixesBlock_22 : decode cX3_mixesBlock 22 = .ok (.goto (-20), 3) := by decide +kernel
theorem dX3_mixesBlock_25 : decode cX3_mixesBlock 25 = .ok (.iconst 0, 1) := by decide +kernel
theorem dX3_mixesBlock_26 : decode cX3_mixesBlock 26 = .ok (.istore_n 2, 1) := by decide +kernel
theorem dX3_mixesBlock_27 : decode cX3_mixesBlock 27 = .ok (.iload_n 2, 1) := by decide +kernel
theorem dX3_mixesBlock_28 : decode cX3_mixesBlock 28 = .ok (.bipush 8, 2) := by decide +kernel
theorem dX3_mixesBlock_30 : decode cX3_mixesBlock 30 = .ok (.if_icmp .ge 25, 3) := by decide +kernel
theorem dX3_mixesBlock_33 : decode cX3_mixesBlock 33 = .ok (.aload_n 0, 1) := by decide +kernel
theorem dX3_mixesBlock_34 : decode cX3_mixesBlock 34 = .ok (.aload_n 0, 1) := by decide +kernel
theorem dX3_mixesBlock_35 : decode cX3_mixesBlock 35 = .ok (.getfield 7, 3) := by decide +kernel
theorem dX3_mixesBlock_38 : decode cX3_mixesBlock 38 = .ok (.bipush 8, 2) := by decide +kernel
theorem dX3_mixesBlock_40 : decode cX3_mixesBlock 40 = .ok (.iload_n 1, 1) := by decide +kernel
theorem dX3_mixesBlock_41 : decode cX3_mixesBlock 41 = .ok (.imul, 1) := by decide +kernel
theorem dX3_mixesBlock_42 : decode cX3_mixesBlock 42 = .ok (.iload_n 2, 1) := by decide +kernel
theorem dX3_mixesBlock_43 : decode cX3_mixesBlock 43 = .ok (.iadd, 1) := by decide +kernel
theorem dX3_mixesBlock_44 : decode cX3_mixesBlock 44 = .ok (.iaload, 1) := by decide +kernel
theorem dX3_mixesBlock_45 : decode cX3_mixesBlock 45 = .ok (.i2l, 1) := by decide +kernel
theorem dX3_mixesBlock_46 : decode cX3_mixesBlock 46 = .ok (.invokevirtual 183, 3) := by decide +kernel
theorem dX3_mixesBlock_49 : decode cX3_mixesBlock 49 = .ok (.iinc 2 1, 3) := by decide +kernel
theorem dX3_mixesBlock_52 : decode cX3_mixesBlock 52 = .ok (.goto (-25), 3) := by decide +kernel
theorem dX3_mixesBlock_55 : decode cX3_mixesBlock 55 = .ok (.return_, 1) := by decide +kernel
set_option maxRecDepth 20000 in
theorem ggX3_digest_X3_counted : GoodIn wsX3_digest wsX3_counted := goodIn_r _ [11, 4, 12, 13, 14, 15, 10, 16, 17, 18, 19, 20, 21, 22, 23, 24, 25, 26, 27, 28, 29, 30, 31, 32, 33, 34, 35, 36, 37, 38, 119, 120, 121, 122, 123, 124, 125, 126, 127, 128, 129, 130] (by decide +kernel) (by decide +kernel)
set_option maxRecDepth 20000 in
theorem gX3_digest_X3_counted : GoodIn wsX3_digest (wsV RX3 160 RX3 yX3_counted wsX3_counted) := goodIn_app (goodIn_of _ (by decide +kernel)) ggX3_digest_X3_counted
set_option maxRecDepth 20000 in
theorem ggX3_digest_X3_mixes : GoodIn wsX3_digest wsX3_mixes := goodIn_r _ [42, 43, 3, 119, 120, 121, 122, 123, 124, 125, 126, 127, 128, 129, 130] (by decide +kernel) (by decide +kernel)
set_option maxRecDepth 20000 in
theorem gX3_digest_X3_mixes : GoodIn wsX3_digest (wsV RX3 183 RX3 yX3_mixes wsX3_mixes) := goodIn_app (goodIn_of _ (by decide +kernel)) ggX3_digest_X3_mixes
set_option maxRecDepth 20000 in
theorem ggX3_digest_X3_ofPage : GoodIn wsX3_digest wsX3_ofPage := goodIn_r _ [47, 4, 23, 24, 10, 25, 119, 120, 121, 122, 123, 124, 125, 126, 127, 128, 129, 130] (by decide +kernel) (by decide +kernel)
set_option maxRecDepth 20000 in
theorem gX3_digest_X3_ofPage : GoodIn wsX3_digest (wsV RX3 134 RX3 yX3_ofPage wsX3_ofPage) := goodIn_app (goodIn_of _ (by decide +kernel)) ggX3_digest_X3_ofPage
set_option maxRecDepth 20000 in
theorem ggX3_digest_X3_mixesBlock : GoodIn wsX3_digest wsX3_mixesBlock := goodIn_r _ [51, 4, 52, 53, 54, 10, 55, 17, 18, 19, 20, 21, 22, 23, 24, 25, 56, 57, 58, 59, 60, 61, 62, 63, 39, 40, 41, 42, 43, 3, 119, 120, 121, 122, 123, 124, 125, 126, 127, 128, 129, 130] (by decide +kernel) (by decide +kernel)
set_option maxRecDepth 20000 in
theorem gX3_digest_X3_mixesBlock : GoodIn wsX3_digest (wsV RX3 189 RX3 yX3_mixesBlock wsX3_mixesBlock) := goodIn_app (goodIn_of _ (by decide +kernel)) ggX3_digest_X3_mixesBlock
set_option maxRecDepth 20000 in
theorem ggX3_digest_X3_ofStream : GoodIn wsX3_digest wsX3_ofStream := goodIn_r _ [67, 4, 68, 69, 70, 10, 71, 23, 24, 25, 119, 120, 121, 122, 123, 124, 125, 126, 127, 128, 129, 130] (by decide +kernel) (by decide +kernel)
set_option maxRecDepth 20000 in
theorem gX3_digest_X3_ofStream : GoodIn wsX3_digest (wsV RX3 150 RX3 yX3_ofStream wsX3_ofStream) := goodIn_app (goodIn_of _ (by decide +kernel)) ggX3_digest_X3_ofStream
set_option maxRecDepth 20000 in
theorem ggX3_digest_X3_written : GoodIn wsX3_digest wsX3_written := goodIn_r _ [75, 4, 76, 77, 78, 10, 79, 80, 81, 82, 83, 84, 85, 33, 34, 35, 17, 18, 19, 20, 21, 22, 23, 24, 25, 36, 37, 38, 26, 27, 28, 86, 87, 88, 89, 90, 91, 92, 93, 94, 119, 120, 121, 122, 123, 124, 125, 126, 127, 128, 129, 130] (by decide +kernel) (by decide +kernel)
set_option maxRecDepth 20000 in
theorem gX3_digest_X3_written : GoodIn wsX3_digest (wsV RX3 163 RX3 yX3_written wsX3_written) := goodIn_app (goodIn_of _ (by decide +kernel)) ggX3_digest_X3_written
set_option maxRecDepth 20000 in
theorem ggX3_digest_X3_rewritten : GoodIn wsX3_digest wsX3_rewritten := goodIn_r _ [98, 4, 76, 77, 78, 10, 79, 23, 24, 25, 80, 81, 82, 83, 84, 85, 33, 34, 35, 17, 18, 19, 20, 21, 22, 36, 37, 38, 26, 27, 28, 86, 87, 88, 89, 90, 91, 92, 93, 94, 119, 120, 121, 122, 123, 124, 125, 126, 127, 128, 129, 130] (by decide +kernel) (by decide +kernel)
set_option maxRecDepth 20000 in
theorem gX3_digest_X3_rewritten : GoodIn wsX3_digest (wsV RX3 167 RX3 yX3_rewritten wsX3_rewritten) := goodIn_app (goodIn_of _ (by decide +kernel)) ggX3_digest_X3_rewritten
set_option maxRecDepth 20000 in
theorem ggX3_digest_X3_best : GoodIn wsX3_digest wsX3_best := goodIn_r _ [102, 95, 96, 97, 10, 98, 4, 76, 77, 78, 79, 23, 24, 25, 80, 81, 82, 83, 84, 85, 33, 34, 35, 17, 18, 19, 20, 21, 22, 36, 37, 38, 26, 27, 28, 86, 87, 88, 89, 90, 91, 92, 93, 94, 119, 120, 121, 122, 123, 124, 125, 126, 127, 128, 129, 130] (by decide +kernel) (by decide +kernel)
set_option maxRecDepth 20000 in
theorem gX3_digest_X3_best : GoodIn wsX3_digest (wsV RX3 170 RX3 yX3_best wsX3_best) := goodIn_app (goodIn_of _ (by decide +kernel)) ggX3_digest_X3_best
set_option maxRecDepth 20000 in
theorem ggX3_digest_X3_amplified : GoodIn wsX3_digest wsX3_amplified := goodIn_r _ [106, 4, 119, 120, 121, 122, 123, 124, 125, 126, 127, 128, 129, 130] (by decide +kernel) (by decide +kernel)
set_option maxRecDepth 20000 in
theorem gX3_digest_X3_amplified : GoodIn wsX3_digest (wsV RX3 173 RX3 yX3_amplified wsX3_amplified) := goodIn_app (goodIn_of _ (by decide +kernel)) ggX3_digest_X3_amplified
set_option maxRecDepth 20000 in
theorem ggX3_digest_Jxe99ae_doubleToLongBits_ccdee : GoodIn wsX3_digest wsJxe99ae_doubleToLongBits_ccdee := goodIn_r _ [110, 111, 112, 113, 114, 115, 116, 117, 109, 118] (by decide +kernel) (by decide +kernel)
set_option maxRecDepth 20000 in
theorem gX3_digest_Jxe99ae_doubleToLongBits_ccdee : GoodIn wsX3_digest (va_wsS RX3 193 yJxe99ae_doubleToLongBits_ccdee wsJxe99ae_doubleToLongBits_ccdee) := goodIn_app (goodIn_of _ (by decide +kernel)) ggX3_digest_Jxe99ae_doubleToLongBits_ccdee
theorem dX3_digest_0 : decode cX3_digest 0 = .ok (.aload_n 0, 1) := by decide +kernel
theorem dX3_digest_1 : decode cX3_digest 1 = .ok (.iconst 0, 1) := by decide +kernel
theorem dX3_digest_2 : decode cX3_digest 2 = .ok (.putfield 25, 3) := by decide +kernel
theorem dX3_digest_5 : decode cX3_digest 5 = .ok (.aload_n 0, 1) := by decide +kernel
theorem dX3_digest_6 : decode cX3_digest 6 = .ok (.ldc2_w 187, 3) := by decide +kernel
theorem dX3_digest_9 : decode cX3_digest 9 = .ok (.putfield 179, 3) := by decide +kernel
theorem dX3_digest_12 : decode cX3_digest 12 = .ok (.iconst 0, 1) := by decide +kernel
theorem dX3_digest_13 : decode cX3_digest 13 = .ok (.istore_n 1, 1) := by decide +kernel
theorem dX3_digest_14 : decode cX3_digest 14 = .ok (.iload_n 1, 1) := by decide +kernel
theorem dX3_digest_15 : decode cX3_digest 15 = .ok (.bipush 12, 2) := by decide +kernel
theorem dX3_digest_17 : decode cX3_digest 17 = .ok (.if_icmp .ge 19, 3) := by decide +kernel
theorem dX3_digest_20 : decode cX3_digest 20 = .ok (.aload_n 0, 1) := by decide +kernel
theorem dX3_digest_21 : decode cX3_digest 21 = .ok (.aload_n 0, 1) := by decide +kernel
theorem dX3_digest_22 : decode cX3_digest 22 = .ok (.iload_n 1, 1) := by decide +kernel
theorem dX3_digest_23 : decode cX3_digest 23 = .ok (.invokevirtual 160, 3) := by decide +kernel
theorem dX3_digest_26 : decode cX3_digest 26 = .ok (.i2l, 1) := by decide +kernel
theorem dX3_digest_27 : decode cX3_digest 27 = .ok (.invokevirtual 183, 3) := by decide +kernel
theorem dX3_digest_30 : decode cX3_digest 30 = .ok (.iinc 1 1, 3) := by decide +kernel
theorem dX3_digest_33 : decode cX3_digest 33 = .ok (.goto (-19), 3) := by decide +kernel
theorem dX3_digest_36 : decode cX3_digest 36 = .ok (.aload_n 0, 1) := by decide +kernel
theorem dX3_digest_37 : decode cX3_digest 37 = .ok (.aload_n 0, 1) := by decide +kernel
theorem dX3_digest_38 : decode cX3_digest 38 = .ok (.getfield 7, 3) := by decide +kernel
theorem dX3_digest_41 : decode cX3_digest 41 = .ok (.sipush 358, 3) := by decide +kernel
theorem dX3_digest_44 : decode cX3_digest 44 = .ok (.iaload, 1) := by decide +kernel
theorem dX3_digest_45 : decode cX3_digest 45 = .ok (.i2l, 1) := by decide +kernel
theorem dX3_digest_46 : decode cX3_digest 46 = .ok (.invokevirtual 183, 3) := by decide +kernel
theorem dX3_digest_49 : decode cX3_digest 49 = .ok (.aload_n 0, 1) := by decide +kernel
theorem dX3_digest_50 : decode cX3_digest 50 = .ok (.aload_n 0, 1) := by decide +kernel
theorem dX3_digest_51 : decode cX3_digest 51 = .ok (.getfield 7, 3) := by decide +kernel
theorem dX3_digest_54 : decode cX3_digest 54 = .ok (.sipush 359, 3) := by decide +kernel
theorem dX3_digest_57 : decode cX3_digest 57 = .ok (.iaload, 1) := by decide +kernel
theorem dX3_digest_58 : decode cX3_digest 58 = .ok (.i2l, 1) := by decide +kernel
theorem dX3_digest_59 : decode cX3_digest 59 = .ok (.invokevirtual 183, 3) := by decide +kernel
theorem dX3_digest_62 : decode cX3_digest 62 = .ok (.iconst 0, 1) := by decide +kernel
theorem dX3_digest_63 : decode cX3_digest 63 = .ok (.istore_n 1, 1) := by decide +kernel
theorem dX3_digest_64 : decode cX3_digest 64 = .ok (.iload_n 1, 1) := by decide +kernel
theorem dX3_digest_65 : decode cX3_digest 65 = .ok (.sipush 240, 3) := by decide +kernel
theorem dX3_digest_68 : decode cX3_digest 68 = .ok (.if_icmp .ge 26, 3) := by decide +kernel
theorem dX3_digest_71 : decode cX3_digest 71 = .ok (.aload_n 0, 1) := by decide +kernel
theorem dX3_digest_72 : decode cX3_digest 72 = .ok (.aload_n 0, 1) := by decide +kernel
theorem dX3_digest_73 : decode cX3_digest 73 = .ok (.iload_n 1, 1) := by decide +kernel
theorem dX3_digest_74 : decode cX3_digest 74 = .ok (.bipush 6, 2) := by decide +kernel
theorem dX3_digest_76 : decode cX3_digest 76 = .ok (.idiv, 1) := by decide +kernel
theorem dX3_digest_77 : decode cX3_digest 77 = .ok (.iload_n 1, 1) := by decide +kernel
theorem dX3_digest_78 : decode cX3_digest 78 = .ok (.bipush 6, 2) := by decide +kernel
theorem dX3_digest_80 : decode cX3_digest 80 = .ok (.irem, 1) := by decide +kernel
theorem dX3_digest_81 : decode cX3_digest 81 = .ok (.invokevirtual 134, 3) := by decide +kernel
theorem dX3_digest_84 : decode cX3_digest 84 = .ok (.i2l, 1) := by decide +kernel
theorem dX3_digest_85 : decode cX3_digest 85 = .ok (.invokevirtual 183, 3) := by decide +kernel
theorem dX3_digest_88 : decode cX3_digest 88 = .ok (.iinc 1 1, 3) := by decide +kernel
theorem dX3_digest_91 : decode cX3_digest 91 = .ok (.goto (-27), 3) := by decide +kernel
theorem dX3_digest_94 : decode cX3_digest 94 = .ok (.iconst 0, 1) := by decide +kernel
theorem dX3_digest_95 : decode cX3_digest 95 = .ok (.istore_n 1, 1) := by decide +kernel
theorem dX3_digest_96 : decode cX3_digest 96 = .ok (.iload_n 1, 1) := by decide +kernel
theorem dX3_digest_97 : decode cX3_digest 97 = .ok (.bipush 12, 2) := by decide +kernel
theorem dX3_digest_99 : decode cX3_digest 99 = .ok (.if_icmp .ge 14, 3) := by decide +kernel
theorem dX3_digest_102 : decode cX3_digest 102 = .ok (.aload_n 0, 1) := by decide +kernel
theorem dX3_digest_103 : decode cX3_digest 103 = .ok (.iload_n 1, 1) := by decide +kernel
theorem dX3_digest_104 : decode cX3_digest 104 = .ok (.invokevirtual 189, 3) := by decide +kernel
theorem dX3_digest_107 : decode cX3_digest 107 = .ok (.iinc 1 1, 3) := by decide +kernel
theorem dX3_digest_110 : decode cX3_digest 110 = .ok (.goto (-14), 3) := by decide +kernel
theorem dX3_digest_113 : decode cX3_digest 113 = .ok (.iconst 0, 1) := by decide +kernel
theorem dX3_digest_114 : decode cX3_digest 114 = .ok (.istore_n 1, 1) := by decide +kernel
theorem dX3_digest_115 : decode cX3_digest 115 = .ok (.iload_n 1, 1) := by decide +kernel
theorem dX3_digest_116 : decode cX3_digest 116 = .ok (.bipush 25, 2) := by decide +kernel
theorem dX3_digest_118 : decode cX3_digest 118 = .ok (.if_icmp .ge 24, 3) := by decide +kernel
theorem dX3_digest_121 : decode cX3_digest 121 = .ok (.aload_n 0, 1) := by decide +kernel
theorem dX3_digest_122 : decode cX3_digest 122 = .ok (.aload_n 0, 1) := by decide +kernel
theorem dX3_digest_123 : decode cX3_digest 123 = .ok (.iload_n 1, 1) := by decide +kernel
theorem dX3_digest_124 : decode cX3_digest 124 = .ok (.iconst 5, 1) := by decide +kernel
theorem dX3_digest_125 : decode cX3_digest 125 = .ok (.idiv, 1) := by decide +kernel
theorem dX3_digest_126 : decode cX3_digest 126 = .ok (.iload_n 1, 1) := by decide +kernel
theorem dX3_digest_127 : decode cX3_digest 127 = .ok (.iconst 5, 1) := by decide +kernel
theorem dX3_digest_128 : decode cX3_digest 128 = .ok (.irem, 1) := by decide +kernel
theorem dX3_digest_129 : decode cX3_digest 129 = .ok (.invokevirtual 150, 3) := by decide +kernel
theorem dX3_digest_132 : decode cX3_digest 132 = .ok (.i2l, 1) := by decide +kernel
theorem dX3_digest_133 : decode cX3_digest 133 = .ok (.invokevirtual 183, 3) := by decide +kernel
theorem dX3_digest_136 : decode cX3_digest 136 = .ok (.iinc 1 1, 3) := by decide +kernel
theorem dX3_digest_139 : decode cX3_digest 139 = .ok (.goto (-24), 3) := by decide +kernel
theorem dX3_digest_142 : decode cX3_digest 142 = .ok (.iconst 0, 1) := by decide +kernel
theorem dX3_digest_143 : decode cX3_digest 143 = .ok (.istore_n 1, 1) := by decide +kernel
theorem dX3_digest_144 : decode cX3_digest 144 = .ok (.iload_n 1, 1) := by decide +kernel
theorem dX3_digest_145 : decode cX3_digest 145 = .ok (.bipush 12, 2) := by decide +kernel
theorem dX3_digest_147 : decode cX3_digest 147 = .ok (.if_icmp .ge 25, 3) := by decide +kernel
theorem dX3_digest_150 : decode cX3_digest 150 = .ok (.aload_n 0, 1) := by decide +kernel
theorem dX3_digest_151 : decode cX3_digest 151 = .ok (.aload_n 0, 1) := by decide +kernel
theorem dX3_digest_152 : decode cX3_digest 152 = .ok (.iconst 0, 1) := by decide +kernel
theorem dX3_digest_153 : decode cX3_digest 153 = .ok (.iload_n 1, 1) := by decide +kernel
theorem dX3_digest_154 : decode cX3_digest 154 = .ok (.iconst 3, 1) := by decide +kernel
theorem dX3_digest_155 : decode cX3_digest 155 = .ok (.idiv, 1) := by decide +kernel
theorem dX3_digest_156 : decode cX3_digest 156 = .ok (.iload_n 1, 1) := by decide +kernel
theorem dX3_digest_157 : decode cX3_digest 157 = .ok (.iconst 3, 1) := by decide +kernel
theorem dX3_digest_158 : decode cX3_digest 158 = .ok (.irem, 1) := by decide +kernel
theorem dX3_digest_159 : decode cX3_digest 159 = .ok (.invokevirtual 163, 3) := by decide +kernel
theorem dX3_digest_162 : decode cX3_digest 162 = .ok (.i2l, 1) := by decide +kernel
theorem dX3_digest_163 : decode cX3_digest 163 = .ok (.invokevirtual 183, 3) := by decide +kernel
theorem dX3_digest_166 : decode cX3_digest 166 = .ok (.iinc 1 1, 3) := by decide +kernel
theorem dX3_digest_169 : decode cX3_digest 169 = .ok (.goto (-25), 3) := by decide +kernel
theorem dX3_digest_172 : decode cX3_digest 172 = .ok (.aload_n 0, 1) := by decide +kernel
theorem dX3_digest_173 : decode cX3_digest 173 = .ok (.aload_n 0, 1) := by decide +kernel
theorem dX3_digest_174 : decode cX3_digest 174 = .ok (.iconst 1, 1) := by decide +kernel
theorem dX3_digest_175 : decode cX3_digest 175 = .ok (.aload_n 0, 1) := by decide +kernel
theorem dX3_digest_176 : decode cX3_digest 176 = .ok (.getfield 7, 3) := by decide +kernel
theorem dX3_digest_179 : decode cX3_digest 179 = .ok (.sipush 358, 3) := by decide +kernel
theorem dX3_digest_182 : decode cX3_digest 182 = .ok (.iaload, 1) := by decide +kernel
theorem dX3_digest_183 : decode cX3_digest 183 = .ok (.invokevirtual 167, 3) := by decide +kernel
theorem dX3_digest_186 : decode cX3_digest 186 = .ok (.i2l, 1) := by decide +kernel
theorem dX3_digest_187 : decode cX3_digest 187 = .ok (.invokevirtual 183, 3) := by decide +kernel
theorem dX3_digest_190 : decode cX3_digest 190 = .ok (.aload_n 0, 1) := by decide +kernel
theorem dX3_digest_191 : decode cX3_digest 191 = .ok (.aload_n 0, 1) := by decide +kernel
theorem dX3_digest_192 : decode cX3_digest 192 = .ok (.iconst 2, 1) := by decide +kernel
theorem dX3_digest_193 : decode cX3_digest 193 = .ok (.invokevirtual 170, 3) := by decide +kernel
theorem dX3_digest_196 : decode cX3_digest 196 = .ok (.i2l, 1) := by decide +kernel
theorem dX3_digest_197 : decode cX3_digest 197 = .ok (.invokevirtual 183, 3) := by decide +kernel
theorem dX3_digest_200 : decode cX3_digest 200 = .ok (.aload_n 0, 1) := by decide +kernel
theorem dX3_digest_201 : decode cX3_digest 201 = .ok (.aload_n 0, 1) := by decide +kernel
theorem dX3_digest_202 : decode cX3_digest 202 = .ok (.invokevirtual 173, 3) := by decide +kernel
theorem dX3_digest_205 : decode cX3_digest 205 = .ok (.invokestatic 193, 3) := by decide +kernel
theorem dX3_digest_208 : decode cX3_digest 208 = .ok (.invokevirtual 183, 3) := by decide +kernel
theorem dX3_digest_211 : decode cX3_digest 211 = .ok (.aload_n 0, 1) := by decide +kernel
theorem dX3_digest_212 : decode cX3_digest 212 = .ok (.aload_n 0, 1) := by decide +kernel
theorem dX3_digest_213 : decode cX3_digest 213 = .ok (.getfield 98, 3) := by decide +kernel
theorem dX3_digest_216 : decode cX3_digest 216 = .ok (.i2l, 1) := by decide +kernel
theorem dX3_digest_217 : decode cX3_digest 217 = .ok (.invokevirtual 183, 3) := by decide +kernel
theorem dX3_digest_220 : decode cX3_digest 220 = .ok (.iconst 0, 1) := by decide +kernel
theorem dX3_digest_221 : decode cX3_digest 221 = .ok (.istore_n 1, 1) := by decide +kernel
theorem dX3_digest_222 : decode cX3_digest 222 = .ok (.iload_n 1, 1) := by decide +kernel
theorem dX3_digest_223 : decode cX3_digest 223 = .ok (.aload_n 0, 1) := by decide +kernel
theorem dX3_digest_224 : decode cX3_digest 224 = .ok (.getfield 98, 3) := by decide +kernel
theorem dX3_digest_227 : decode cX3_digest 227 = .ok (.if_icmp .ge 20, 3) := by decide +kernel
theorem dX3_digest_230 : decode cX3_digest 230 = .ok (.aload_n 0, 1) := by decide +kernel
theorem dX3_digest_231 : decode cX3_digest 231 = .ok (.aload_n 0, 1) := by decide +kernel
theorem dX3_digest_232 : decode cX3_digest 232 = .ok (.getfield 19, 3) := by decide +kernel
theorem dX3_digest_235 : decode cX3_digest 235 = .ok (.iload_n 1, 1) := by decide +kernel
theorem dX3_digest_236 : decode cX3_digest 236 = .ok (.iaload, 1) := by decide +kernel
theorem dX3_digest_237 : decode cX3_digest 237 = .ok (.i2l, 1) := by decide +kernel
theorem dX3_digest_238 : decode cX3_digest 238 = .ok (.invokevirtual 183, 3) := by decide +kernel
theorem dX3_digest_241 : decode cX3_digest 241 = .ok (.iinc 1 1, 3) := by decide +kernel
theorem dX3_digest_244 : decode cX3_digest 244 = .ok (.goto (-22), 3) := by decide +kernel
theorem dX3_digest_247 : decode cX3_digest 247 = .ok (.aload_n 0, 1) := by decide +kernel
theorem dX3_digest_248 : decode cX3_digest 248 = .ok (.getfield 179, 3) := by decide +kernel
theorem dX3_digest_251 : decode cX3_digest 251 = .ok (.lreturn, 1) := by decide +kernel
