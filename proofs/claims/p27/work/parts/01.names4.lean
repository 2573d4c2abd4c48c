theorem dX7_shoot_43 : decode cX7_shoot 43 = .ok (.ireturn, 1) := by decide +kernel
set_option maxRecDepth 20000 in
theorem ggX7_of_X7_isThing : GoodIn wsX7_of wsX7_isThing := goodIn_r _ [14, 1, 2, 15, 16, 17, 13, 18, 38, 39, 40, 41, 42, 43, 44, 45, 46, 47, 48, 49, 50, 51, 52, 53, 54, 55, 56, 57, 58, 59, 60] (by decide +kernel) (by decide +kernel)
set_option maxRecDepth 20000 in
theorem gX7_of_X7_isThing : GoodIn wsX7_of (wsV RX7 86 RX7 yX7_isThing wsX7_isThing) := goodIn_app (goodIn_of _ (by decide +kernel)) ggX7_of_X7_isThing
set_option maxRecDepth 20000 in
theorem ggX7_of_X6_leftAt : GoodIn wsX7_of wsX6_leftAt := goodIn_r _ [23, 24, 25, 26, 27, 28, 29, 30, 31, 32, 33, 51, 52, 53, 54, 55, 56, 57, 58, 59, 60] (by decide +kernel) (by decide +kernel)
set_option maxRecDepth 20000 in
theorem gX7_of_X6_leftAt : GoodIn wsX7_of (wsV RX7 141 RX6 yX6_leftAt wsX6_leftAt) := goodIn_app (goodIn_of _ (by decide +kernel)) ggX7_of_X6_leftAt
set_option maxRecDepth 20000 in
theorem ggX7_of_X6_speedWithAllUnder : GoodIn wsX7_of wsX6_speedWithAllUnder := goodIn_r _ [37, 24, 26, 29, 51, 52, 53, 54, 55, 56, 57, 58, 59, 60] (by decide +kernel) (by decide +kernel)
set_option maxRecDepth 20000 in
theorem gX7_of_X6_speedWithAllUnder : GoodIn wsX7_of (wsV RX7 153 RX6 yX6_speedWithAllUnder wsX6_speedWithAllUnder) := goodIn_app (goodIn_of _ (by decide +kernel)) ggX7_of_X6_speedWithAllUnder
theorem dX7_of_0 : decode cX7_of 0 = .ok (.aload_n 0, 1) := by decide +kernel
theorem dX7_of_1 : decode cX7_of 1 = .ok (.iload_n 1, 1) := by decide +kernel
theorem dX7_of_2 : decode cX7_of 2 = .ok (.invokevirtual 86, 3) := by decide +kernel
theorem dX7_of_5 : decode cX7_of 5 = .ok (.ifCond .ne 5, 3) := by decide +kernel
theorem dX7_of_8 : decode cX7_of 8 = .ok (.iconst (-1), 1) := by decide +kernel
theorem dX7_of_9 : decode cX7_of 9 = .ok (.ireturn, 1) := by decide +kernel
theorem dX7_of_10 : decode cX7_of 10 = .ok (.aload_n 0, 1) := by decide +kernel
theorem dX7_of_11 : decode cX7_of 11 = .ok (.getfield 10, 3) := by decide +kernel
theorem dX7_of_14 : decode cX7_of 14 = .ok (.getfield 72, 3) := by decide +kernel
theorem dX7_of_17 : decode cX7_of 17 = .ok (.astore_n 3, 1) := by decide +kernel
theorem dX7_of_18 : decode cX7_of 18 = .ok (.iload_n 2, 1) := by decide +kernel
theorem dX7_of_19 : decode cX7_of 19 = .ok (.tableswitch 117 0 7 #[45, 52, 69, 76, 83, 90, 100, 107], 45) := by decide +kernel
theorem dX7_of_64 : decode cX7_of 64 = .ok (.aload_n 3, 1) := by decide +kernel
theorem dX7_of_65 : decode cX7_of 65 = .ok (.getfield 138, 3) := by decide +kernel
theorem dX7_of_68 : decode cX7_of 68 = .ok (.iload_n 1, 1) := by decide +kernel
theorem dX7_of_69 : decode cX7_of 69 = .ok (.iaload, 1) := by decide +kernel
theorem dX7_of_70 : decode cX7_of 70 = .ok (.ireturn, 1) := by decide +kernel
theorem dX7_of_71 : decode cX7_of 71 = .ok (.aload_n 3, 1) := by decide +kernel
theorem dX7_of_72 : decode cX7_of 72 = .ok (.iload_n 1, 1) := by decide +kernel
theorem dX7_of_73 : decode cX7_of 73 = .ok (.aload_n 0, 1) := by decide +kernel
theorem dX7_of_74 : decode cX7_of 74 = .ok (.getfield 10, 3) := by decide +kernel
theorem dX7_of_77 : decode cX7_of 77 = .ok (.getfield 76, 3) := by decide +kernel
theorem dX7_of_80 : decode cX7_of 80 = .ok (.invokevirtual 141, 3) := by decide +kernel
theorem dX7_of_83 : decode cX7_of 83 = .ok (.sipush 1000, 3) := by decide +kernel
theorem dX7_of_86 : decode cX7_of 86 = .ok (.iadd, 1) := by decide +kernel
theorem dX7_of_87 : decode cX7_of 87 = .ok (.ireturn, 1) := by decide +kernel
theorem dX7_of_88 : decode cX7_of 88 = .ok (.aload_n 3, 1) := by decide +kernel
theorem dX7_of_89 : decode cX7_of 89 = .ok (.getfield 144, 3) := by decide +kernel
theorem dX7_of_92 : decode cX7_of 92 = .ok (.iload_n 1, 1) := by decide +kernel
theorem dX7_of_93 : decode cX7_of 93 = .ok (.iaload, 1) := by decide +kernel
theorem dX7_of_94 : decode cX7_of 94 = .ok (.ireturn, 1) := by decide +kernel
theorem dX7_of_95 : decode cX7_of 95 = .ok (.aload_n 3, 1) := by decide +kernel
theorem dX7_of_96 : decode cX7_of 96 = .ok (.getfield 147, 3) := by decide +kernel
theorem dX7_of_99 : decode cX7_of 99 = .ok (.iload_n 1, 1) := by decide +kernel
theorem dX7_of_100 : decode cX7_of 100 = .ok (.iaload, 1) := by decide +kernel
theorem dX7_of_101 : decode cX7_of 101 = .ok (.ireturn, 1) := by decide +kernel
theorem dX7_of_102 : decode cX7_of 102 = .ok (.aload_n 3, 1) := by decide +kernel
theorem dX7_of_103 : decode cX7_of 103 = .ok (.getfield 150, 3) := by decide +kernel
theorem dX7_of_106 : decode cX7_of 106 = .ok (.iload_n 1, 1) := by decide +kernel
theorem dX7_of_107 : decode cX7_of 107 = .ok (.iaload, 1) := by decide +kernel
theorem dX7_of_108 : decode cX7_of 108 = .ok (.ireturn, 1) := by decide +kernel
theorem dX7_of_109 : decode cX7_of 109 = .ok (.aload_n 3, 1) := by decide +kernel
theorem dX7_of_110 : decode cX7_of 110 = .ok (.getfield 93, 3) := by decide +kernel
theorem dX7_of_113 : decode cX7_of 113 = .ok (.iload_n 1, 1) := by decide +kernel
theorem dX7_of_114 : decode cX7_of 114 = .ok (.iaload, 1) := by decide +kernel
theorem dX7_of_115 : decode cX7_of 115 = .ok (.bipush 100, 2) := by decide +kernel
theorem dX7_of_117 : decode cX7_of 117 = .ok (.iadd, 1) := by decide +kernel
theorem dX7_of_118 : decode cX7_of 118 = .ok (.ireturn, 1) := by decide +kernel
theorem dX7_of_119 : decode cX7_of 119 = .ok (.aload_n 3, 1) := by decide +kernel
theorem dX7_of_120 : decode cX7_of 120 = .ok (.getfield 96, 3) := by decide +kernel
theorem dX7_of_123 : decode cX7_of 123 = .ok (.iload_n 1, 1) := by decide +kernel
theorem dX7_of_124 : decode cX7_of 124 = .ok (.iaload, 1) := by decide +kernel
theorem dX7_of_125 : decode cX7_of 125 = .ok (.ireturn, 1) := by decide +kernel
theorem dX7_of_126 : decode cX7_of 126 = .ok (.aload_n 3, 1) := by decide +kernel
theorem dX7_of_127 : decode cX7_of 127 = .ok (.iload_n 1, 1) := by decide +kernel
theorem dX7_of_128 : decode cX7_of 128 = .ok (.invokevirtual 153, 3) := by decide +kernel
theorem dX7_of_131 : decode cX7_of 131 = .ok (.sipush 1000, 3) := by decide +kernel
theorem dX7_of_134 : decode cX7_of 134 = .ok (.iadd, 1) := by decide +kernel
theorem dX7_of_135 : decode cX7_of 135 = .ok (.ireturn, 1) := by decide +kernel
theorem dX7_of_136 : decode cX7_of 136 = .ok (.bipush (-2), 2) := by decide +kernel
theorem dX7_of_138 : decode cX7_of 138 = .ok (.ireturn, 1) := by decide +kernel
set_option maxRecDepth 20000 in
theorem ggX7_pixel_X7_isPlace : GoodIn wsX7_pixel wsX7_isPlace := goodIn_r _ [6, 7, 8, 5, 9] (by decide +kernel) (by decide +kernel)
set_option maxRecDepth 20000 in
theorem gX7_pixel_X7_isPlace : GoodIn wsX7_pixel (va_wsS RX7 156 yX7_isPlace wsX7_isPlace) := goodIn_app (goodIn_of _ (by decide +kernel)) ggX7_pixel_X7_isPlace
set_option maxRecDepth 20000 in
theorem ggX7_pixel_X3_pixelAt : GoodIn wsX7_pixel wsX3_pixelAt := goodIn_r _ [14, 15, 29] (by decide +kernel) (by decide +kernel)
set_option maxRecDepth 20000 in
theorem gX7_pixel_X3_pixelAt : GoodIn wsX7_pixel (wsV RX7 159 RX3 yX3_pixelAt wsX3_pixelAt) := goodIn_app (goodIn_of _ (by decide +kernel)) ggX7_pixel_X3_pixelAt
theorem dX7_pixel_0 : decode cX7_pixel 0 = .ok (.iload_n 1, 1) := by decide +kernel
theorem dX7_pixel_1 : decode cX7_pixel 1 = .ok (.iload_n 2, 1) := by decide +kernel
theorem dX7_pixel_2 : decode cX7_pixel 2 = .ok (.invokestatic 156, 3) := by decide +kernel
theorem dX7_pixel_5 : decode cX7_pixel 5 = .ok (.ifCond .ne 5, 3) := by decide +kernel
theorem dX7_pixel_8 : decode cX7_pixel 8 = .ok (.iconst (-1), 1) := by decide +kernel
theorem dX7_pixel_9 : decode cX7_pixel 9 = .ok (.ireturn, 1) := by decide +kernel
theorem dX7_pixel_10 : decode cX7_pixel 10 = .ok (.aload_n 0, 1) := by decide +kernel
theorem dX7_pixel_11 : decode cX7_pixel 11 = .ok (.getfield 10, 3) := by decide +kernel
theorem dX7_pixel_14 : decode cX7_pixel 14 = .ok (.getfield 129, 3) := by decide +kernel
theorem dX7_pixel_17 : decode cX7_pixel 17 = .ok (.iload_n 1, 1) := by decide +kernel
theorem dX7_pixel_18 : decode cX7_pixel 18 = .ok (.iload_n 2, 1) := by decide +kernel
theorem dX7_pixel_19 : decode cX7_pixel 19 = .ok (.invokevirtual 159, 3) := by decide +kernel
theorem dX7_pixel_22 : decode cX7_pixel 22 = .ok (.ireturn, 1) := by decide +kernel
set_option maxRecDepth 20000 in
theorem ggX7_joined_X7_isPlace : GoodIn wsX7_joined wsX7_isPlace := goodIn_r _ [11, 12, 13, 10, 14] (by decide +kernel) (by decide +kernel)
set_option maxRecDepth 20000 in
theorem gX7_joined_X7_isPlace : GoodIn wsX7_joined (va_wsS RX7 156 yX7_isPlace wsX7_isPlace) := goodIn_app (goodIn_of _ (by decide +kernel)) ggX7_joined_X7_isPlace
set_option maxRecDepth 20000 in
theorem ggX7_joined_X3_pixelAt : GoodIn wsX7_joined wsX3_pixelAt := goodIn_r _ [19, 20, 34] (by decide +kernel) (by decide +kernel)
set_option maxRecDepth 20000 in
theorem gX7_joined_X3_pixelAt : GoodIn wsX7_joined (wsV RX7 159 RX3 yX3_pixelAt wsX3_pixelAt) := goodIn_app (goodIn_of _ (by decide +kernel)) ggX7_joined_X3_pixelAt
theorem dX7_joined_0 : decode cX7_joined 0 = .ok (.aload_n 0, 1) := by decide +kernel
theorem dX7_joined_1 : decode cX7_joined 1 = .ok (.getfield 10, 3) := by decide +kernel
theorem dX7_joined_4 : decode cX7_joined 4 = .ok (.getfield 65, 3) := by decide +kernel
theorem dX7_joined_7 : decode cX7_joined 7 = .ok (.iconst 3, 1) := by decide +kernel
theorem dX7_joined_8 : decode cX7_joined 8 = .ok (.iaload, 1) := by decide +kernel
theorem dX7_joined_9 : decode cX7_joined 9 = .ok (.istore_n 3, 1) := by decide +kernel
theorem dX7_joined_10 : decode cX7_joined 10 = .ok (.iload_n 1, 1) := by decide +kernel
theorem dX7_joined_11 : decode cX7_joined 11 = .ok (.iload_n 2, 1) := by decide +kernel
theorem dX7_joined_12 : decode cX7_joined 12 = .ok (.invokestatic 156, 3) := by decide +kernel
theorem dX7_joined_15 : decode cX7_joined 15 = .ok (.ifCond .eq 11, 3) := by decide +kernel
theorem dX7_joined_18 : decode cX7_joined 18 = .ok (.iload_n 1, 1) := by decide +kernel
theorem dX7_joined_19 : decode cX7_joined 19 = .ok (.iload_n 3, 1) := by decide +kernel
theorem dX7_joined_20 : decode cX7_joined 20 = .ok (.imul, 1) := by decide +kernel
theorem dX7_joined_21 : decode cX7_joined 21 = .ok (.bipush 16, 2) := by decide +kernel
theorem dX7_joined_23 : decode cX7_joined 23 = .ok (.if_icmp .lt 5, 3) := by decide +kernel
theorem dX7_joined_26 : decode cX7_joined 26 = .ok (.iconst (-1), 1) := by decide +kernel
theorem dX7_joined_27 : decode cX7_joined 27 = .ok (.ireturn, 1) := by decide +kernel
theorem dX7_joined_28 : decode cX7_joined 28 = .ok (.bipush 16, 2) := by decide +kernel
theorem dX7_joined_30 : decode cX7_joined 30 = .ok (.iload_n 1, 1) := by decide +kernel
theorem dX7_joined_31 : decode cX7_joined 31 = .ok (.iload_n 3, 1) := by decide +kernel
theorem dX7_joined_32 : decode cX7_joined 32 = .ok (.imul, 1) := by decide +kernel
theorem dX7_joined_33 : decode cX7_joined 33 = .ok (.iload_n 3, 1) := by decide +kernel
theorem dX7_joined_34 : decode cX7_joined 34 = .ok (.iadd, 1) := by decide +kernel
theorem dX7_joined_35 : decode cX7_joined 35 = .ok (.invokestatic 162, 3) := by decide +kernel
theorem dX7_joined_38 : decode cX7_joined 38 = .ok (.istore 4, 2) := by decide +kernel
theorem dX7_joined_40 : decode cX7_joined 40 = .ok (.iconst 0, 1) := by decide +kernel
theorem dX7_joined_41 : decode cX7_joined 41 = .ok (.istore 5, 2) := by decide +kernel
theorem dX7_joined_43 : decode cX7_joined 43 = .ok (.iload_n 1, 1) := by decide +kernel
theorem dX7_joined_44 : decode cX7_joined 44 = .ok (.iload_n 3, 1) := by decide +kernel
theorem dX7_joined_45 : decode cX7_joined 45 = .ok (.imul, 1) := by decide +kernel
theorem dX7_joined_46 : decode cX7_joined 46 = .ok (.istore 6, 2) := by decide +kernel
theorem dX7_joined_48 : decode cX7_joined 48 = .ok (.iload 6, 2) := by decide +kernel
theorem dX7_joined_50 : decode cX7_joined 50 = .ok (.iload 4, 2) := by decide +kernel
theorem dX7_joined_52 : decode cX7_joined 52 = .ok (.if_icmp .ge 27, 3) := by decide +kernel
theorem dX7_joined_55 : decode cX7_joined 55 = .ok (.iload 5, 2) := by decide +kernel
theorem dX7_joined_57 : decode cX7_joined 57 = .ok (.aload_n 0, 1) := by decide +kernel
theorem dX7_joined_58 : decode cX7_joined 58 = .ok (.getfield 10, 3) := by decide +kernel
theorem dX7_joined_61 : decode cX7_joined 61 = .ok (.getfield 129, 3) := by decide +kernel
theorem dX7_joined_64 : decode cX7_joined 64 = .ok (.iload 6, 2) := by decide +kernel
theorem dX7_joined_66 : decode cX7_joined 66 = .ok (.iload_n 2, 1) := by decide +kernel
theorem dX7_joined_67 : decode cX7_joined 67 = .ok (.invokevirtual 159, 3) := by decide +kernel
theorem dX7_joined_70 : decode cX7_joined 70 = .ok (.iadd, 1) := by decide +kernel
theorem dX7_joined_71 : decode cX7_joined 71 = .ok (.istore 5, 2) := by decide +kernel
theorem dX7_joined_73 : decode cX7_joined 73 = .ok (.iinc 6 1, 3) := by decide +kernel
theorem dX7_joined_76 : decode cX7_joined 76 = .ok (.goto (-28), 3) := by decide +kernel
theorem dX7_joined_79 : decode cX7_joined 79 = .ok (.iload 5, 2) := by decide +kernel
theorem dX7_joined_81 : decode cX7_joined 81 = .ok (.ireturn, 1) := by decide +kernel
set_option maxRecDepth 20000 in
theorem ggX7_ofLine_X7_within : GoodIn wsX7_ofLine wsX7_within := goodIn_r _ [6] (by decide +kernel) (by decide +kernel)
set_option maxRecDepth 20000 in
theorem gX7_ofLine_X7_within : GoodIn wsX7_ofLine (va_wsS RX7 50 yX7_within wsX7_within) := goodIn_app (goodIn_of _ (by decide +kernel)) ggX7_ofLine_X7_within
set_option maxRecDepth 20000 in
theorem ggX7_ofLine_X3_columnsNotDark : GoodIn wsX7_ofLine wsX3_columnsNotDark := goodIn_r _ [11, 12, 13, 14, 10, 15, 16, 38] (by decide +kernel) (by decide +kernel)
set_option maxRecDepth 20000 in
theorem gX7_ofLine_X3_columnsNotDark : GoodIn wsX7_ofLine (wsV RX7 167 RX3 yX3_columnsNotDark wsX3_columnsNotDark) := goodIn_app (goodIn_of _ (by decide +kernel)) ggX7_ofLine_X3_columnsNotDark
set_option maxRecDepth 20000 in
theorem ggX7_ofLine_X3_sumOfLine : GoodIn wsX7_ofLine wsX3_sumOfLine := goodIn_r _ [20, 12, 13, 14, 10, 15, 16, 38] (by decide +kernel) (by decide +kernel)
set_option maxRecDepth 20000 in
theorem gX7_ofLine_X3_sumOfLine : GoodIn wsX7_ofLine (wsV RX7 170 RX3 yX3_sumOfLine wsX3_sumOfLine) := goodIn_app (goodIn_of _ (by decide +kernel)) ggX7_ofLine_X3_sumOfLine
set_option maxRecDepth 20000 in
theorem ggX7_ofLine_X3_leftmostNotDark : GoodIn wsX7_ofLine wsX3_leftmostNotDark := goodIn_r _ [24, 12, 13, 14, 10, 15, 16, 38] (by decide +kernel) (by decide +kernel)
set_option maxRecDepth 20000 in
theorem gX7_ofLine_X3_leftmostNotDark : GoodIn wsX7_ofLine (wsV RX7 173 RX3 yX3_leftmostNotDark wsX3_leftmostNotDark) := goodIn_app (goodIn_of _ (by decide +kernel)) ggX7_ofLine_X3_leftmostNotDark
theorem dX7_ofLine_0 : decode cX7_ofLine 0 = .ok (.iload_n 1, 1) := by decide +kernel
theorem dX7_ofLine_1 : decode cX7_ofLine 1 = .ok (.iconst 0, 1) := by decide +kernel
theorem dX7_ofLine_2 : decode cX7_ofLine 2 = .ok (.bipush 15, 2) := by decide +kernel
theorem dX7_ofLine_4 : decode cX7_ofLine 4 = .ok (.invokestatic 50, 3) := by decide +kernel
theorem dX7_ofLine_7 : decode cX7_ofLine 7 = .ok (.ifCond .ne 5, 3) := by decide +kernel
theorem dX7_ofLine_10 : decode cX7_ofLine 10 = .ok (.iconst (-1), 1) := by decide +kernel
theorem dX7_ofLine_11 : decode cX7_ofLine 11 = .ok (.ireturn, 1) := by decide +kernel
theorem dX7_ofLine_12 : decode cX7_ofLine 12 = .ok (.iload_n 2, 1) := by decide +kernel
theorem dX7_ofLine_13 : decode cX7_ofLine 13 = .ok (.tableswitch 63 0 2 #[27, 39, 51], 27) := by decide +kernel
theorem dX7_ofLine_40 : decode cX7_ofLine 40 = .ok (.aload_n 0, 1) := by decide +kernel
theorem dX7_ofLine_41 : decode cX7_ofLine 41 = .ok (.getfield 10, 3) := by decide +kernel
theorem dX7_ofLine_44 : decode cX7_ofLine 44 = .ok (.getfield 129, 3) := by decide +kernel
theorem dX7_ofLine_47 : decode cX7_ofLine 47 = .ok (.iload_n 1, 1) := by decide +kernel
theorem dX7_ofLine_48 : decode cX7_ofLine 48 = .ok (.invokevirtual 167, 3) := by decide +kernel
theorem dX7_ofLine_51 : decode cX7_ofLine 51 = .ok (.ireturn, 1) := by decide +kernel
theorem dX7_ofLine_52 : decode cX7_ofLine 52 = .ok (.aload_n 0, 1) := by decide +kernel
theorem dX7_ofLine_53 : decode cX7_ofLine 53 = .ok (.getfield 10, 3) := by decide +kernel
theorem dX7_ofLine_56 : decode cX7_ofLine 56 = .ok (.getfield 129, 3) := by decide +kernel
theorem dX7_ofLine_59 : decode cX7_ofLine 59 = .ok (.iload_n 1, 1) := by decide +kernel
theorem dX7_ofLine_60 : decode cX7_ofLine 60 = .ok (.invokevirtual 170, 3) := by decide +kernel
theorem dX7_ofLine_63 : decode cX7_ofLine 63 = .ok (.ireturn, 1) := by decide +kernel
theorem dX7_ofLine_64 : decode cX7_ofLine 64 = .ok (.aload_n 0, 1) := by decide +kernel
theorem dX7_ofLine_65 : decode cX7_ofLine 65 = .ok (.getfield 10, 3) := by decide +kernel
theorem dX7_ofLine_68 : decode cX7_ofLine 68 = .ok (.getfield 129, 3) := by decide +kernel
theorem dX7_ofLine_71 : decode cX7_ofLine 71 = .ok (.iload_n 1, 1) := by decide +kernel
theorem dX7_ofLine_72 : decode cX7_ofLine 72 = .ok (.invokevirtual 173, 3) := by decide +kernel
theorem dX7_ofLine_75 : decode cX7_ofLine 75 = .ok (.ireturn, 1) := by decide +kernel
theorem dX7_ofLine_76 : decode cX7_ofLine 76 = .ok (.bipush (-2), 2) := by decide +kernel
theorem dX7_ofLine_78 : decode cX7_ofLine 78 = .ok (.ireturn, 1) := by decide +kernel
set_option maxRecDepth 20000 in
theorem ggX7_count_X3_darkLines : GoodIn wsX7_count wsX3_darkLines := goodIn_r _ [18, 19, 20, 21, 17, 22, 23, 24, 25, 26, 27, 68] (by decide +kernel) (by decide +kernel)
set_option maxRecDepth 20000 in
theorem gX7_count_X3_darkLines : GoodIn wsX7_count (wsV RX7 182 RX3 yX3_darkLines wsX3_darkLines) := goodIn_app (goodIn_of _ (by decide +kernel)) ggX7_count_X3_darkLines
set_option maxRecDepth 20000 in
theorem ggX7_count_X3_brightest : GoodIn wsX7_count wsX3_brightest := goodIn_r _ [31, 32, 33, 34, 35, 23, 24, 25, 17, 26, 27, 68] (by decide +kernel) (by decide +kernel)
set_option maxRecDepth 20000 in
theorem gX7_count_X3_brightest : GoodIn wsX7_count (wsV RX7 185 RX3 yX3_brightest wsX3_brightest) := goodIn_app (goodIn_of _ (by decide +kernel)) ggX7_count_X3_brightest
set_option maxRecDepth 20000 in
theorem ggX7_count_X3_bands : GoodIn wsX7_count wsX3_bands := goodIn_r _ [39, 19, 20, 21, 17, 22, 23, 24, 25, 26, 27, 68] (by decide +kernel) (by decide +kernel)
set_option maxRecDepth 20000 in
theorem gX7_count_X3_bands : GoodIn wsX7_count (wsV RX7 188 RX3 yX3_bands wsX3_bands) := goodIn_app (goodIn_of _ (by decide +kernel)) ggX7_count_X3_bands
theorem dX7_count_0 : decode cX7_count 0 = .ok (.iload_n 1, 1) := by decide +kernel
theorem dX7_count_1 : decode cX7_count 1 = .ok (.tableswitch 203 0 13 #[71, 79, 90, 98, 109, 120, 131, 139, 147, 157, 167, 177, 187, 195], 71) := by decide +kernel
theorem dX7_count_72 : decode cX7_count 72 = .ok (.aload_n 0, 1) := by decide +kernel
theorem dX7_count_73 : decode cX7_count 73 = .ok (.getfield 10, 3) := by decide +kernel
theorem dX7_count_76 : decode cX7_count 76 = .ok (.getfield 76, 3) := by decide +kernel
theorem dX7_count_79 : decode cX7_count 79 = .ok (.ireturn, 1) := by decide +kernel
theorem dX7_count_80 : decode cX7_count 80 = .ok (.aload_n 0, 1) := by decide +kernel
theorem dX7_count_81 : decode cX7_count 81 = .ok (.getfield 10, 3) := by decide +kernel
theorem dX7_count_84 : decode cX7_count 84 = .ok (.getfield 72, 3) := by decide +kernel
theorem dX7_count_87 : decode cX7_count 87 = .ok (.getfield 176, 3) := by decide +kernel
theorem dX7_count_90 : decode cX7_count 90 = .ok (.ireturn, 1) := by decide +kernel
theorem dX7_count_91 : decode cX7_count 91 = .ok (.aload_n 0, 1) := by decide +kernel
theorem dX7_count_92 : decode cX7_count 92 = .ok (.getfield 10, 3) := by decide +kernel
theorem dX7_count_95 : decode cX7_count 95 = .ok (.getfield 179, 3) := by decide +kernel
theorem dX7_count_98 : decode cX7_count 98 = .ok (.ireturn, 1) := by decide +kernel
theorem dX7_count_99 : decode cX7_count 99 = .ok (.aload_n 0, 1) := by decide +kernel
theorem dX7_count_100 : decode cX7_count 100 = .ok (.getfield 10, 3) := by decide +kernel
theorem dX7_count_103 : decode cX7_count 103 = .ok (.getfield 129, 3) := by decide +kernel
theorem dX7_count_106 : decode cX7_count 106 = .ok (.invokevirtual 182, 3) := by decide +kernel
theorem dX7_count_109 : decode cX7_count 109 = .ok (.ireturn, 1) := by decide +kernel
theorem dX7_count_110 : decode cX7_count 110 = .ok (.aload_n 0, 1) := by decide +kernel
theorem dX7_count_111 : decode cX7_count 111 = .ok (.getfield 10, 3) := by decide +kernel
theorem dX7_count_114 : decode cX7_count 114 = .ok (.getfield 129, 3) := by decide +kernel
theorem dX7_count_117 : decode cX7_count 117 = .ok (.invokevirtual 185, 3) := by decide +kernel
theorem dX7_count_120 : decode cX7_count 120 = .ok (.ireturn, 1) := by decide +kernel
theorem dX7_count_121 : decode cX7_count 121 = .ok (.aload_n 0, 1) := by decide +kernel
theorem dX7_count_122 : decode cX7_count 122 = .ok (.getfield 10, 3) := by decide +kernel
theorem dX7_count_125 : decode cX7_count 125 = .ok (.getfield 129, 3) := by decide +kernel
theorem dX7_count_128 : decode cX7_count 128 = .ok (.invokevirtual 188, 3) := by decide +kernel
theorem dX7_count_131 : decode cX7_count 131 = .ok (.ireturn, 1) := by decide +kernel
theorem dX7_count_132 : decode cX7_count 132 = .ok (.aload_n 0, 1) := by decide +kernel
theorem dX7_count_133 : decode cX7_count 133 = .ok (.getfield 10, 3) := by decide +kernel
theorem dX7_count_136 : decode cX7_count 136 = .ok (.getfield 115, 3) := by decide +kernel
theorem dX7_count_139 : decode cX7_count 139 = .ok (.ireturn, 1) := by decide +kernel
theorem dX7_count_140 : decode cX7_count 140 = .ok (.aload_n 0, 1) := by decide +kernel
theorem dX7_count_141 : decode cX7_count 141 = .ok (.getfield 10, 3) := by decide +kernel
theorem dX7_count_144 : decode cX7_count 144 = .ok (.getfield 191, 3) := by decide +kernel
theorem dX7_count_147 : decode cX7_count 147 = .ok (.ireturn, 1) := by decide +kernel
theorem dX7_count_148 : decode cX7_count 148 = .ok (.aload_n 0, 1) := by decide +kernel
theorem dX7_count_149 : decode cX7_count 149 = .ok (.getfield 10, 3) := by decide +kernel
theorem dX7_count_152 : decode cX7_count 152 = .ok (.getfield 65, 3) := by decide +kernel
theorem dX7_count_155 : decode cX7_count 155 = .ok (.iconst 0, 1) := by decide +kernel
theorem dX7_count_156 : decode cX7_count 156 = .ok (.iaload, 1) := by decide +kernel
theorem dX7_count_157 : decode cX7_count 157 = .ok (.ireturn, 1) := by decide +kernel
theorem dX7_count_158 : decode cX7_count 158 = .ok (.aload_n 0, 1) := by decide +kernel
theorem dX7_count_159 : decode cX7_count 159 = .ok (.getfield 10, 3) := by decide +kernel
theorem dX7_count_162 : decode cX7_count 162 = .ok (.getfield 65, 3) := by decide +kernel
theorem dX7_count_165 : decode cX7_count 165 = .ok (.iconst 1, 1) := by decide +kernel
theorem dX7_count_166 : decode cX7_count 166 = .ok (.iaload, 1) := by decide +kernel
theorem dX7_count_167 : decode cX7_count 167 = .ok (.ireturn, 1) := by decide +kernel
theorem dX7_count_168 : decode cX7_count 168 = .ok (.aload_n 0, 1) := by decide +kernel
theorem dX7_count_169 : decode cX7_count 169 = .ok (.getfield 10, 3) := by decide +kernel
theorem dX7_count_172 : decode cX7_count 172 = .ok (.getfield 65, 3) := by decide +kernel
theorem dX7_count_175 : decode cX7_count 175 = .ok (.iconst 2, 1) := by decide +kernel
theorem dX7_count_176 : decode cX7_count 176 = .ok (.iaload, 1) := by decide +kernel
theorem dX7_count_177 : decode cX7_count 177 = .ok (.ireturn, 1) := by decide +kernel
theorem dX7_count_178 : decode cX7_count 178 = .ok (.aload_n 0, 1) := by decide +kernel
theorem dX7_count_179 : decode cX7_count 179 = .ok (.getfield 10, 3) := by decide +kernel
theorem dX7_count_182 : decode cX7_count 182 = .ok (.getfield 65, 3) := by decide +kernel
theorem dX7_count_185 : decode cX7_count 185 = .ok (.iconst 3, 1) := by decide +kernel
theorem dX7_count_186 : decode cX7_count 186 = .ok (.iaload, 1) := by decide +kernel
theorem dX7_count_187 : decode cX7_count 187 = .ok (.ireturn, 1) := by decide +kernel
theorem dX7_count_188 : decode cX7_count 188 = .ok (.aload_n 0, 1) := by decide +kernel
theorem dX7_count_189 : decode cX7_count 189 = .ok (.getfield 37, 3) := by decide +kernel
theorem dX7_count_192 : decode cX7_count 192 = .ok (.getfield 194, 3) := by decide +kernel
theorem dX7_count_195 : decode cX7_count 195 = .ok (.ireturn, 1) := by decide +kernel
theorem dX7_count_196 : decode cX7_count 196 = .ok (.aload_n 0, 1) := by decide +kernel
theorem dX7_count_197 : decode cX7_count 197 = .ok (.getfield 26, 3) := by decide +kernel
theorem dX7_count_200 : decode cX7_count 200 = .ok (.getfield 197, 3) := by decide +kernel
theorem dX7_count_203 : decode cX7_count 203 = .ok (.ireturn, 1) := by decide +kernel
theorem dX7_count_204 : decode cX7_count 204 = .ok (.bipush (-2), 2) := by decide +kernel
theorem dX7_count_206 : decode cX7_count 206 = .ok (.ireturn, 1) := by decide +kernel
set_option maxRecDepth 20000 in
theorem ggX7_seen_X7_isPlace : GoodIn wsX7_seen wsX7_isPlace := goodIn_r _ [7, 8, 9, 6, 10] (by decide +kernel) (by decide +kernel)
set_option maxRecDepth 20000 in
theorem gX7_seen_X7_isPlace : GoodIn wsX7_seen (va_wsS RX7 156 yX7_isPlace wsX7_isPlace) := goodIn_app (goodIn_of _ (by decide +kernel)) ggX7_seen_X7_isPlace
set_option maxRecDepth 20000 in
theorem ggX7_seen_X7_within : GoodIn wsX7_seen wsX7_within := goodIn_r _ [10] (by decide +kernel) (by decide +kernel)
set_option maxRecDepth 20000 in
theorem gX7_seen_X7_within : GoodIn wsX7_seen (va_wsS RX7 50 yX7_within wsX7_within) := goodIn_app (goodIn_of _ (by decide +kernel)) ggX7_seen_X7_within
set_option maxRecDepth 20000 in
theorem ggX7_seen_X0_brightnessAt : GoodIn wsX7_seen wsX0_brightnessAt := goodIn_r _ [15, 16, 17, 18, 19, 14, 20, 21, 22, 23, 24, 25, 26, 27, 28, 29, 30, 31, 32, 33, 9, 6, 10, 34, 35, 36, 37, 38, 39, 40, 41, 42, 43, 44, 45, 46, 47, 48, 49, 50, 51, 52, 53, 54, 55, 56, 57, 58, 59, 60, 61, 62, 63, 64, 65, 66, 67, 68, 69, 70, 71, 72, 73, 74, 75, 76, 90, 91, 92, 83, 84, 85, 86, 87, 88, 89, 93, 94, 95, 96, 97, 98, 99, 100, 101, 102] (by decide +kernel) (by decide +kernel)
set_option maxRecDepth 20000 in
theorem gX7_seen_X0_brightnessAt : GoodIn wsX7_seen (wsV RX7 198 RX0 yX0_brightnessAt wsX0_brightnessAt) := goodIn_app (goodIn_of _ (by decide +kernel)) ggX7_seen_X0_brightnessAt
theorem dX7_seen_0 : decode cX7_seen 0 = .ok (.iload_n 1, 1) := by decide +kernel
theorem dX7_seen_1 : decode cX7_seen 1 = .ok (.iload_n 2, 1) := by decide +kernel
theorem dX7_seen_2 : decode cX7_seen 2 = .ok (.invokestatic 156, 3) := by decide +kernel
theorem dX7_seen_5 : decode cX7_seen 5 = .ok (.ifCond .ne 5, 3) := by decide +kernel
theorem dX7_seen_8 : decode cX7_seen 8 = .ok (.iconst (-1), 1) := by decide +kernel
theorem dX7_seen_9 : decode cX7_seen 9 = .ok (.ireturn, 1) := by decide +kernel
theorem dX7_seen_10 : decode cX7_seen 10 = .ok (.iload_n 3, 1) := by decide +kernel
theorem dX7_seen_11 : decode cX7_seen 11 = .ok (.iconst 0, 1) := by decide +kernel
theorem dX7_seen_12 : decode cX7_seen 12 = .ok (.bipush 99, 2) := by decide +kernel
theorem dX7_seen_14 : decode cX7_seen 14 = .ok (.invokestatic 50, 3) := by decide +kernel
theorem dX7_seen_17 : decode cX7_seen 17 = .ok (.ifCond .ne 6, 3) := by decide +kernel
theorem dX7_seen_20 : decode cX7_seen 20 = .ok (.bipush (-2), 2) := by decide +kernel
theorem dX7_seen_22 : decode cX7_seen 22 = .ok (.ireturn, 1) := by decide +kernel
theorem dX7_seen_23 : decode cX7_seen 23 = .ok (.aload_n 0, 1) := by decide +kernel
theorem dX7_seen_24 : decode cX7_seen 24 = .ok (.getfield 19, 3) := by decide +kernel
theorem dX7_seen_27 : decode cX7_seen 27 = .ok (.aload_n 0, 1) := by decide +kernel
theorem dX7_seen_28 : decode cX7_seen 28 = .ok (.getfield 10, 3) := by decide +kernel
theorem dX7_seen_31 : decode cX7_seen 31 = .ok (.iload_n 1, 1) := by decide +kernel
theorem dX7_seen_32 : decode cX7_seen 32 = .ok (.iload_n 2, 1) := by decide +kernel
theorem dX7_seen_33 : decode cX7_seen 33 = .ok (.aload_n 0, 1) := by decide +kernel
theorem dX7_seen_34 : decode cX7_seen 34 = .ok (.getfield 10, 3) := by decide +kernel
theorem dX7_seen_37 : decode cX7_seen 37 = .ok (.getfield 76, 3) := by decide +kernel
theorem dX7_seen_40 : decode cX7_seen 40 = .ok (.iload_n 3, 1) := by decide +kernel
theorem dX7_seen_41 : decode cX7_seen 41 = .ok (.iadd, 1) := by decide +kernel
theorem dX7_seen_42 : decode cX7_seen 42 = .ok (.invokevirtual 198, 3) := by decide +kernel
theorem dX7_seen_45 : decode cX7_seen 45 = .ok (.ireturn, 1) := by decide +kernel
set_option maxRecDepth 20000 in
theorem ggX7_leans_X7_isThing : GoodIn wsX7_leans wsX7_isThing := goodIn_r _ [9, 1, 2, 10, 11, 12, 8, 13, 36, 37, 38, 39, 40, 41, 42, 43, 44, 45, 46, 47, 48, 49, 50, 51, 52, 53, 54, 55, 56, 57, 58] (by decide +kernel) (by decide +kernel)
set_option maxRecDepth 20000 in
theorem gX7_leans_X7_isThing : GoodIn wsX7_leans (wsV RX7 86 RX7 yX7_isThing wsX7_isThing) := goodIn_app (goodIn_of _ (by decide +kernel)) ggX7_leans_X7_isThing
set_option maxRecDepth 20000 in
theorem ggX7_leans_X5_beginOf : GoodIn wsX7_leans wsX5_beginOf := goodIn_r _ [18, 19, 20, 42, 43, 44, 45, 46, 47, 48] (by decide +kernel) (by decide +kernel)
set_option maxRecDepth 20000 in
theorem gX7_leans_X5_beginOf : GoodIn wsX7_leans (wsV RX7 202 RX5 yX5_beginOf wsX5_beginOf) := goodIn_app (goodIn_of _ (by decide +kernel)) ggX7_leans_X5_beginOf
set_option maxRecDepth 20000 in
theorem ggX7_leans_X6_leftAt : GoodIn wsX7_leans wsX6_leftAt := goodIn_r _ [25, 26, 27, 28, 29, 30, 31, 32, 33, 34, 35, 49, 50, 51, 52, 53, 54, 55, 56, 57, 58] (by decide +kernel) (by decide +kernel)
set_option maxRecDepth 20000 in
theorem gX7_leans_X6_leftAt : GoodIn wsX7_leans (wsV RX7 141 RX6 yX6_leftAt wsX6_leftAt) := goodIn_app (goodIn_of _ (by decide +kernel)) ggX7_leans_X6_leftAt
theorem dX7_leans_0 : decode cX7_leans 0 = .ok (.aload_n 0, 1) := by decide +kernel
theorem dX7_leans_1 : decode cX7_leans 1 = .ok (.iload_n 1, 1) := by decide +kernel
theorem dX7_leans_2 : decode cX7_leans 2 = .ok (.invokevirtual 86, 3) := by decide +kernel
theorem dX7_leans_5 : decode cX7_leans 5 = .ok (.ifCond .ne 5, 3) := by decide +kernel
theorem dX7_leans_8 : decode cX7_leans 8 = .ok (.iconst (-1), 1) := by decide +kernel
theorem dX7_leans_9 : decode cX7_leans 9 = .ok (.ireturn, 1) := by decide +kernel
theorem dX7_leans_10 : decode cX7_leans 10 = .ok (.aload_n 0, 1) := by decide +kernel
theorem dX7_leans_11 : decode cX7_leans 11 = .ok (.getfield 10, 3) := by decide +kernel
theorem dX7_leans_14 : decode cX7_leans 14 = .ok (.getfield 72, 3) := by decide +kernel
theorem dX7_leans_17 : decode cX7_leans 17 = .ok (.astore_n 2, 1) := by decide +kernel
theorem dX7_leans_18 : decode cX7_leans 18 = .ok (.aload_n 2, 1) := by decide +kernel
theorem dX7_leans_19 : decode cX7_leans 19 = .ok (.getfield 138, 3) := by decide +kernel
theorem dX7_leans_22 : decode cX7_leans 22 = .ok (.iload_n 1, 1) := by decide +kernel
theorem dX7_leans_23 : decode cX7_leans 23 = .ok (.iaload, 1) := by decide +kernel
theorem dX7_leans_24 : decode cX7_leans 24 = .ok (.istore_n 3, 1) := by decide +kernel
theorem dX7_leans_25 : decode cX7_leans 25 = .ok (.iload_n 3, 1) := by decide +kernel
theorem dX7_leans_26 : decode cX7_leans 26 = .ok (.aload_n 2, 1) := by decide +kernel
theorem dX7_leans_27 : decode cX7_leans 27 = .ok (.getfield 144, 3) := by decide +kernel
theorem dX7_leans_30 : decode cX7_leans 30 = .ok (.iload_n 1, 1) := by decide +kernel
theorem dX7_leans_31 : decode cX7_leans 31 = .ok (.iaload, 1) := by decide +kernel
theorem dX7_leans_32 : decode cX7_leans 32 = .ok (.iadd, 1) := by decide +kernel
theorem dX7_leans_33 : decode cX7_leans 33 = .ok (.iconst 1, 1) := by decide +kernel
theorem dX7_leans_34 : decode cX7_leans 34 = .ok (.isub, 1) := by decide +kernel
theorem dX7_leans_35 : decode cX7_leans 35 = .ok (.istore 4, 2) := by decide +kernel
theorem dX7_leans_37 : decode cX7_leans 37 = .ok (.aload_n 2, 1) := by decide +kernel
theorem dX7_leans_38 : decode cX7_leans 38 = .ok (.iload_n 1, 1) := by decide +kernel
theorem dX7_leans_39 : decode cX7_leans 39 = .ok (.aload_n 0, 1) := by decide +kernel
theorem dX7_leans_40 : decode cX7_leans 40 = .ok (.getfield 10, 3) := by decide +kernel
theorem dX7_leans_43 : decode cX7_leans 43 = .ok (.iload_n 3, 1) := by decide +kernel
theorem dX7_leans_44 : decode cX7_leans 44 = .ok (.invokevirtual 202, 3) := by decide +kernel
theorem dX7_leans_47 : decode cX7_leans 47 = .ok (.invokevirtual 141, 3) := by decide +kernel
theorem dX7_leans_50 : decode cX7_leans 50 = .ok (.istore 5, 2) := by decide +kernel
theorem dX7_leans_52 : decode cX7_leans 52 = .ok (.aload_n 2, 1) := by decide +kernel
theorem dX7_leans_53 : decode cX7_leans 53 = .ok (.iload_n 1, 1) := by decide +kernel
theorem dX7_leans_54 : decode cX7_leans 54 = .ok (.aload_n 0, 1) := by decide +kernel
theorem dX7_leans_55 : decode cX7_leans 55 = .ok (.getfield 10, 3) := by decide +kernel
theorem dX7_leans_58 : decode cX7_leans 58 = .ok (.iload 4, 2) := by decide +kernel
theorem dX7_leans_60 : decode cX7_leans 60 = .ok (.invokevirtual 202, 3) := by decide +kernel
theorem dX7_leans_63 : decode cX7_leans 63 = .ok (.invokevirtual 141, 3) := by decide +kernel
theorem dX7_leans_66 : decode cX7_leans 66 = .ok (.iload 5, 2) := by decide +kernel
theorem dX7_leans_68 : decode cX7_leans 68 = .ok (.isub, 1) := by decide +kernel
theorem dX7_leans_69 : decode cX7_leans 69 = .ok (.sipush 1000, 3) := by decide +kernel
theorem dX7_leans_72 : decode cX7_leans 72 = .ok (.iadd, 1) := by decide +kernel
theorem dX7_leans_73 : decode cX7_leans 73 = .ok (.ireturn, 1) := by decide +kernel
set_option maxRecDepth 20000 in
theorem ggX7_bent_X0_pixelsBent : GoodIn wsX7_bent wsX0_pixelsBent := goodIn_r _ [7, 8, 9, 10, 11, 12, 13, 14, 15, 16, 17, 18, 19, 20, 21, 6, 22, 23, 24, 25, 26, 27, 28, 29, 30, 31, 32, 33, 34, 35, 36, 37, 38, 39, 40, 41, 42, 43, 44, 45, 46, 47, 48, 49, 50, 51, 52, 53, 54, 55, 56, 57, 58, 59, 60, 61, 62, 63, 64, 65, 66, 67, 68, 69, 70, 71, 72, 73, 74, 75, 76, 77, 78, 79, 86, 87, 88, 89, 90, 91, 92, 93, 94, 95, 96, 97, 98, 99, 100, 101, 102, 103, 104, 105] (by decide +kernel) (by decide +kernel)
set_option maxRecDepth 20000 in
theorem gX7_bent_X0_pixelsBent : GoodIn wsX7_bent (wsV RX7 205 RX0 yX0_pixelsBent wsX0_pixelsBent) := goodIn_app (goodIn_of _ (by decide +kernel)) ggX7_bent_X0_pixelsBent
theorem dX7_bent_0 : decode cX7_bent 0 = .ok (.aload_n 0, 1) := by decide +kernel
theorem dX7_bent_1 : decode cX7_bent 1 = .ok (.getfield 19, 3) := by decide +kernel
theorem dX7_bent_4 : decode cX7_bent 4 = .ok (.aload_n 0, 1) := by decide +kernel
theorem dX7_bent_5 : decode cX7_bent 5 = .ok (.getfield 10, 3) := by decide +kernel
theorem dX7_bent_8 : decode cX7_bent 8 = .ok (.invokevirtual 205, 3) := by decide +kernel
theorem dX7_bent_11 : decode cX7_bent 11 = .ok (.ireturn, 1) := by decide +kernel
set_option maxRecDepth 20000 in
theorem ggX7_flashed_X5_linesFlashed : GoodIn wsX7_flashed wsX5_linesFlashed := goodIn_r _ [8, 9, 10, 11, 12, 7, 13, 14, 21, 22, 23, 24, 25, 26, 27] (by decide +kernel) (by decide +kernel)
set_option maxRecDepth 20000 in
theorem gX7_flashed_X5_linesFlashed : GoodIn wsX7_flashed (wsV RX7 209 RX5 yX5_linesFlashed wsX5_linesFlashed) := goodIn_app (goodIn_of _ (by decide +kernel)) ggX7_flashed_X5_linesFlashed
theorem dX7_flashed_0 : decode cX7_flashed 0 = .ok (.aload_n 0, 1) := by decide +kernel
theorem dX7_flashed_1 : decode cX7_flashed 1 = .ok (.getfield 10, 3) := by decide +kernel
theorem dX7_flashed_4 : decode cX7_flashed 4 = .ok (.aload_n 0, 1) := by decide +kernel
theorem dX7_flashed_5 : decode cX7_flashed 5 = .ok (.getfield 10, 3) := by decide +kernel
theorem dX7_flashed_8 : decode cX7_flashed 8 = .ok (.getfield 115, 3) := by decide +kernel
theorem dX7_flashed_11 : decode cX7_flashed 11 = .ok (.aload_n 0, 1) := by decide +kernel
theorem dX7_flashed_12 : decode cX7_flashed 12 = .ok (.getfield 10, 3) := by decide +kernel
theorem dX7_flashed_15 : decode cX7_flashed 15 = .ok (.getfield 191, 3) := by decide +kernel
theorem dX7_flashed_18 : decode cX7_flashed 18 = .ok (.invokevirtual 209, 3) := by decide +kernel
theorem dX7_flashed_21 : decode cX7_flashed 21 = .ok (.ireturn, 1) := by decide +kernel
set_option maxRecDepth 20000 in
theorem ggX7_bestFlash_X7_within : GoodIn wsX7_bestFlash wsX7_within := goodIn_r _ [6] (by decide +kernel) (by decide +kernel)
set_option maxRecDepth 20000 in
theorem gX7_bestFlash_X7_within : GoodIn wsX7_bestFlash (va_wsS RX7 50 yX7_within wsX7_within) := goodIn_app (goodIn_of _ (by decide +kernel)) ggX7_bestFlash_X7_within
set_option maxRecDepth 20000 in
theorem ggX7_bestFlash_X5_linesFlashed : GoodIn wsX7_bestFlash wsX5_linesFlashed := goodIn_r _ [11, 12, 13, 14, 15, 10, 16, 17, 31, 32, 33, 34, 35, 36, 37] (by decide +kernel) (by decide +kernel)
set_option maxRecDepth 20000 in
theorem gX7_bestFlash_X5_linesFlashed : GoodIn wsX7_bestFlash (wsV RX7 209 RX5 yX5_linesFlashed wsX5_linesFlashed) := goodIn_app (goodIn_of _ (by decide +kernel)) ggX7_bestFlash_X5_linesFlashed
set_option maxRecDepth 20000 in
theorem ggX7_bestFlash_J6_bitCount_0f7a4 : GoodIn wsX7_bestFlash wsJ6_bitCount_0f7a4 := goodIn_r _ [21, 22, 23, 24] (by decide +kernel) (by decide +kernel)
set_option maxRecDepth 20000 in
theorem gX7_bestFlash_J6_bitCount_0f7a4 : GoodIn wsX7_bestFlash (va_wsS RX7 212 yJ6_bitCount_0f7a4 wsJ6_bitCount_0f7a4) := goodIn_app (goodIn_of _ (by decide +kernel)) ggX7_bestFlash_J6_bitCount_0f7a4
theorem dX7_bestFlash_0 : decode cX7_bestFlash 0 = .ok (.iload_n 1, 1) := by decide +kernel
theorem dX7_bestFlash_1 : decode cX7_bestFlash 1 = .ok (.iconst 1, 1) := by decide +kernel
theorem dX7_bestFlash_2 : decode cX7_bestFlash 2 = .ok (.bipush 20, 2) := by decide +kernel
theorem dX7_bestFlash_4 : decode cX7_bestFlash 4 = .ok (.invokestatic 50, 3) := by decide +kernel
theorem dX7_bestFlash_7 : decode cX7_bestFlash 7 = .ok (.ifCond .eq 12, 3) := by decide +kernel
theorem dX7_bestFlash_10 : decode cX7_bestFlash 10 = .ok (.iload_n 2, 1) := by decide +kernel
theorem dX7_bestFlash_11 : decode cX7_bestFlash 11 = .ok (.iconst 0, 1) := by decide +kernel
theorem dX7_bestFlash_12 : decode cX7_bestFlash 12 = .ok (.iconst 1, 1) := by decide +kernel
theorem dX7_bestFlash_13 : decode cX7_bestFlash 13 = .ok (.invokestatic 50, 3) := by decide +kernel
theorem dX7_bestFlash_16 : decode cX7_bestFlash 16 = .ok (.ifCond .ne 6, 3) := by decide +kernel
theorem dX7_bestFlash_19 : decode cX7_bestFlash 19 = .ok (.bipush (-2), 2) := by decide +kernel
theorem dX7_bestFlash_21 : decode cX7_bestFlash 21 = .ok (.ireturn, 1) := by decide +kernel
theorem dX7_bestFlash_22 : decode cX7_bestFlash 22 = .ok (.iconst 0, 1) := by decide +kernel
theorem dX7_bestFlash_23 : decode cX7_bestFlash 23 = .ok (.istore_n 3, 1) := by decide +kernel
theorem dX7_bestFlash_24 : decode cX7_bestFlash 24 = .ok (.iconst 0, 1) := by decide +kernel
theorem dX7_bestFlash_25 : decode cX7_bestFlash 25 = .ok (.istore 4, 2) := by decide +kernel
theorem dX7_bestFlash_27 : decode cX7_bestFlash 27 = .ok (.iconst 0, 1) := by decide +kernel
theorem dX7_bestFlash_28 : decode cX7_bestFlash 28 = .ok (.istore 5, 2) := by decide +kernel
theorem dX7_bestFlash_30 : decode cX7_bestFlash 30 = .ok (.iload 5, 2) := by decide +kernel
theorem dX7_bestFlash_32 : decode cX7_bestFlash 32 = .ok (.bipush 99, 2) := by decide +kernel
theorem dX7_bestFlash_34 : decode cX7_bestFlash 34 = .ok (.if_icmp .gt 46, 3) := by decide +kernel
theorem dX7_bestFlash_37 : decode cX7_bestFlash 37 = .ok (.aload_n 0, 1) := by decide +kernel
theorem dX7_bestFlash_38 : decode cX7_bestFlash 38 = .ok (.getfield 10, 3) := by decide +kernel
theorem dX7_bestFlash_41 : decode cX7_bestFlash 41 = .ok (.aload_n 0, 1) := by decide +kernel
theorem dX7_bestFlash_42 : decode cX7_bestFlash 42 = .ok (.getfield 10, 3) := by decide +kernel
theorem dX7_bestFlash_45 : decode cX7_bestFlash 45 = .ok (.getfield 76, 3) := by decide +kernel
theorem dX7_bestFlash_48 : decode cX7_bestFlash 48 = .ok (.iload 5, 2) := by decide +kernel
theorem dX7_bestFlash_50 : decode cX7_bestFlash 50 = .ok (.iadd, 1) := by decide +kernel
theorem dX7_bestFlash_51 : decode cX7_bestFlash 51 = .ok (.iload_n 1, 1) := by decide +kernel
theorem dX7_bestFlash_52 : decode cX7_bestFlash 52 = .ok (.invokevirtual 209, 3) := by decide +kernel
theorem dX7_bestFlash_55 : decode cX7_bestFlash 55 = .ok (.invokestatic 212, 3) := by decide +kernel
theorem dX7_bestFlash_58 : decode cX7_bestFlash 58 = .ok (.istore 6, 2) := by decide +kernel
theorem dX7_bestFlash_60 : decode cX7_bestFlash 60 = .ok (.iload 6, 2) := by decide +kernel
theorem dX7_bestFlash_62 : decode cX7_bestFlash 62 = .ok (.iload 4, 2) := by decide +kernel
theorem dX7_bestFlash_64 : decode cX7_bestFlash 64 = .ok (.if_icmp .le 10, 3) := by decide +kernel
theorem dX7_bestFlash_67 : decode cX7_bestFlash 67 = .ok (.iload 6, 2) := by decide +kernel
theorem dX7_bestFlash_69 : decode cX7_bestFlash 69 = .ok (.istore 4, 2) := by decide +kernel
theorem dX7_bestFlash_71 : decode cX7_bestFlash 71 = .ok (.iload 5, 2) := by decide +kernel
theorem dX7_bestFlash_73 : decode cX7_bestFlash 73 = .ok (.istore_n 3, 1) := by decide +kernel
theorem dX7_bestFlash_74 : decode cX7_bestFlash 74 = .ok (.iinc 5 1, 3) := by decide +kernel
theorem dX7_bestFlash_77 : decode cX7_bestFlash 77 = .ok (.goto (-47), 3) := by decide +kernel
theorem dX7_bestFlash_80 : decode cX7_bestFlash 80 = .ok (.iload_n 2, 1) := by decide +kernel
theorem dX7_bestFlash_81 : decode cX7_bestFlash 81 = .ok (.ifCond .ne 7, 3) := by decide +kernel
theorem dX7_bestFlash_84 : decode cX7_bestFlash 84 = .ok (.iload_n 3, 1) := by decide +kernel
theorem dX7_bestFlash_85 : decode cX7_bestFlash 85 = .ok (.goto 5, 3) := by decide +kernel
theorem dX7_bestFlash_88 : decode cX7_bestFlash 88 = .ok (.iload 4, 2) := by decide +kernel
theorem dX7_bestFlash_90 : decode cX7_bestFlash 90 = .ok (.ireturn, 1) := by decide +kernel
set_option maxRecDepth 20000 in
theorem ggX7_undo_X1_takeBack : GoodIn wsX7_undo wsX1_takeBack := goodIn_r _ [8, 9, 10, 11, 12, 13, 14, 15, 16, 17, 18, 19, 20, 21, 22, 23, 24, 25, 26, 27, 28, 29, 30, 31, 32, 33, 34, 35, 36, 37, 38, 39, 40, 41, 42, 43, 44, 45, 46, 47, 48, 49, 50, 57, 58, 59, 60, 61, 62, 63, 64, 65, 66, 67, 68, 69, 70, 71, 72, 73, 74, 75, 76, 77] (by decide +kernel) (by decide +kernel)
set_option maxRecDepth 20000 in
theorem gX7_undo_X1_takeBack : GoodIn wsX7_undo (wsV RX7 242 RX1 yX1_takeBack wsX1_takeBack) := goodIn_app (goodIn_of _ (by decide +kernel)) ggX7_undo_X1_takeBack
theorem dX7_undo_0 : decode cX7_undo 0 = .ok (.aload_n 0, 1) := by decide +kernel
theorem dX7_undo_1 : decode cX7_undo 1 = .ok (.getfield 26, 3) := by decide +kernel
theorem dX7_undo_4 : decode cX7_undo 4 = .ok (.aload_n 0, 1) := by decide +kernel
theorem dX7_undo_5 : decode cX7_undo 5 = .ok (.getfield 10, 3) := by decide +kernel
theorem dX7_undo_8 : decode cX7_undo 8 = .ok (.invokevirtual 242, 3) := by decide +kernel
theorem dX7_undo_11 : decode cX7_undo 11 = .ok (.ifCond .ne 6, 3) := by decide +kernel
theorem dX7_undo_14 : decode cX7_undo 14 = .ok (.bipush (-5), 2) := by decide +kernel
theorem dX7_undo_16 : decode cX7_undo 16 = .ok (.ireturn, 1) := by decide +kernel
theorem dX7_undo_17 : decode cX7_undo 17 = .ok (.aload_n 0, 1) := by decide +kernel
theorem dX7_undo_18 : decode cX7_undo 18 = .ok (.getfield 26, 3) := by decide +kernel
theorem dX7_undo_21 : decode cX7_undo 21 = .ok (.getfield 197, 3) := by decide +kernel
theorem dX7_undo_24 : decode cX7_undo 24 = .ok (.ireturn, 1) := by decide +kernel
set_option maxRecDepth 20000 in
theorem ggX7_save_X7_within : GoodIn wsX7_save wsX7_within := goodIn_r _ [11] (by decide +kernel) (by decide +kernel)
set_option maxRecDepth 20000 in
theorem gX7_save_X7_within : GoodIn wsX7_save (va_wsS RX7 50 yX7_within wsX7_within) := goodIn_app (goodIn_of _ (by decide +kernel)) ggX7_save_X7_within
set_option maxRecDepth 20000 in
theorem ggX7_save_X5_init : GoodIn wsX7_save wsX5_init := goodIn_r _ [13, 14, 15, 16, 17, 18, 19, 20, 21, 22, 23, 24, 25, 26, 27, 28, 29, 30, 31, 32, 33, 34, 35, 36, 37, 38, 39, 40, 41, 42, 43, 44, 45, 46, 47, 48, 49, 50, 51, 52, 78, 79, 80, 81, 82, 83, 84, 85, 86, 87, 88, 89, 90, 91, 92, 93, 94, 95] (by decide +kernel) (by decide +kernel)
set_option maxRecDepth 20000 in
theorem gX7_save_X5_init_n9 : GoodIn wsX7_save (wsX5_init) := ggX7_save_X5_init
set_option maxRecDepth 20000 in
theorem ggX7_save_X5_copyFrom : GoodIn wsX7_save wsX5_copyFrom := goodIn_r _ [56, 23, 57, 58, 59, 60, 27, 31, 32, 33, 34, 35, 61, 62, 63, 26, 64, 65, 40, 66, 41, 42, 43, 44, 45, 46, 47, 48, 67, 68, 69, 30, 70, 52, 71, 78, 79, 80, 81, 82, 83, 84, 85, 86, 87, 88, 89, 90, 91, 92, 93, 94, 95] (by decide +kernel) (by decide +kernel)
set_option maxRecDepth 20000 in
theorem gX7_save_X5_copyFrom : GoodIn wsX7_save (wsV RX7 246 RX5 yX5_copyFrom wsX5_copyFrom) := goodIn_app (goodIn_of _ (by decide +kernel)) ggX7_save_X5_copyFrom
theorem dX7_save_0 : decode cX7_save 0 = .ok (.iload_n 1, 1) := by decide +kernel
theorem dX7_save_1 : decode cX7_save 1 = .ok (.iconst 0, 1) := by decide +kernel
theorem dX7_save_2 : decode cX7_save 2 = .ok (.iconst 1, 1) := by decide +kernel
theorem dX7_save_3 : decode cX7_save 3 = .ok (.invokestatic 50, 3) := by decide +kernel
theorem dX7_save_6 : decode cX7_save 6 = .ok (.ifCond .ne 6, 3) := by decide +kernel
theorem dX7_save_9 : decode cX7_save 9 = .ok (.bipush (-2), 2) := by decide +kernel
theorem dX7_save_11 : decode cX7_save 11 = .ok (.ireturn, 1) := by decide +kernel
theorem dX7_save_12 : decode cX7_save 12 = .ok (.aload_n 0, 1) := by decide +kernel
theorem dX7_save_13 : decode cX7_save 13 = .ok (.getfield 30, 3) := by decide +kernel
theorem dX7_save_16 : decode cX7_save 16 = .ok (.iload_n 1, 1) := by decide +kernel
theorem dX7_save_17 : decode cX7_save 17 = .ok (.aaload, 1) := by decide +kernel
theorem dX7_save_18 : decode cX7_save 18 = .ok (.astore_n 2, 1) := by decide +kernel
theorem dX7_save_19 : decode cX7_save 19 = .ok (.aload_n 2, 1) := by decide +kernel
theorem dX7_save_20 : decode cX7_save 20 = .ok (.ifnonnull 18, 3) := by decide +kernel
theorem dX7_save_23 : decode cX7_save 23 = .ok (.new 7, 3) := by decide +kernel
theorem dX7_save_26 : decode cX7_save 26 = .ok (.dup, 1) := by decide +kernel
theorem dX7_save_27 : decode cX7_save 27 = .ok (.invokespecial 9, 3) := by decide +kernel
theorem dX7_save_30 : decode cX7_save 30 = .ok (.astore_n 2, 1) := by decide +kernel
theorem dX7_save_31 : decode cX7_save 31 = .ok (.aload_n 0, 1) := by decide +kernel
theorem dX7_save_32 : decode cX7_save 32 = .ok (.getfield 30, 3) := by decide +kernel
theorem dX7_save_35 : decode cX7_save 35 = .ok (.iload_n 1, 1) := by decide +kernel
theorem dX7_save_36 : decode cX7_save 36 = .ok (.aload_n 2, 1) := by decide +kernel
theorem dX7_save_37 : decode cX7_save 37 = .ok (.aastore, 1) := by decide +kernel
theorem dX7_save_38 : decode cX7_save 38 = .ok (.aload_n 2, 1) := by decide +kernel
theorem dX7_save_39 : decode cX7_save 39 = .ok (.aload_n 0, 1) := by decide +kernel
theorem dX7_save_40 : decode cX7_save 40 = .ok (.getfield 10, 3) := by decide +kernel
theorem dX7_save_43 : decode cX7_save 43 = .ok (.invokevirtual 246, 3) := by decide +kernel
theorem dX7_save_46 : decode cX7_save 46 = .ok (.aload_n 0, 1) := by decide +kernel
theorem dX7_save_47 : decode cX7_save 47 = .ok (.getfield 10, 3) := by decide +kernel
theorem dX7_save_50 : decode cX7_save 50 = .ok (.getfield 72, 3) := by decide +kernel
theorem dX7_save_53 : decode cX7_save 53 = .ok (.getfield 176, 3) := by decide +kernel
theorem dX7_save_56 : decode cX7_save 56 = .ok (.ireturn, 1) := by decide +kernel
set_option maxRecDepth 20000 in
theorem ggX7_restore_X7_within : GoodIn wsX7_restore wsX7_within := goodIn_r _ [9] (by decide +kernel) (by decide +kernel)
set_option maxRecDepth 20000 in
theorem gX7_restore_X7_within : GoodIn wsX7_restore (va_wsS RX7 50 yX7_within wsX7_within) := goodIn_app (goodIn_of _ (by decide +kernel)) ggX7_restore_X7_within
set_option maxRecDepth 20000 in
theorem ggX7_restore_X1_record : GoodIn wsX7_restore wsX1_record := goodIn_r _ [14, 15, 16, 17, 18, 19, 20, 21, 22, 23, 24, 25, 26, 27, 28, 29, 30, 31, 32, 33, 34, 35, 36, 37, 38, 39, 40, 41, 42, 43, 44, 45, 46, 47, 48, 49, 50, 51, 52, 53, 54, 55, 56, 57, 58, 59, 60, 61, 62, 63, 64, 65, 66, 67, 68, 69, 70, 71, 72, 73, 74, 75, 76, 77, 78, 79, 80, 81, 82, 83, 84, 109, 110, 111, 92, 93, 94, 95, 96, 97, 98, 99, 100, 101, 102, 103, 104, 105, 106, 107, 108, 112] (by decide +kernel) (by decide +kernel)
set_option maxRecDepth 20000 in
theorem gX7_restore_X1_record : GoodIn wsX7_restore (wsV RX7 61 RX1 yX1_record wsX1_record) := goodIn_app (goodIn_of _ (by decide +kernel)) ggX7_restore_X1_record
set_option maxRecDepth 20000 in
theorem ggX7_restore_X5_copyFrom : GoodIn wsX7_restore wsX5_copyFrom := goodIn_r _ [69, 36, 70, 71, 72, 73, 40, 44, 45, 46, 47, 48, 74, 75, 76, 39, 77, 78, 53, 79, 54, 55, 56, 57, 58, 59, 60, 61, 80, 81, 82, 43, 83, 65, 84, 92, 93, 94, 95, 96, 97, 98, 99, 100, 101, 102, 103, 104, 105, 106, 107, 108, 112] (by decide +kernel) (by decide +kernel)
set_option maxRecDepth 20000 in
theorem gX7_restore_X5_copyFrom : GoodIn wsX7_restore (wsV RX7 246 RX5 yX5_copyFrom wsX5_copyFrom) := goodIn_app (goodIn_of _ (by decide +kernel)) ggX7_restore_X5_copyFrom
theorem dX7_restore_0 : decode cX7_restore 0 = .ok (.iload_n 1, 1) := by decide +kernel
theorem dX7_restore_1 : decode cX7_restore 1 = .ok (.iconst 0, 1) := by decide +kernel
theorem dX7_restore_2 : decode cX7_restore 2 = .ok (.iconst 1, 1) := by decide +kernel
theorem dX7_restore_3 : decode cX7_restore 3 = .ok (.invokestatic 50, 3) := by decide +kernel
theorem dX7_restore_6 : decode cX7_restore 6 = .ok (.ifCond .ne 6, 3) := by decide +kernel
theorem dX7_restore_9 : decode cX7_restore 9 = .ok (.bipush (-2), 2) := by decide +kernel
theorem dX7_restore_11 : decode cX7_restore 11 = .ok (.ireturn, 1) := by decide +kernel
theorem dX7_restore_12 : decode cX7_restore 12 = .ok (.aload_n 0, 1) := by decide +kernel
theorem dX7_restore_13 : decode cX7_restore 13 = .ok (.getfield 30, 3) := by decide +kernel
theorem dX7_restore_16 : decode cX7_restore 16 = .ok (.iload_n 1, 1) := by decide +kernel
theorem dX7_restore_17 : decode cX7_restore 17 = .ok (.aaload, 1) := by decide +kernel
theorem dX7_restore_18 : decode cX7_restore 18 = .ok (.astore_n 2, 1) := by decide +kernel
theorem dX7_restore_19 : decode cX7_restore 19 = .ok (.aload_n 2, 1) := by decide +kernel
theorem dX7_restore_20 : decode cX7_restore 20 = .ok (.ifnonnull 6, 3) := by decide +kernel
theorem dX7_restore_23 : decode cX7_restore 23 = .ok (.bipush (-5), 2) := by decide +kernel
theorem dX7_restore_25 : decode cX7_restore 25 = .ok (.ireturn, 1) := by decide +kernel
theorem dX7_restore_26 : decode cX7_restore 26 = .ok (.aload_n 0, 1) := by decide +kernel
theorem dX7_restore_27 : decode cX7_restore 27 = .ok (.getfield 26, 3) := by decide +kernel
theorem dX7_restore_30 : decode cX7_restore 30 = .ok (.aload_n 0, 1) := by decide +kernel
theorem dX7_restore_31 : decode cX7_restore 31 = .ok (.getfield 10, 3) := by decide +kernel
theorem dX7_restore_34 : decode cX7_restore 34 = .ok (.invokevirtual 61, 3) := by decide +kernel
theorem dX7_restore_37 : decode cX7_restore 37 = .ok (.aload_n 0, 1) := by decide +kernel
theorem dX7_restore_38 : decode cX7_restore 38 = .ok (.getfield 10, 3) := by decide +kernel
theorem dX7_restore_41 : decode cX7_restore 41 = .ok (.aload_n 2, 1) := by decide +kernel
theorem dX7_restore_42 : decode cX7_restore 42 = .ok (.invokevirtual 246, 3) := by decide +kernel
theorem dX7_restore_45 : decode cX7_restore 45 = .ok (.aload_n 0, 1) := by decide +kernel
theorem dX7_restore_46 : decode cX7_restore 46 = .ok (.getfield 10, 3) := by decide +kernel
theorem dX7_restore_49 : decode cX7_restore 49 = .ok (.getfield 72, 3) := by decide +kernel
theorem dX7_restore_52 : decode cX7_restore 52 = .ok (.getfield 176, 3) := by decide +kernel
theorem dX7_restore_55 : decode cX7_restore 55 = .ok (.ireturn, 1) := by decide +kernel
theorem dX7_within_0 : decode cX7_within 0 = .ok (.iload_n 0, 1) := by decide +kernel
theorem dX7_within_1 : decode cX7_within 1 = .ok (.iload_n 1, 1) := by decide +kernel
theorem dX7_within_2 : decode cX7_within 2 = .ok (.if_icmp .lt 12, 3) := by decide +kernel
theorem dX7_within_5 : decode cX7_within 5 = .ok (.iload_n 0, 1) := by decide +kernel
theorem dX7_within_6 : decode cX7_within 6 = .ok (.iload_n 2, 1) := by decide +kernel
theorem dX7_within_7 : decode cX7_within 7 = .ok (.if_icmp .gt 7, 3) := by decide +kernel
theorem dX7_within_10 : decode cX7_within 10 = .ok (.iconst 1, 1) := by decide +kernel
theorem dX7_within_11 : decode cX7_within 11 = .ok (.goto 4, 3) := by decide +kernel
theorem dX7_within_14 : decode cX7_within 14 = .ok (.iconst 0, 1) := by decide +kernel
theorem dX7_within_15 : decode cX7_within 15 = .ok (.ireturn, 1) := by decide +kernel
set_option maxRecDepth 20000 in
theorem ggX7_isPlace_X7_within : GoodIn wsX7_isPlace wsX7_within := goodIn_r _ [4] (by decide +kernel) (by decide +kernel)
set_option maxRecDepth 20000 in
theorem gX7_isPlace_X7_within : GoodIn wsX7_isPlace (va_wsS RX7 50 yX7_within wsX7_within) := goodIn_app (goodIn_of _ (by decide +kernel)) ggX7_isPlace_X7_within
theorem dX7_isPlace_0 : decode cX7_isPlace 0 = .ok (.iload_n 0, 1) := by decide +kernel
theorem dX7_isPlace_1 : decode cX7_isPlace 1 = .ok (.iconst 0, 1) := by decide +kernel
theorem dX7_isPlace_2 : decode cX7_isPlace 2 = .ok (.bipush 15, 2) := by decide +kernel
theorem dX7_isPlace_4 : decode cX7_isPlace 4 = .ok (.invokestatic 50, 3) := by decide +kernel
theorem dX7_isPlace_7 : decode cX7_isPlace 7 = .ok (.ifCond .eq 17, 3) := by decide +kernel
theorem dX7_isPlace_10 : decode cX7_isPlace 10 = .ok (.iload_n 1, 1) := by decide +kernel
theorem dX7_isPlace_11 : decode cX7_isPlace 11 = .ok (.iconst 0, 1) := by decide +kernel
theorem dX7_isPlace_12 : decode cX7_isPlace 12 = .ok (.bipush 23, 2) := by decide +kernel
theorem dX7_isPlace_14 : decode cX7_isPlace 14 = .ok (.invokestatic 50, 3) := by decide +kernel
theorem dX7_isPlace_17 : decode cX7_isPlace 17 = .ok (.ifCond .eq 7, 3) := by decide +kernel
theorem dX7_isPlace_20 : decode cX7_isPlace 20 = .ok (.iconst 1, 1) := by decide +kernel
theorem dX7_isPlace_21 : decode cX7_isPlace 21 = .ok (.goto 4, 3) := by decide +kernel
theorem dX7_isPlace_24 : decode cX7_isPlace 24 = .ok (.iconst 0, 1) := by decide +kernel
theorem dX7_isPlace_25 : decode cX7_isPlace 25 = .ok (.ireturn, 1) := by decide +kernel
set_option maxRecDepth 20000 in
theorem ggX7_isSpeed_X7_within : GoodIn wsX7_isSpeed wsX7_within := goodIn_r _ [4] (by decide +kernel) (by decide +kernel)
set_option maxRecDepth 20000 in
theorem gX7_isSpeed_X7_within : GoodIn wsX7_isSpeed (va_wsS RX7 50 yX7_within wsX7_within) := goodIn_app (goodIn_of _ (by decide +kernel)) ggX7_isSpeed_X7_within
theorem dX7_isSpeed_0 : decode cX7_isSpeed 0 = .ok (.iload_n 0, 1) := by decide +kernel
theorem dX7_isSpeed_1 : decode cX7_isSpeed 1 = .ok (.bipush (-40), 2) := by decide +kernel
theorem dX7_isSpeed_3 : decode cX7_isSpeed 3 = .ok (.bipush 40, 2) := by decide +kernel
theorem dX7_isSpeed_5 : decode cX7_isSpeed 5 = .ok (.invokestatic 50, 3) := by decide +kernel
theorem dX7_isSpeed_8 : decode cX7_isSpeed 8 = .ok (.ireturn, 1) := by decide +kernel
set_option maxRecDepth 20000 in
theorem ggX7_canRide_X7_within : GoodIn wsX7_canRide wsX7_within := goodIn_r _ [4] (by decide +kernel) (by decide +kernel)
set_option maxRecDepth 20000 in
theorem gX7_canRide_X7_within : GoodIn wsX7_canRide (va_wsS RX7 50 yX7_within wsX7_within) := goodIn_app (goodIn_of _ (by decide +kernel)) ggX7_canRide_X7_within
theorem dX7_canRide_0 : decode cX7_canRide 0 = .ok (.iload_n 1, 1) := by decide +kernel
theorem dX7_canRide_1 : decode cX7_canRide 1 = .ok (.bipush (-6), 2) := by decide +kernel
theorem dX7_canRide_3 : decode cX7_canRide 3 = .ok (.if_icmp .eq 14, 3) := by decide +kernel
theorem dX7_canRide_6 : decode cX7_canRide 6 = .ok (.iload_n 1, 1) := by decide +kernel
theorem dX7_canRide_7 : decode cX7_canRide 7 = .ok (.iconst 0, 1) := by decide +kernel
theorem dX7_canRide_8 : decode cX7_canRide 8 = .ok (.iload_n 0, 1) := by decide +kernel
theorem dX7_canRide_9 : decode cX7_canRide 9 = .ok (.iconst 1, 1) := by decide +kernel
theorem dX7_canRide_10 : decode cX7_canRide 10 = .ok (.isub, 1) := by decide +kernel
theorem dX7_canRide_11 : decode cX7_canRide 11 = .ok (.invokestatic 50, 3) := by decide +kernel
theorem dX7_canRide_14 : decode cX7_canRide 14 = .ok (.ifCond .eq 7, 3) := by decide +kernel
theorem dX7_canRide_17 : decode cX7_canRide 17 = .ok (.iconst 1, 1) := by decide +kernel
theorem dX7_canRide_18 : decode cX7_canRide 18 = .ok (.goto 4, 3) := by decide +kernel
theorem dX7_canRide_21 : decode cX7_canRide 21 = .ok (.iconst 0, 1) := by decide +kernel
theorem dX7_canRide_22 : decode cX7_canRide 22 = .ok (.ireturn, 1) := by decide +kernel
set_option maxRecDepth 20000 in
theorem ggX7_isThing_X7_within : GoodIn wsX7_isThing wsX7_within := goodIn_r _ [7] (by decide +kernel) (by decide +kernel)
set_option maxRecDepth 20000 in
theorem gX7_isThing_X7_within : GoodIn wsX7_isThing (va_wsS RX7 50 yX7_within wsX7_within) := goodIn_app (goodIn_of _ (by decide +kernel)) ggX7_isThing_X7_within
theorem dX7_isThing_0 : decode cX7_isThing 0 = .ok (.iload_n 1, 1) := by decide +kernel
theorem dX7_isThing_1 : decode cX7_isThing 1 = .ok (.iconst 0, 1) := by decide +kernel
theorem dX7_isThing_2 : decode cX7_isThing 2 = .ok (.aload_n 0, 1) := by decide +kernel
theorem dX7_isThing_3 : decode cX7_isThing 3 = .ok (.getfield 10, 3) := by decide +kernel
theorem dX7_isThing_6 : decode cX7_isThing 6 = .ok (.getfield 72, 3) := by decide +kernel
theorem dX7_isThing_9 : decode cX7_isThing 9 = .ok (.getfield 176, 3) := by decide +kernel
theorem dX7_isThing_12 : decode cX7_isThing 12 = .ok (.iconst 1, 1) := by decide +kernel
theorem dX7_isThing_13 : decode cX7_isThing 13 = .ok (.isub, 1) := by decide +kernel
theorem dX7_isThing_14 : decode cX7_isThing 14 = .ok (.invokestatic 50, 3) := by decide +kernel
theorem dX7_isThing_17 : decode cX7_isThing 17 = .ok (.ireturn, 1) := by decide +kernel
set_option maxRecDepth 20000 in
theorem ggX7_errorOfThing_X7_isPlace : GoodIn wsX7_errorOfThing wsX7_isPlace := goodIn_r _ [7, 8, 9, 6, 10] (by decide +kernel) (by decide +kernel)
set_option maxRecDepth 20000 in
theorem gX7_errorOfThing_X7_isPlace : GoodIn wsX7_errorOfThing (va_wsS RX7 156 yX7_isPlace wsX7_isPlace) := goodIn_app (goodIn_of _ (by decide +kernel)) ggX7_errorOfThing_X7_isPlace
set_option maxRecDepth 20000 in
theorem ggX7_errorOfThing_X7_within : GoodIn wsX7_errorOfThing wsX7_within := goodIn_r _ [10] (by decide +kernel) (by decide +kernel)
set_option maxRecDepth 20000 in
theorem gX7_errorOfThing_X7_within : GoodIn wsX7_errorOfThing (va_wsS RX7 50 yX7_within wsX7_within) := goodIn_app (goodIn_of _ (by decide +kernel)) ggX7_errorOfThing_X7_within
theorem dX7_errorOfThing_0 : decode cX7_errorOfThing 0 = .ok (.iload_n 1, 1) := by decide +kernel
theorem dX7_errorOfThing_1 : decode cX7_errorOfThing 1 = .ok (.iload_n 2, 1) := by decide +kernel
theorem dX7_errorOfThing_2 : decode cX7_errorOfThing 2 = .ok (.invokestatic 156, 3) := by decide +kernel
theorem dX7_errorOfThing_5 : decode cX7_errorOfThing 5 = .ok (.ifCond .eq 35, 3) := by decide +kernel
theorem dX7_errorOfThing_8 : decode cX7_errorOfThing 8 = .ok (.iload_n 3, 1) := by decide +kernel
theorem dX7_errorOfThing_9 : decode cX7_errorOfThing 9 = .ok (.iconst 1, 1) := by decide +kernel
theorem dX7_errorOfThing_10 : decode cX7_errorOfThing 10 = .ok (.bipush 16, 2) := by decide +kernel
theorem dX7_errorOfThing_12 : decode cX7_errorOfThing 12 = .ok (.invokestatic 50, 3) := by decide +kernel
theorem dX7_errorOfThing_15 : decode cX7_errorOfThing 15 = .ok (.ifCond .eq 25, 3) := by decide +kernel
theorem dX7_errorOfThing_18 : decode cX7_errorOfThing 18 = .ok (.iload 4, 2) := by decide +kernel
theorem dX7_errorOfThing_20 : decode cX7_errorOfThing 20 = .ok (.iconst 1, 1) := by decide +kernel
theorem dX7_errorOfThing_21 : decode cX7_errorOfThing 21 = .ok (.bipush 24, 2) := by decide +kernel
theorem dX7_errorOfThing_23 : decode cX7_errorOfThing 23 = .ok (.invokestatic 50, 3) := by decide +kernel
theorem dX7_errorOfThing_26 : decode cX7_errorOfThing 26 = .ok (.ifCond .eq 14, 3) := by decide +kernel
theorem dX7_errorOfThing_29 : decode cX7_errorOfThing 29 = .ok (.iload 5, 2) := by decide +kernel
theorem dX7_errorOfThing_31 : decode cX7_errorOfThing 31 = .ok (.iconst 1, 1) := by decide +kernel
theorem dX7_errorOfThing_32 : decode cX7_errorOfThing 32 = .ok (.bipush 9, 2) := by decide +kernel
theorem dX7_errorOfThing_34 : decode cX7_errorOfThing 34 = .ok (.invokestatic 50, 3) := by decide +kernel
theorem dX7_errorOfThing_37 : decode cX7_errorOfThing 37 = .ok (.ifCond .ne 6, 3) := by decide +kernel
theorem dX7_errorOfThing_40 : decode cX7_errorOfThing 40 = .ok (.bipush (-2), 2) := by decide +kernel
theorem dX7_errorOfThing_42 : decode cX7_errorOfThing 42 = .ok (.ireturn, 1) := by decide +kernel
theorem dX7_errorOfThing_43 : decode cX7_errorOfThing 43 = .ok (.aload_n 0, 1) := by decide +kernel
theorem dX7_errorOfThing_44 : decode cX7_errorOfThing 44 = .ok (.getfield 10, 3) := by decide +kernel
theorem dX7_errorOfThing_47 : decode cX7_errorOfThing 47 = .ok (.getfield 72, 3) := by decide +kernel
theorem dX7_errorOfThing_50 : decode cX7_errorOfThing 50 = .ok (.getfield 176, 3) := by decide +kernel
theorem dX7_errorOfThing_53 : decode cX7_errorOfThing 53 = .ok (.bipush 8, 2) := by decide +kernel
theorem dX7_errorOfThing_55 : decode cX7_errorOfThing 55 = .ok (.if_icmp .ge 7, 3) := by decide +kernel
theorem dX7_errorOfThing_58 : decode cX7_errorOfThing 58 = .ok (.iconst 0, 1) := by decide +kernel
theorem dX7_errorOfThing_59 : decode cX7_errorOfThing 59 = .ok (.goto 5, 3) := by decide +kernel
theorem dX7_errorOfThing_62 : decode cX7_errorOfThing 62 = .ok (.bipush (-4), 2) := by decide +kernel
theorem dX7_errorOfThing_64 : decode cX7_errorOfThing 64 = .ok (.ireturn, 1) := by decide +kernel
set_option maxRecDepth 20000 in
theorem ggX7_errorOfFlash_X7_within : GoodIn wsX7_errorOfFlash wsX7_within := goodIn_r _ [4] (by decide +kernel) (by decide +kernel)
set_option maxRecDepth 20000 in
theorem gX7_errorOfFlash_X7_within : GoodIn wsX7_errorOfFlash (va_wsS RX7 50 yX7_within wsX7_within) := goodIn_app (goodIn_of _ (by decide +kernel)) ggX7_errorOfFlash_X7_within
theorem dX7_errorOfFlash_0 : decode cX7_errorOfFlash 0 = .ok (.iload_n 1, 1) := by decide +kernel
theorem dX7_errorOfFlash_1 : decode cX7_errorOfFlash 1 = .ok (.iconst 0, 1) := by decide +kernel
theorem dX7_errorOfFlash_2 : decode cX7_errorOfFlash 2 = .ok (.bipush 99, 2) := by decide +kernel
theorem dX7_errorOfFlash_4 : decode cX7_errorOfFlash 4 = .ok (.invokestatic 50, 3) := by decide +kernel
theorem dX7_errorOfFlash_7 : decode cX7_errorOfFlash 7 = .ok (.ifCond .eq 17, 3) := by decide +kernel
theorem dX7_errorOfFlash_10 : decode cX7_errorOfFlash 10 = .ok (.iload_n 2, 1) := by decide +kernel
theorem dX7_errorOfFlash_11 : decode cX7_errorOfFlash 11 = .ok (.iconst 1, 1) := by decide +kernel
theorem dX7_errorOfFlash_12 : decode cX7_errorOfFlash 12 = .ok (.bipush 20, 2) := by decide +kernel
theorem dX7_errorOfFlash_14 : decode cX7_errorOfFlash 14 = .ok (.invokestatic 50, 3) := by decide +kernel
theorem dX7_errorOfFlash_17 : decode cX7_errorOfFlash 17 = .ok (.ifCond .eq 7, 3) := by decide +kernel
theorem dX7_errorOfFlash_20 : decode cX7_errorOfFlash 20 = .ok (.iconst 0, 1) := by decide +kernel
theorem dX7_errorOfFlash_21 : decode cX7_errorOfFlash 21 = .ok (.goto 5, 3) := by decide +kernel
theorem dX7_errorOfFlash_24 : decode cX7_errorOfFlash 24 = .ok (.bipush (-2), 2) := by decide +kernel
theorem dX7_errorOfFlash_26 : decode cX7_errorOfFlash 26 = .ok (.ireturn, 1) := by decide +kernel
set_option maxRecDepth 20000 in
theorem ggX7_errorOfPass_X7_within : GoodIn wsX7_errorOfPass wsX7_within := goodIn_r _ [6] (by decide +kernel) (by decide +kernel)
set_option maxRecDepth 20000 in
theorem gX7_errorOfPass_X7_within : GoodIn wsX7_errorOfPass (va_wsS RX7 50 yX7_within wsX7_within) := goodIn_app (goodIn_of _ (by decide +kernel)) ggX7_errorOfPass_X7_within
theorem dX7_errorOfPass_0 : decode cX7_errorOfPass 0 = .ok (.iload_n 1, 1) := by decide +kernel
theorem dX7_errorOfPass_1 : decode cX7_errorOfPass 1 = .ok (.iconst 1, 1) := by decide +kernel
theorem dX7_errorOfPass_2 : decode cX7_errorOfPass 2 = .ok (.bipush 99, 2) := by decide +kernel
theorem dX7_errorOfPass_4 : decode cX7_errorOfPass 4 = .ok (.invokestatic 50, 3) := by decide +kernel
theorem dX7_errorOfPass_7 : decode cX7_errorOfPass 7 = .ok (.ifCond .ne 6, 3) := by decide +kernel
theorem dX7_errorOfPass_10 : decode cX7_errorOfPass 10 = .ok (.bipush (-2), 2) := by decide +kernel
theorem dX7_errorOfPass_12 : decode cX7_errorOfPass 12 = .ok (.ireturn, 1) := by decide +kernel
theorem dX7_errorOfPass_13 : decode cX7_errorOfPass 13 = .ok (.aload_n 0, 1) := by decide +kernel
theorem dX7_errorOfPass_14 : decode cX7_errorOfPass 14 = .ok (.getfield 10, 3) := by decide +kernel
theorem dX7_errorOfPass_17 : decode cX7_errorOfPass 17 = .ok (.getfield 76, 3) := by decide +kernel
theorem dX7_errorOfPass_20 : decode cX7_errorOfPass 20 = .ok (.iload_n 1, 1) := by decide +kernel
theorem dX7_errorOfPass_21 : decode cX7_errorOfPass 21 = .ok (.iadd, 1) := by decide +kernel
