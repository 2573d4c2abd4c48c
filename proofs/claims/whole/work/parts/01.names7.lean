theorem dX8_lit_36 : decode cX8_lit 36 = .ok (.istore_n 2, 1) := by decide +kernel
theorem dX8_lit_37 : decode cX8_lit 37 = .ok (.iinc 3 1, 3) := by decide +kernel
theorem dX8_lit_40 : decode cX8_lit 40 = .ok (.goto (-36), 3) := by decide +kernel
theorem dX8_lit_43 : decode cX8_lit 43 = .ok (.iload_n 2, 1) := by decide +kernel
theorem dX8_lit_44 : decode cX8_lit 44 = .ok (.ireturn, 1) := by decide +kernel
theorem dX8_sumOf_0 : decode cX8_sumOf 0 = .ok (.iconst 0, 1) := by decide +kernel
theorem dX8_sumOf_1 : decode cX8_sumOf 1 = .ok (.istore_n 2, 1) := by decide +kernel
theorem dX8_sumOf_2 : decode cX8_sumOf 2 = .ok (.iconst 0, 1) := by decide +kernel
theorem dX8_sumOf_3 : decode cX8_sumOf 3 = .ok (.istore_n 3, 1) := by decide +kernel
theorem dX8_sumOf_4 : decode cX8_sumOf 4 = .ok (.iload_n 3, 1) := by decide +kernel
theorem dX8_sumOf_5 : decode cX8_sumOf 5 = .ok (.bipush 24, 2) := by decide +kernel
theorem dX8_sumOf_7 : decode cX8_sumOf 7 = .ok (.if_icmp .ge 26, 3) := by decide +kernel
theorem dX8_sumOf_10 : decode cX8_sumOf 10 = .ok (.iload_n 2, 1) := by decide +kernel
theorem dX8_sumOf_11 : decode cX8_sumOf 11 = .ok (.aload_n 0, 1) := by decide +kernel
theorem dX8_sumOf_12 : decode cX8_sumOf 12 = .ok (.getfield 7, 3) := by decide +kernel
theorem dX8_sumOf_15 : decode cX8_sumOf 15 = .ok (.bipush 81, 2) := by decide +kernel
theorem dX8_sumOf_17 : decode cX8_sumOf 17 = .ok (.bipush 24, 2) := by decide +kernel
theorem dX8_sumOf_19 : decode cX8_sumOf 19 = .ok (.iload_n 1, 1) := by decide +kernel
theorem dX8_sumOf_20 : decode cX8_sumOf 20 = .ok (.imul, 1) := by decide +kernel
theorem dX8_sumOf_21 : decode cX8_sumOf 21 = .ok (.iadd, 1) := by decide +kernel
theorem dX8_sumOf_22 : decode cX8_sumOf 22 = .ok (.iload_n 3, 1) := by decide +kernel
theorem dX8_sumOf_23 : decode cX8_sumOf 23 = .ok (.iadd, 1) := by decide +kernel
theorem dX8_sumOf_24 : decode cX8_sumOf 24 = .ok (.iaload, 1) := by decide +kernel
theorem dX8_sumOf_25 : decode cX8_sumOf 25 = .ok (.iadd, 1) := by decide +kernel
theorem dX8_sumOf_26 : decode cX8_sumOf 26 = .ok (.istore_n 2, 1) := by decide +kernel
theorem dX8_sumOf_27 : decode cX8_sumOf 27 = .ok (.iinc 3 1, 3) := by decide +kernel
theorem dX8_sumOf_30 : decode cX8_sumOf 30 = .ok (.goto (-26), 3) := by decide +kernel
theorem dX8_sumOf_33 : decode cX8_sumOf 33 = .ok (.iload_n 2, 1) := by decide +kernel
theorem dX8_sumOf_34 : decode cX8_sumOf 34 = .ok (.ireturn, 1) := by decide +kernel
theorem dX8_leftmost_0 : decode cX8_leftmost 0 = .ok (.iconst 0, 1) := by decide +kernel
theorem dX8_leftmost_1 : decode cX8_leftmost 1 = .ok (.istore_n 2, 1) := by decide +kernel
theorem dX8_leftmost_2 : decode cX8_leftmost 2 = .ok (.iload_n 2, 1) := by decide +kernel
theorem dX8_leftmost_3 : decode cX8_leftmost 3 = .ok (.bipush 24, 2) := by decide +kernel
theorem dX8_leftmost_5 : decode cX8_leftmost 5 = .ok (.if_icmp .ge 28, 3) := by decide +kernel
theorem dX8_leftmost_8 : decode cX8_leftmost 8 = .ok (.aload_n 0, 1) := by decide +kernel
theorem dX8_leftmost_9 : decode cX8_leftmost 9 = .ok (.getfield 7, 3) := by decide +kernel
theorem dX8_leftmost_12 : decode cX8_leftmost 12 = .ok (.bipush 81, 2) := by decide +kernel
theorem dX8_leftmost_14 : decode cX8_leftmost 14 = .ok (.bipush 24, 2) := by decide +kernel
theorem dX8_leftmost_16 : decode cX8_leftmost 16 = .ok (.iload_n 1, 1) := by decide +kernel
theorem dX8_leftmost_17 : decode cX8_leftmost 17 = .ok (.imul, 1) := by decide +kernel
theorem dX8_leftmost_18 : decode cX8_leftmost 18 = .ok (.iadd, 1) := by decide +kernel
theorem dX8_leftmost_19 : decode cX8_leftmost 19 = .ok (.iload_n 2, 1) := by decide +kernel
theorem dX8_leftmost_20 : decode cX8_leftmost 20 = .ok (.iadd, 1) := by decide +kernel
theorem dX8_leftmost_21 : decode cX8_leftmost 21 = .ok (.iaload, 1) := by decide +kernel
theorem dX8_leftmost_22 : decode cX8_leftmost 22 = .ok (.ifCond .le 5, 3) := by decide +kernel
theorem dX8_leftmost_25 : decode cX8_leftmost 25 = .ok (.iload_n 2, 1) := by decide +kernel
theorem dX8_leftmost_26 : decode cX8_leftmost 26 = .ok (.ireturn, 1) := by decide +kernel
theorem dX8_leftmost_27 : decode cX8_leftmost 27 = .ok (.iinc 2 1, 3) := by decide +kernel
theorem dX8_leftmost_30 : decode cX8_leftmost 30 = .ok (.goto (-28), 3) := by decide +kernel
theorem dX8_leftmost_33 : decode cX8_leftmost 33 = .ok (.bipush (-6), 2) := by decide +kernel
theorem dX8_leftmost_35 : decode cX8_leftmost 35 = .ok (.ireturn, 1) := by decide +kernel
set_option maxRecDepth 20000 in
theorem ggX8_ofLine_X8_in : GoodIn wsX8_ofLine wsX8_in := goodIn_r _ [4] (by decide +kernel) (by decide +kernel)
set_option maxRecDepth 20000 in
theorem gX8_ofLine_X8_in : GoodIn wsX8_ofLine (va_wsS RX8 30 yX8_in wsX8_in) := goodIn_app (goodIn_of _ (by decide +kernel)) ggX8_ofLine_X8_in
set_option maxRecDepth 20000 in
theorem ggX8_ofLine_X8_lit : GoodIn wsX8_ofLine wsX8_lit := goodIn_r _ [8, 9, 18, 19, 20, 21, 22, 23, 24] (by decide +kernel) (by decide +kernel)
set_option maxRecDepth 20000 in
theorem gX8_ofLine_X8_lit : GoodIn wsX8_ofLine (wsV RX8 103 RX8 yX8_lit wsX8_lit) := goodIn_app (goodIn_of _ (by decide +kernel)) ggX8_ofLine_X8_lit
set_option maxRecDepth 20000 in
theorem ggX8_ofLine_X8_sumOf : GoodIn wsX8_ofLine wsX8_sumOf := goodIn_r _ [13, 9, 18, 19, 20, 21, 22, 23, 24] (by decide +kernel) (by decide +kernel)
set_option maxRecDepth 20000 in
theorem gX8_ofLine_X8_sumOf : GoodIn wsX8_ofLine (wsV RX8 106 RX8 yX8_sumOf wsX8_sumOf) := goodIn_app (goodIn_of _ (by decide +kernel)) ggX8_ofLine_X8_sumOf
set_option maxRecDepth 20000 in
theorem ggX8_ofLine_X8_leftmost : GoodIn wsX8_ofLine wsX8_leftmost := goodIn_r _ [17, 9, 18, 19, 20, 21, 22, 23, 24] (by decide +kernel) (by decide +kernel)
set_option maxRecDepth 20000 in
theorem gX8_ofLine_X8_leftmost : GoodIn wsX8_ofLine (wsV RX8 109 RX8 yX8_leftmost wsX8_leftmost) := goodIn_app (goodIn_of _ (by decide +kernel)) ggX8_ofLine_X8_leftmost
theorem dX8_ofLine_0 : decode cX8_ofLine 0 = .ok (.iload_n 1, 1) := by decide +kernel
theorem dX8_ofLine_1 : decode cX8_ofLine 1 = .ok (.iconst 0, 1) := by decide +kernel
theorem dX8_ofLine_2 : decode cX8_ofLine 2 = .ok (.bipush 15, 2) := by decide +kernel
theorem dX8_ofLine_4 : decode cX8_ofLine 4 = .ok (.invokestatic 30, 3) := by decide +kernel
theorem dX8_ofLine_7 : decode cX8_ofLine 7 = .ok (.ifCond .ne 5, 3) := by decide +kernel
theorem dX8_ofLine_10 : decode cX8_ofLine 10 = .ok (.iconst (-1), 1) := by decide +kernel
theorem dX8_ofLine_11 : decode cX8_ofLine 11 = .ok (.ireturn, 1) := by decide +kernel
theorem dX8_ofLine_12 : decode cX8_ofLine 12 = .ok (.iload_n 2, 1) := by decide +kernel
theorem dX8_ofLine_13 : decode cX8_ofLine 13 = .ok (.ifCond .ne 11, 3) := by decide +kernel
theorem dX8_ofLine_16 : decode cX8_ofLine 16 = .ok (.aload_n 0, 1) := by decide +kernel
theorem dX8_ofLine_17 : decode cX8_ofLine 17 = .ok (.iload_n 1, 1) := by decide +kernel
theorem dX8_ofLine_18 : decode cX8_ofLine 18 = .ok (.invokevirtual 103, 3) := by decide +kernel
theorem dX8_ofLine_21 : decode cX8_ofLine 21 = .ok (.goto 31, 3) := by decide +kernel
theorem dX8_ofLine_24 : decode cX8_ofLine 24 = .ok (.iload_n 2, 1) := by decide +kernel
theorem dX8_ofLine_25 : decode cX8_ofLine 25 = .ok (.iconst 1, 1) := by decide +kernel
theorem dX8_ofLine_26 : decode cX8_ofLine 26 = .ok (.if_icmp .ne 11, 3) := by decide +kernel
theorem dX8_ofLine_29 : decode cX8_ofLine 29 = .ok (.aload_n 0, 1) := by decide +kernel
theorem dX8_ofLine_30 : decode cX8_ofLine 30 = .ok (.iload_n 1, 1) := by decide +kernel
theorem dX8_ofLine_31 : decode cX8_ofLine 31 = .ok (.invokevirtual 106, 3) := by decide +kernel
theorem dX8_ofLine_34 : decode cX8_ofLine 34 = .ok (.goto 18, 3) := by decide +kernel
theorem dX8_ofLine_37 : decode cX8_ofLine 37 = .ok (.iload_n 2, 1) := by decide +kernel
theorem dX8_ofLine_38 : decode cX8_ofLine 38 = .ok (.iconst 2, 1) := by decide +kernel
theorem dX8_ofLine_39 : decode cX8_ofLine 39 = .ok (.if_icmp .ne 11, 3) := by decide +kernel
theorem dX8_ofLine_42 : decode cX8_ofLine 42 = .ok (.aload_n 0, 1) := by decide +kernel
theorem dX8_ofLine_43 : decode cX8_ofLine 43 = .ok (.iload_n 1, 1) := by decide +kernel
theorem dX8_ofLine_44 : decode cX8_ofLine 44 = .ok (.invokevirtual 109, 3) := by decide +kernel
theorem dX8_ofLine_47 : decode cX8_ofLine 47 = .ok (.goto 5, 3) := by decide +kernel
theorem dX8_ofLine_50 : decode cX8_ofLine 50 = .ok (.bipush (-2), 2) := by decide +kernel
theorem dX8_ofLine_52 : decode cX8_ofLine 52 = .ok (.ireturn, 1) := by decide +kernel
set_option maxRecDepth 20000 in
theorem ggX8_darkLines_X8_lit : GoodIn wsX8_darkLines wsX8_lit := goodIn_r _ [5, 6, 7, 8, 9, 10, 11, 12, 13] (by decide +kernel) (by decide +kernel)
set_option maxRecDepth 20000 in
theorem gX8_darkLines_X8_lit : GoodIn wsX8_darkLines (wsV RX8 103 RX8 yX8_lit wsX8_lit) := goodIn_app (goodIn_of _ (by decide +kernel)) ggX8_darkLines_X8_lit
theorem dX8_darkLines_0 : decode cX8_darkLines 0 = .ok (.iconst 0, 1) := by decide +kernel
theorem dX8_darkLines_1 : decode cX8_darkLines 1 = .ok (.istore_n 1, 1) := by decide +kernel
theorem dX8_darkLines_2 : decode cX8_darkLines 2 = .ok (.iconst 0, 1) := by decide +kernel
theorem dX8_darkLines_3 : decode cX8_darkLines 3 = .ok (.istore_n 2, 1) := by decide +kernel
theorem dX8_darkLines_4 : decode cX8_darkLines 4 = .ok (.iload_n 2, 1) := by decide +kernel
theorem dX8_darkLines_5 : decode cX8_darkLines 5 = .ok (.bipush 16, 2) := by decide +kernel
theorem dX8_darkLines_7 : decode cX8_darkLines 7 = .ok (.if_icmp .ge 27, 3) := by decide +kernel
theorem dX8_darkLines_10 : decode cX8_darkLines 10 = .ok (.iload_n 1, 1) := by decide +kernel
theorem dX8_darkLines_11 : decode cX8_darkLines 11 = .ok (.aload_n 0, 1) := by decide +kernel
theorem dX8_darkLines_12 : decode cX8_darkLines 12 = .ok (.iload_n 2, 1) := by decide +kernel
theorem dX8_darkLines_13 : decode cX8_darkLines 13 = .ok (.invokevirtual 103, 3) := by decide +kernel
theorem dX8_darkLines_16 : decode cX8_darkLines 16 = .ok (.ifCond .ne 9, 3) := by decide +kernel
theorem dX8_darkLines_19 : decode cX8_darkLines 19 = .ok (.iconst 1, 1) := by decide +kernel
theorem dX8_darkLines_20 : decode cX8_darkLines 20 = .ok (.iload_n 2, 1) := by decide +kernel
theorem dX8_darkLines_21 : decode cX8_darkLines 21 = .ok (.ishl, 1) := by decide +kernel
theorem dX8_darkLines_22 : decode cX8_darkLines 22 = .ok (.goto 4, 3) := by decide +kernel
theorem dX8_darkLines_25 : decode cX8_darkLines 25 = .ok (.iconst 0, 1) := by decide +kernel
theorem dX8_darkLines_26 : decode cX8_darkLines 26 = .ok (.ior, 1) := by decide +kernel
theorem dX8_darkLines_27 : decode cX8_darkLines 27 = .ok (.istore_n 1, 1) := by decide +kernel
theorem dX8_darkLines_28 : decode cX8_darkLines 28 = .ok (.iinc 2 1, 3) := by decide +kernel
theorem dX8_darkLines_31 : decode cX8_darkLines 31 = .ok (.goto (-27), 3) := by decide +kernel
theorem dX8_darkLines_34 : decode cX8_darkLines 34 = .ok (.iload_n 1, 1) := by decide +kernel
theorem dX8_darkLines_35 : decode cX8_darkLines 35 = .ok (.ireturn, 1) := by decide +kernel
theorem dX8_brightest_0 : decode cX8_brightest 0 = .ok (.iconst 0, 1) := by decide +kernel
theorem dX8_brightest_1 : decode cX8_brightest 1 = .ok (.istore_n 1, 1) := by decide +kernel
theorem dX8_brightest_2 : decode cX8_brightest 2 = .ok (.iconst 0, 1) := by decide +kernel
theorem dX8_brightest_3 : decode cX8_brightest 3 = .ok (.istore_n 2, 1) := by decide +kernel
theorem dX8_brightest_4 : decode cX8_brightest 4 = .ok (.iload_n 2, 1) := by decide +kernel
theorem dX8_brightest_5 : decode cX8_brightest 5 = .ok (.sipush 384, 3) := by decide +kernel
theorem dX8_brightest_8 : decode cX8_brightest 8 = .ok (.if_icmp .ge 36, 3) := by decide +kernel
theorem dX8_brightest_11 : decode cX8_brightest 11 = .ok (.aload_n 0, 1) := by decide +kernel
theorem dX8_brightest_12 : decode cX8_brightest 12 = .ok (.getfield 7, 3) := by decide +kernel
theorem dX8_brightest_15 : decode cX8_brightest 15 = .ok (.bipush 81, 2) := by decide +kernel
theorem dX8_brightest_17 : decode cX8_brightest 17 = .ok (.iload_n 2, 1) := by decide +kernel
theorem dX8_brightest_18 : decode cX8_brightest 18 = .ok (.iadd, 1) := by decide +kernel
theorem dX8_brightest_19 : decode cX8_brightest 19 = .ok (.iaload, 1) := by decide +kernel
theorem dX8_brightest_20 : decode cX8_brightest 20 = .ok (.iload_n 1, 1) := by decide +kernel
theorem dX8_brightest_21 : decode cX8_brightest 21 = .ok (.if_icmp .le 15, 3) := by decide +kernel
theorem dX8_brightest_24 : decode cX8_brightest 24 = .ok (.aload_n 0, 1) := by decide +kernel
theorem dX8_brightest_25 : decode cX8_brightest 25 = .ok (.getfield 7, 3) := by decide +kernel
theorem dX8_brightest_28 : decode cX8_brightest 28 = .ok (.bipush 81, 2) := by decide +kernel
theorem dX8_brightest_30 : decode cX8_brightest 30 = .ok (.iload_n 2, 1) := by decide +kernel
theorem dX8_brightest_31 : decode cX8_brightest 31 = .ok (.iadd, 1) := by decide +kernel
theorem dX8_brightest_32 : decode cX8_brightest 32 = .ok (.iaload, 1) := by decide +kernel
theorem dX8_brightest_33 : decode cX8_brightest 33 = .ok (.goto 4, 3) := by decide +kernel
theorem dX8_brightest_36 : decode cX8_brightest 36 = .ok (.iload_n 1, 1) := by decide +kernel
theorem dX8_brightest_37 : decode cX8_brightest 37 = .ok (.istore_n 1, 1) := by decide +kernel
theorem dX8_brightest_38 : decode cX8_brightest 38 = .ok (.iinc 2 1, 3) := by decide +kernel
theorem dX8_brightest_41 : decode cX8_brightest 41 = .ok (.goto (-37), 3) := by decide +kernel
theorem dX8_brightest_44 : decode cX8_brightest 44 = .ok (.iload_n 1, 1) := by decide +kernel
theorem dX8_brightest_45 : decode cX8_brightest 45 = .ok (.ireturn, 1) := by decide +kernel
set_option maxRecDepth 20000 in
theorem ggX8_bands_X8_lit : GoodIn wsX8_bands wsX8_lit := goodIn_r _ [5, 6, 7, 8, 9, 10, 11, 12, 13] (by decide +kernel) (by decide +kernel)
set_option maxRecDepth 20000 in
theorem gX8_bands_X8_lit : GoodIn wsX8_bands (wsV RX8 103 RX8 yX8_lit wsX8_lit) := goodIn_app (goodIn_of _ (by decide +kernel)) ggX8_bands_X8_lit
theorem dX8_bands_0 : decode cX8_bands 0 = .ok (.iconst 0, 1) := by decide +kernel
theorem dX8_bands_1 : decode cX8_bands 1 = .ok (.istore_n 1, 1) := by decide +kernel
theorem dX8_bands_2 : decode cX8_bands 2 = .ok (.iconst 1, 1) := by decide +kernel
theorem dX8_bands_3 : decode cX8_bands 3 = .ok (.istore_n 2, 1) := by decide +kernel
theorem dX8_bands_4 : decode cX8_bands 4 = .ok (.iload_n 2, 1) := by decide +kernel
theorem dX8_bands_5 : decode cX8_bands 5 = .ok (.bipush 16, 2) := by decide +kernel
theorem dX8_bands_7 : decode cX8_bands 7 = .ok (.if_icmp .ge 48, 3) := by decide +kernel
theorem dX8_bands_10 : decode cX8_bands 10 = .ok (.iload_n 1, 1) := by decide +kernel
theorem dX8_bands_11 : decode cX8_bands 11 = .ok (.aload_n 0, 1) := by decide +kernel
theorem dX8_bands_12 : decode cX8_bands 12 = .ok (.iload_n 2, 1) := by decide +kernel
theorem dX8_bands_13 : decode cX8_bands 13 = .ok (.invokevirtual 103, 3) := by decide +kernel
theorem dX8_bands_16 : decode cX8_bands 16 = .ok (.ifCond .ne 7, 3) := by decide +kernel
theorem dX8_bands_19 : decode cX8_bands 19 = .ok (.iconst 1, 1) := by decide +kernel
theorem dX8_bands_20 : decode cX8_bands 20 = .ok (.goto 4, 3) := by decide +kernel
theorem dX8_bands_23 : decode cX8_bands 23 = .ok (.iconst 0, 1) := by decide +kernel
theorem dX8_bands_24 : decode cX8_bands 24 = .ok (.aload_n 0, 1) := by decide +kernel
theorem dX8_bands_25 : decode cX8_bands 25 = .ok (.iload_n 2, 1) := by decide +kernel
theorem dX8_bands_26 : decode cX8_bands 26 = .ok (.iconst 1, 1) := by decide +kernel
theorem dX8_bands_27 : decode cX8_bands 27 = .ok (.isub, 1) := by decide +kernel
theorem dX8_bands_28 : decode cX8_bands 28 = .ok (.invokevirtual 103, 3) := by decide +kernel
theorem dX8_bands_31 : decode cX8_bands 31 = .ok (.ifCond .ne 7, 3) := by decide +kernel
theorem dX8_bands_34 : decode cX8_bands 34 = .ok (.iconst 1, 1) := by decide +kernel
theorem dX8_bands_35 : decode cX8_bands 35 = .ok (.goto 4, 3) := by decide +kernel
theorem dX8_bands_38 : decode cX8_bands 38 = .ok (.iconst 0, 1) := by decide +kernel
theorem dX8_bands_39 : decode cX8_bands 39 = .ok (.if_icmp .ne 7, 3) := by decide +kernel
theorem dX8_bands_42 : decode cX8_bands 42 = .ok (.iconst 0, 1) := by decide +kernel
theorem dX8_bands_43 : decode cX8_bands 43 = .ok (.goto 4, 3) := by decide +kernel
theorem dX8_bands_46 : decode cX8_bands 46 = .ok (.iconst 1, 1) := by decide +kernel
theorem dX8_bands_47 : decode cX8_bands 47 = .ok (.iadd, 1) := by decide +kernel
theorem dX8_bands_48 : decode cX8_bands 48 = .ok (.istore_n 1, 1) := by decide +kernel
theorem dX8_bands_49 : decode cX8_bands 49 = .ok (.iinc 2 1, 3) := by decide +kernel
theorem dX8_bands_52 : decode cX8_bands 52 = .ok (.goto (-48), 3) := by decide +kernel
theorem dX8_bands_55 : decode cX8_bands 55 = .ok (.iload_n 1, 1) := by decide +kernel
theorem dX8_bands_56 : decode cX8_bands 56 = .ok (.ireturn, 1) := by decide +kernel
set_option maxRecDepth 20000 in
theorem ggX8_count_X8_darkLines : GoodIn wsX8_count wsX8_darkLines := goodIn_r _ [8, 9, 10, 11, 7, 12, 1, 24, 25, 26, 27, 28, 29, 30] (by decide +kernel) (by decide +kernel)
set_option maxRecDepth 20000 in
theorem gX8_count_X8_darkLines : GoodIn wsX8_count (wsV RX8 112 RX8 yX8_darkLines wsX8_darkLines) := goodIn_app (goodIn_of _ (by decide +kernel)) ggX8_count_X8_darkLines
set_option maxRecDepth 20000 in
theorem ggX8_count_X8_brightest : GoodIn wsX8_count wsX8_brightest := goodIn_r _ [16, 1, 24, 25, 26, 27, 28, 29, 30] (by decide +kernel) (by decide +kernel)
set_option maxRecDepth 20000 in
theorem gX8_count_X8_brightest : GoodIn wsX8_count (wsV RX8 115 RX8 yX8_brightest wsX8_brightest) := goodIn_app (goodIn_of _ (by decide +kernel)) ggX8_count_X8_brightest
set_option maxRecDepth 20000 in
theorem ggX8_count_X8_bands : GoodIn wsX8_count wsX8_bands := goodIn_r _ [20, 9, 10, 11, 7, 12, 1, 24, 25, 26, 27, 28, 29, 30] (by decide +kernel) (by decide +kernel)
set_option maxRecDepth 20000 in
theorem gX8_count_X8_bands : GoodIn wsX8_count (wsV RX8 118 RX8 yX8_bands wsX8_bands) := goodIn_app (goodIn_of _ (by decide +kernel)) ggX8_count_X8_bands
set_option maxRecDepth 20000 in
theorem ggX8_count_X8_in : GoodIn wsX8_count wsX8_in := goodIn_r _ [23] (by decide +kernel) (by decide +kernel)
set_option maxRecDepth 20000 in
theorem gX8_count_X8_in : GoodIn wsX8_count (va_wsS RX8 30 yX8_in wsX8_in) := goodIn_app (goodIn_of _ (by decide +kernel)) ggX8_count_X8_in
theorem dX8_count_0 : decode cX8_count 0 = .ok (.iload_n 1, 1) := by decide +kernel
theorem dX8_count_1 : decode cX8_count 1 = .ok (.tableswitch 149 0 13 #[71, 78, 85, 93, 98, 103, 108, 131, 149, 149, 149, 149, 139, 144], 71) := by decide +kernel
theorem dX8_count_72 : decode cX8_count 72 = .ok (.aload_n 0, 1) := by decide +kernel
theorem dX8_count_73 : decode cX8_count 73 = .ok (.getfield 7, 3) := by decide +kernel
theorem dX8_count_76 : decode cX8_count 76 = .ok (.iconst 4, 1) := by decide +kernel
theorem dX8_count_77 : decode cX8_count 77 = .ok (.iaload, 1) := by decide +kernel
theorem dX8_count_78 : decode cX8_count 78 = .ok (.ireturn, 1) := by decide +kernel
theorem dX8_count_79 : decode cX8_count 79 = .ok (.aload_n 0, 1) := by decide +kernel
theorem dX8_count_80 : decode cX8_count 80 = .ok (.getfield 7, 3) := by decide +kernel
theorem dX8_count_83 : decode cX8_count 83 = .ok (.iconst 5, 1) := by decide +kernel
theorem dX8_count_84 : decode cX8_count 84 = .ok (.iaload, 1) := by decide +kernel
theorem dX8_count_85 : decode cX8_count 85 = .ok (.ireturn, 1) := by decide +kernel
theorem dX8_count_86 : decode cX8_count 86 = .ok (.aload_n 0, 1) := by decide +kernel
theorem dX8_count_87 : decode cX8_count 87 = .ok (.getfield 7, 3) := by decide +kernel
theorem dX8_count_90 : decode cX8_count 90 = .ok (.bipush 6, 2) := by decide +kernel
theorem dX8_count_92 : decode cX8_count 92 = .ok (.iaload, 1) := by decide +kernel
theorem dX8_count_93 : decode cX8_count 93 = .ok (.ireturn, 1) := by decide +kernel
theorem dX8_count_94 : decode cX8_count 94 = .ok (.aload_n 0, 1) := by decide +kernel
theorem dX8_count_95 : decode cX8_count 95 = .ok (.invokevirtual 112, 3) := by decide +kernel
theorem dX8_count_98 : decode cX8_count 98 = .ok (.ireturn, 1) := by decide +kernel
theorem dX8_count_99 : decode cX8_count 99 = .ok (.aload_n 0, 1) := by decide +kernel
theorem dX8_count_100 : decode cX8_count 100 = .ok (.invokevirtual 115, 3) := by decide +kernel
theorem dX8_count_103 : decode cX8_count 103 = .ok (.ireturn, 1) := by decide +kernel
theorem dX8_count_104 : decode cX8_count 104 = .ok (.aload_n 0, 1) := by decide +kernel
theorem dX8_count_105 : decode cX8_count 105 = .ok (.invokevirtual 118, 3) := by decide +kernel
theorem dX8_count_108 : decode cX8_count 108 = .ok (.ireturn, 1) := by decide +kernel
theorem dX8_count_109 : decode cX8_count 109 = .ok (.aload_n 0, 1) := by decide +kernel
theorem dX8_count_110 : decode cX8_count 110 = .ok (.getfield 7, 3) := by decide +kernel
theorem dX8_count_113 : decode cX8_count 113 = .ok (.bipush 7, 2) := by decide +kernel
theorem dX8_count_115 : decode cX8_count 115 = .ok (.iaload, 1) := by decide +kernel
theorem dX8_count_116 : decode cX8_count 116 = .ok (.ifCond .ge 8, 3) := by decide +kernel
theorem dX8_count_119 : decode cX8_count 119 = .ok (.bipush (-6), 2) := by decide +kernel
theorem dX8_count_121 : decode cX8_count 121 = .ok (.goto 10, 3) := by decide +kernel
theorem dX8_count_124 : decode cX8_count 124 = .ok (.aload_n 0, 1) := by decide +kernel
theorem dX8_count_125 : decode cX8_count 125 = .ok (.getfield 7, 3) := by decide +kernel
theorem dX8_count_128 : decode cX8_count 128 = .ok (.bipush 7, 2) := by decide +kernel
theorem dX8_count_130 : decode cX8_count 130 = .ok (.iaload, 1) := by decide +kernel
theorem dX8_count_131 : decode cX8_count 131 = .ok (.ireturn, 1) := by decide +kernel
theorem dX8_count_132 : decode cX8_count 132 = .ok (.aload_n 0, 1) := by decide +kernel
theorem dX8_count_133 : decode cX8_count 133 = .ok (.getfield 7, 3) := by decide +kernel
theorem dX8_count_136 : decode cX8_count 136 = .ok (.bipush 8, 2) := by decide +kernel
theorem dX8_count_138 : decode cX8_count 138 = .ok (.iaload, 1) := by decide +kernel
theorem dX8_count_139 : decode cX8_count 139 = .ok (.ireturn, 1) := by decide +kernel
theorem dX8_count_140 : decode cX8_count 140 = .ok (.aload_n 0, 1) := by decide +kernel
theorem dX8_count_141 : decode cX8_count 141 = .ok (.getfield 121, 3) := by decide +kernel
theorem dX8_count_144 : decode cX8_count 144 = .ok (.ireturn, 1) := by decide +kernel
theorem dX8_count_145 : decode cX8_count 145 = .ok (.aload_n 0, 1) := by decide +kernel
theorem dX8_count_146 : decode cX8_count 146 = .ok (.getfield 26, 3) := by decide +kernel
theorem dX8_count_149 : decode cX8_count 149 = .ok (.ireturn, 1) := by decide +kernel
theorem dX8_count_150 : decode cX8_count 150 = .ok (.iload_n 1, 1) := by decide +kernel
theorem dX8_count_151 : decode cX8_count 151 = .ok (.bipush 8, 2) := by decide +kernel
theorem dX8_count_153 : decode cX8_count 153 = .ok (.bipush 11, 2) := by decide +kernel
theorem dX8_count_155 : decode cX8_count 155 = .ok (.invokestatic 30, 3) := by decide +kernel
theorem dX8_count_158 : decode cX8_count 158 = .ok (.ifCond .eq 15, 3) := by decide +kernel
theorem dX8_count_161 : decode cX8_count 161 = .ok (.aload_n 0, 1) := by decide +kernel
theorem dX8_count_162 : decode cX8_count 162 = .ok (.getfield 7, 3) := by decide +kernel
theorem dX8_count_165 : decode cX8_count 165 = .ok (.iload_n 1, 1) := by decide +kernel
theorem dX8_count_166 : decode cX8_count 166 = .ok (.bipush 8, 2) := by decide +kernel
theorem dX8_count_168 : decode cX8_count 168 = .ok (.isub, 1) := by decide +kernel
theorem dX8_count_169 : decode cX8_count 169 = .ok (.iaload, 1) := by decide +kernel
theorem dX8_count_170 : decode cX8_count 170 = .ok (.goto 5, 3) := by decide +kernel
theorem dX8_count_173 : decode cX8_count 173 = .ok (.bipush (-2), 2) := by decide +kernel
theorem dX8_count_175 : decode cX8_count 175 = .ok (.ireturn, 1) := by decide +kernel
set_option maxRecDepth 20000 in
theorem ggX8_seen_X8_isPixel : GoodIn wsX8_seen wsX8_isPixel := goodIn_r _ [5, 6, 7, 4, 8] (by decide +kernel) (by decide +kernel)
set_option maxRecDepth 20000 in
theorem gX8_seen_X8_isPixel : GoodIn wsX8_seen (va_wsS RX8 100 yX8_isPixel wsX8_isPixel) := goodIn_app (goodIn_of _ (by decide +kernel)) ggX8_seen_X8_isPixel
set_option maxRecDepth 20000 in
theorem ggX8_seen_X8_in : GoodIn wsX8_seen wsX8_in := goodIn_r _ [8] (by decide +kernel) (by decide +kernel)
set_option maxRecDepth 20000 in
theorem gX8_seen_X8_in : GoodIn wsX8_seen (va_wsS RX8 30 yX8_in wsX8_in) := goodIn_app (goodIn_of _ (by decide +kernel)) ggX8_seen_X8_in
set_option maxRecDepth 20000 in
theorem ggX8_seen_X8_seenAt : GoodIn wsX8_seen wsX8_seenAt := goodIn_r _ [12, 1, 13, 14, 15, 4, 16, 17, 18, 19, 20, 6, 7, 8, 21, 22, 23, 24, 25, 26, 27, 28, 29, 30, 31, 32, 33, 34, 35, 36, 37, 38, 39, 40, 41, 42] (by decide +kernel) (by decide +kernel)
set_option maxRecDepth 20000 in
theorem gX8_seen_X8_seenAt : GoodIn wsX8_seen (wsV RX8 56 RX8 yX8_seenAt wsX8_seenAt) := goodIn_app (goodIn_of _ (by decide +kernel)) ggX8_seen_X8_seenAt
theorem dX8_seen_0 : decode cX8_seen 0 = .ok (.iload_n 1, 1) := by decide +kernel
theorem dX8_seen_1 : decode cX8_seen 1 = .ok (.iload_n 2, 1) := by decide +kernel
theorem dX8_seen_2 : decode cX8_seen 2 = .ok (.invokestatic 100, 3) := by decide +kernel
theorem dX8_seen_5 : decode cX8_seen 5 = .ok (.ifCond .ne 5, 3) := by decide +kernel
theorem dX8_seen_8 : decode cX8_seen 8 = .ok (.iconst (-1), 1) := by decide +kernel
theorem dX8_seen_9 : decode cX8_seen 9 = .ok (.ireturn, 1) := by decide +kernel
theorem dX8_seen_10 : decode cX8_seen 10 = .ok (.iload_n 3, 1) := by decide +kernel
theorem dX8_seen_11 : decode cX8_seen 11 = .ok (.iconst 0, 1) := by decide +kernel
theorem dX8_seen_12 : decode cX8_seen 12 = .ok (.bipush 99, 2) := by decide +kernel
theorem dX8_seen_14 : decode cX8_seen 14 = .ok (.invokestatic 30, 3) := by decide +kernel
theorem dX8_seen_17 : decode cX8_seen 17 = .ok (.ifCond .eq 20, 3) := by decide +kernel
theorem dX8_seen_20 : decode cX8_seen 20 = .ok (.aload_n 0, 1) := by decide +kernel
theorem dX8_seen_21 : decode cX8_seen 21 = .ok (.iload_n 1, 1) := by decide +kernel
theorem dX8_seen_22 : decode cX8_seen 22 = .ok (.iload_n 2, 1) := by decide +kernel
theorem dX8_seen_23 : decode cX8_seen 23 = .ok (.aload_n 0, 1) := by decide +kernel
theorem dX8_seen_24 : decode cX8_seen 24 = .ok (.getfield 7, 3) := by decide +kernel
theorem dX8_seen_27 : decode cX8_seen 27 = .ok (.iconst 4, 1) := by decide +kernel
theorem dX8_seen_28 : decode cX8_seen 28 = .ok (.iaload, 1) := by decide +kernel
theorem dX8_seen_29 : decode cX8_seen 29 = .ok (.iload_n 3, 1) := by decide +kernel
theorem dX8_seen_30 : decode cX8_seen 30 = .ok (.iadd, 1) := by decide +kernel
theorem dX8_seen_31 : decode cX8_seen 31 = .ok (.invokevirtual 56, 3) := by decide +kernel
theorem dX8_seen_34 : decode cX8_seen 34 = .ok (.goto 5, 3) := by decide +kernel
theorem dX8_seen_37 : decode cX8_seen 37 = .ok (.bipush (-2), 2) := by decide +kernel
theorem dX8_seen_39 : decode cX8_seen 39 = .ok (.ireturn, 1) := by decide +kernel
set_option maxRecDepth 20000 in
theorem ggX8_leans_X8_isThing : GoodIn wsX8_leans wsX8_isThing := goodIn_r _ [6, 1, 7, 8, 5, 9, 21, 22, 23, 24, 25, 26, 27] (by decide +kernel) (by decide +kernel)
set_option maxRecDepth 20000 in
theorem gX8_leans_X8_isThing : GoodIn wsX8_leans (wsV RX8 70 RX8 yX8_isThing wsX8_isThing) := goodIn_app (goodIn_of _ (by decide +kernel)) ggX8_leans_X8_isThing
set_option maxRecDepth 20000 in
theorem ggX8_leans_X8_its : GoodIn wsX8_leans wsX8_its := goodIn_r _ [13, 1, 21, 22, 23, 24, 25, 26, 27] (by decide +kernel) (by decide +kernel)
set_option maxRecDepth 20000 in
theorem gX8_leans_X8_its : GoodIn wsX8_leans (wsV RX8 34 RX8 yX8_its wsX8_its) := goodIn_app (goodIn_of _ (by decide +kernel)) ggX8_leans_X8_its
set_option maxRecDepth 20000 in
theorem ggX8_leans_X8_left : GoodIn wsX8_leans wsX8_left := goodIn_r _ [17, 10, 11, 12, 5, 13, 1, 18, 19, 20, 21, 22, 23, 24, 25, 26, 27] (by decide +kernel) (by decide +kernel)
set_option maxRecDepth 20000 in
theorem gX8_leans_X8_left : GoodIn wsX8_leans (wsV RX8 42 RX8 yX8_left wsX8_left) := goodIn_app (goodIn_of _ (by decide +kernel)) ggX8_leans_X8_left
theorem dX8_leans_0 : decode cX8_leans 0 = .ok (.aload_n 0, 1) := by decide +kernel
theorem dX8_leans_1 : decode cX8_leans 1 = .ok (.iload_n 1, 1) := by decide +kernel
theorem dX8_leans_2 : decode cX8_leans 2 = .ok (.invokevirtual 70, 3) := by decide +kernel
theorem dX8_leans_5 : decode cX8_leans 5 = .ok (.ifCond .ne 5, 3) := by decide +kernel
theorem dX8_leans_8 : decode cX8_leans 8 = .ok (.iconst (-1), 1) := by decide +kernel
theorem dX8_leans_9 : decode cX8_leans 9 = .ok (.ireturn, 1) := by decide +kernel
theorem dX8_leans_10 : decode cX8_leans 10 = .ok (.aload_n 0, 1) := by decide +kernel
theorem dX8_leans_11 : decode cX8_leans 11 = .ok (.getfield 7, 3) := by decide +kernel
theorem dX8_leans_14 : decode cX8_leans 14 = .ok (.iconst 4, 1) := by decide +kernel
theorem dX8_leans_15 : decode cX8_leans 15 = .ok (.iaload, 1) := by decide +kernel
theorem dX8_leans_16 : decode cX8_leans 16 = .ok (.aload_n 0, 1) := by decide +kernel
theorem dX8_leans_17 : decode cX8_leans 17 = .ok (.iload_n 1, 1) := by decide +kernel
theorem dX8_leans_18 : decode cX8_leans 18 = .ok (.iconst 0, 1) := by decide +kernel
theorem dX8_leans_19 : decode cX8_leans 19 = .ok (.invokevirtual 34, 3) := by decide +kernel
theorem dX8_leans_22 : decode cX8_leans 22 = .ok (.aload_n 0, 1) := by decide +kernel
theorem dX8_leans_23 : decode cX8_leans 23 = .ok (.getfield 7, 3) := by decide +kernel
theorem dX8_leans_26 : decode cX8_leans 26 = .ok (.iconst 0, 1) := by decide +kernel
theorem dX8_leans_27 : decode cX8_leans 27 = .ok (.iaload, 1) := by decide +kernel
theorem dX8_leans_28 : decode cX8_leans 28 = .ok (.imul, 1) := by decide +kernel
theorem dX8_leans_29 : decode cX8_leans 29 = .ok (.iadd, 1) := by decide +kernel
theorem dX8_leans_30 : decode cX8_leans 30 = .ok (.istore_n 2, 1) := by decide +kernel
theorem dX8_leans_31 : decode cX8_leans 31 = .ok (.iload_n 2, 1) := by decide +kernel
theorem dX8_leans_32 : decode cX8_leans 32 = .ok (.aload_n 0, 1) := by decide +kernel
theorem dX8_leans_33 : decode cX8_leans 33 = .ok (.iload_n 1, 1) := by decide +kernel
theorem dX8_leans_34 : decode cX8_leans 34 = .ok (.iconst 2, 1) := by decide +kernel
theorem dX8_leans_35 : decode cX8_leans 35 = .ok (.invokevirtual 34, 3) := by decide +kernel
theorem dX8_leans_38 : decode cX8_leans 38 = .ok (.iconst 1, 1) := by decide +kernel
theorem dX8_leans_39 : decode cX8_leans 39 = .ok (.isub, 1) := by decide +kernel
theorem dX8_leans_40 : decode cX8_leans 40 = .ok (.aload_n 0, 1) := by decide +kernel
theorem dX8_leans_41 : decode cX8_leans 41 = .ok (.getfield 7, 3) := by decide +kernel
theorem dX8_leans_44 : decode cX8_leans 44 = .ok (.iconst 0, 1) := by decide +kernel
theorem dX8_leans_45 : decode cX8_leans 45 = .ok (.iaload, 1) := by decide +kernel
theorem dX8_leans_46 : decode cX8_leans 46 = .ok (.imul, 1) := by decide +kernel
theorem dX8_leans_47 : decode cX8_leans 47 = .ok (.iadd, 1) := by decide +kernel
theorem dX8_leans_48 : decode cX8_leans 48 = .ok (.istore_n 3, 1) := by decide +kernel
theorem dX8_leans_49 : decode cX8_leans 49 = .ok (.aload_n 0, 1) := by decide +kernel
theorem dX8_leans_50 : decode cX8_leans 50 = .ok (.iload_n 1, 1) := by decide +kernel
theorem dX8_leans_51 : decode cX8_leans 51 = .ok (.iload_n 3, 1) := by decide +kernel
theorem dX8_leans_52 : decode cX8_leans 52 = .ok (.invokevirtual 42, 3) := by decide +kernel
theorem dX8_leans_55 : decode cX8_leans 55 = .ok (.aload_n 0, 1) := by decide +kernel
theorem dX8_leans_56 : decode cX8_leans 56 = .ok (.iload_n 1, 1) := by decide +kernel
theorem dX8_leans_57 : decode cX8_leans 57 = .ok (.iload_n 2, 1) := by decide +kernel
theorem dX8_leans_58 : decode cX8_leans 58 = .ok (.invokevirtual 42, 3) := by decide +kernel
theorem dX8_leans_61 : decode cX8_leans 61 = .ok (.isub, 1) := by decide +kernel
theorem dX8_leans_62 : decode cX8_leans 62 = .ok (.sipush 1000, 3) := by decide +kernel
theorem dX8_leans_65 : decode cX8_leans 65 = .ok (.iadd, 1) := by decide +kernel
theorem dX8_leans_66 : decode cX8_leans 66 = .ok (.ireturn, 1) := by decide +kernel
set_option maxRecDepth 20000 in
theorem ggX8_bent_X8_exposed : GoodIn wsX8_bent wsX8_exposed := goodIn_r _ [6, 1, 7, 8, 9, 5, 10, 11, 12, 13, 14, 15, 16, 17, 18, 19, 20, 21, 22, 23, 24, 25, 26, 27, 28, 29, 30, 31, 32, 33, 34, 35, 36, 37, 38, 39, 40, 41, 42, 43] (by decide +kernel) (by decide +kernel)
set_option maxRecDepth 20000 in
theorem gX8_bent_X8_exposed : GoodIn wsX8_bent (wsV RX8 87 RX8 yX8_exposed wsX8_exposed) := goodIn_app (goodIn_of _ (by decide +kernel)) ggX8_bent_X8_exposed
theorem dX8_bent_0 : decode cX8_bent 0 = .ok (.iconst 0, 1) := by decide +kernel
theorem dX8_bent_1 : decode cX8_bent 1 = .ok (.istore_n 1, 1) := by decide +kernel
theorem dX8_bent_2 : decode cX8_bent 2 = .ok (.iconst 0, 1) := by decide +kernel
theorem dX8_bent_3 : decode cX8_bent 3 = .ok (.istore_n 2, 1) := by decide +kernel
theorem dX8_bent_4 : decode cX8_bent 4 = .ok (.iload_n 2, 1) := by decide +kernel
theorem dX8_bent_5 : decode cX8_bent 5 = .ok (.sipush 384, 3) := by decide +kernel
theorem dX8_bent_8 : decode cX8_bent 8 = .ok (.if_icmp .ge 70, 3) := by decide +kernel
theorem dX8_bent_11 : decode cX8_bent 11 = .ok (.aload_n 0, 1) := by decide +kernel
theorem dX8_bent_12 : decode cX8_bent 12 = .ok (.iload_n 2, 1) := by decide +kernel
theorem dX8_bent_13 : decode cX8_bent 13 = .ok (.bipush 24, 2) := by decide +kernel
theorem dX8_bent_15 : decode cX8_bent 15 = .ok (.idiv, 1) := by decide +kernel
theorem dX8_bent_16 : decode cX8_bent 16 = .ok (.iload_n 2, 1) := by decide +kernel
theorem dX8_bent_17 : decode cX8_bent 17 = .ok (.bipush 24, 2) := by decide +kernel
theorem dX8_bent_19 : decode cX8_bent 19 = .ok (.irem, 1) := by decide +kernel
theorem dX8_bent_20 : decode cX8_bent 20 = .ok (.aload_n 0, 1) := by decide +kernel
theorem dX8_bent_21 : decode cX8_bent 21 = .ok (.getfield 7, 3) := by decide +kernel
theorem dX8_bent_24 : decode cX8_bent 24 = .ok (.iconst 4, 1) := by decide +kernel
theorem dX8_bent_25 : decode cX8_bent 25 = .ok (.iaload, 1) := by decide +kernel
theorem dX8_bent_26 : decode cX8_bent 26 = .ok (.iload_n 2, 1) := by decide +kernel
theorem dX8_bent_27 : decode cX8_bent 27 = .ok (.bipush 24, 2) := by decide +kernel
theorem dX8_bent_29 : decode cX8_bent 29 = .ok (.idiv, 1) := by decide +kernel
theorem dX8_bent_30 : decode cX8_bent 30 = .ok (.aload_n 0, 1) := by decide +kernel
theorem dX8_bent_31 : decode cX8_bent 31 = .ok (.getfield 7, 3) := by decide +kernel
theorem dX8_bent_34 : decode cX8_bent 34 = .ok (.iconst 0, 1) := by decide +kernel
theorem dX8_bent_35 : decode cX8_bent 35 = .ok (.iaload, 1) := by decide +kernel
theorem dX8_bent_36 : decode cX8_bent 36 = .ok (.imul, 1) := by decide +kernel
theorem dX8_bent_37 : decode cX8_bent 37 = .ok (.iadd, 1) := by decide +kernel
theorem dX8_bent_38 : decode cX8_bent 38 = .ok (.invokevirtual 87, 3) := by decide +kernel
theorem dX8_bent_41 : decode cX8_bent 41 = .ok (.istore_n 3, 1) := by decide +kernel
theorem dX8_bent_42 : decode cX8_bent 42 = .ok (.iload_n 1, 1) := by decide +kernel
theorem dX8_bent_43 : decode cX8_bent 43 = .ok (.iload_n 3, 1) := by decide +kernel
theorem dX8_bent_44 : decode cX8_bent 44 = .ok (.aload_n 0, 1) := by decide +kernel
theorem dX8_bent_45 : decode cX8_bent 45 = .ok (.iload_n 2, 1) := by decide +kernel
theorem dX8_bent_46 : decode cX8_bent 46 = .ok (.bipush 24, 2) := by decide +kernel
theorem dX8_bent_48 : decode cX8_bent 48 = .ok (.idiv, 1) := by decide +kernel
theorem dX8_bent_49 : decode cX8_bent 49 = .ok (.iload_n 2, 1) := by decide +kernel
theorem dX8_bent_50 : decode cX8_bent 50 = .ok (.bipush 24, 2) := by decide +kernel
theorem dX8_bent_52 : decode cX8_bent 52 = .ok (.irem, 1) := by decide +kernel
theorem dX8_bent_53 : decode cX8_bent 53 = .ok (.aload_n 0, 1) := by decide +kernel
theorem dX8_bent_54 : decode cX8_bent 54 = .ok (.getfield 7, 3) := by decide +kernel
theorem dX8_bent_57 : decode cX8_bent 57 = .ok (.iconst 4, 1) := by decide +kernel
theorem dX8_bent_58 : decode cX8_bent 58 = .ok (.iaload, 1) := by decide +kernel
theorem dX8_bent_59 : decode cX8_bent 59 = .ok (.invokevirtual 87, 3) := by decide +kernel
theorem dX8_bent_62 : decode cX8_bent 62 = .ok (.if_icmp .ne 7, 3) := by decide +kernel
theorem dX8_bent_65 : decode cX8_bent 65 = .ok (.iconst 0, 1) := by decide +kernel
theorem dX8_bent_66 : decode cX8_bent 66 = .ok (.goto 4, 3) := by decide +kernel
theorem dX8_bent_69 : decode cX8_bent 69 = .ok (.iconst 1, 1) := by decide +kernel
theorem dX8_bent_70 : decode cX8_bent 70 = .ok (.iadd, 1) := by decide +kernel
theorem dX8_bent_71 : decode cX8_bent 71 = .ok (.istore_n 1, 1) := by decide +kernel
theorem dX8_bent_72 : decode cX8_bent 72 = .ok (.iinc 2 1, 3) := by decide +kernel
theorem dX8_bent_75 : decode cX8_bent 75 = .ok (.goto (-71), 3) := by decide +kernel
theorem dX8_bent_78 : decode cX8_bent 78 = .ok (.iload_n 1, 1) := by decide +kernel
theorem dX8_bent_79 : decode cX8_bent 79 = .ok (.ireturn, 1) := by decide +kernel
set_option maxRecDepth 20000 in
theorem ggX8_burnsIn_X8_in : GoodIn wsX8_burnsIn wsX8_in := goodIn_r _ [5] (by decide +kernel) (by decide +kernel)
set_option maxRecDepth 20000 in
theorem gX8_burnsIn_X8_in : GoodIn wsX8_burnsIn (va_wsS RX8 30 yX8_in wsX8_in) := goodIn_app (goodIn_of _ (by decide +kernel)) ggX8_burnsIn_X8_in
theorem dX8_burnsIn_0 : decode cX8_burnsIn 0 = .ok (.iconst 0, 1) := by decide +kernel
theorem dX8_burnsIn_1 : decode cX8_burnsIn 1 = .ok (.istore_n 3, 1) := by decide +kernel
theorem dX8_burnsIn_2 : decode cX8_burnsIn 2 = .ok (.iconst 0, 1) := by decide +kernel
theorem dX8_burnsIn_3 : decode cX8_burnsIn 3 = .ok (.istore 4, 2) := by decide +kernel
theorem dX8_burnsIn_5 : decode cX8_burnsIn 5 = .ok (.iload 4, 2) := by decide +kernel
theorem dX8_burnsIn_7 : decode cX8_burnsIn 7 = .ok (.bipush 16, 2) := by decide +kernel
theorem dX8_burnsIn_9 : decode cX8_burnsIn 9 = .ok (.if_icmp .ge 71, 3) := by decide +kernel
theorem dX8_burnsIn_12 : decode cX8_burnsIn 12 = .ok (.iconst 0, 1) := by decide +kernel
theorem dX8_burnsIn_13 : decode cX8_burnsIn 13 = .ok (.istore 5, 2) := by decide +kernel
theorem dX8_burnsIn_15 : decode cX8_burnsIn 15 = .ok (.iload 5, 2) := by decide +kernel
theorem dX8_burnsIn_17 : decode cX8_burnsIn 17 = .ok (.aload_n 0, 1) := by decide +kernel
theorem dX8_burnsIn_18 : decode cX8_burnsIn 18 = .ok (.getfield 7, 3) := by decide +kernel
theorem dX8_burnsIn_21 : decode cX8_burnsIn 21 = .ok (.iconst 1, 1) := by decide +kernel
theorem dX8_burnsIn_22 : decode cX8_burnsIn 22 = .ok (.iaload, 1) := by decide +kernel
theorem dX8_burnsIn_23 : decode cX8_burnsIn 23 = .ok (.if_icmp .ge 51, 3) := by decide +kernel
theorem dX8_burnsIn_26 : decode cX8_burnsIn 26 = .ok (.iload_n 3, 1) := by decide +kernel
theorem dX8_burnsIn_27 : decode cX8_burnsIn 27 = .ok (.aload_n 0, 1) := by decide +kernel
theorem dX8_burnsIn_28 : decode cX8_burnsIn 28 = .ok (.getfield 7, 3) := by decide +kernel
theorem dX8_burnsIn_31 : decode cX8_burnsIn 31 = .ok (.iconst 4, 1) := by decide +kernel
theorem dX8_burnsIn_32 : decode cX8_burnsIn 32 = .ok (.iaload, 1) := by decide +kernel
theorem dX8_burnsIn_33 : decode cX8_burnsIn 33 = .ok (.iload 4, 2) := by decide +kernel
theorem dX8_burnsIn_35 : decode cX8_burnsIn 35 = .ok (.aload_n 0, 1) := by decide +kernel
theorem dX8_burnsIn_36 : decode cX8_burnsIn 36 = .ok (.getfield 7, 3) := by decide +kernel
theorem dX8_burnsIn_39 : decode cX8_burnsIn 39 = .ok (.iconst 0, 1) := by decide +kernel
theorem dX8_burnsIn_40 : decode cX8_burnsIn 40 = .ok (.iaload, 1) := by decide +kernel
theorem dX8_burnsIn_41 : decode cX8_burnsIn 41 = .ok (.imul, 1) := by decide +kernel
theorem dX8_burnsIn_42 : decode cX8_burnsIn 42 = .ok (.iadd, 1) := by decide +kernel
theorem dX8_burnsIn_43 : decode cX8_burnsIn 43 = .ok (.iload 5, 2) := by decide +kernel
theorem dX8_burnsIn_45 : decode cX8_burnsIn 45 = .ok (.iadd, 1) := by decide +kernel
theorem dX8_burnsIn_46 : decode cX8_burnsIn 46 = .ok (.iload_n 1, 1) := by decide +kernel
theorem dX8_burnsIn_47 : decode cX8_burnsIn 47 = .ok (.iload_n 1, 1) := by decide +kernel
theorem dX8_burnsIn_48 : decode cX8_burnsIn 48 = .ok (.iload_n 2, 1) := by decide +kernel
theorem dX8_burnsIn_49 : decode cX8_burnsIn 49 = .ok (.iadd, 1) := by decide +kernel
theorem dX8_burnsIn_50 : decode cX8_burnsIn 50 = .ok (.iconst 1, 1) := by decide +kernel
theorem dX8_burnsIn_51 : decode cX8_burnsIn 51 = .ok (.isub, 1) := by decide +kernel
theorem dX8_burnsIn_52 : decode cX8_burnsIn 52 = .ok (.invokestatic 30, 3) := by decide +kernel
theorem dX8_burnsIn_55 : decode cX8_burnsIn 55 = .ok (.ifCond .eq 10, 3) := by decide +kernel
theorem dX8_burnsIn_58 : decode cX8_burnsIn 58 = .ok (.iconst 1, 1) := by decide +kernel
theorem dX8_burnsIn_59 : decode cX8_burnsIn 59 = .ok (.iload 4, 2) := by decide +kernel
theorem dX8_burnsIn_61 : decode cX8_burnsIn 61 = .ok (.ishl, 1) := by decide +kernel
theorem dX8_burnsIn_62 : decode cX8_burnsIn 62 = .ok (.goto 4, 3) := by decide +kernel
theorem dX8_burnsIn_65 : decode cX8_burnsIn 65 = .ok (.iconst 0, 1) := by decide +kernel
theorem dX8_burnsIn_66 : decode cX8_burnsIn 66 = .ok (.ior, 1) := by decide +kernel
theorem dX8_burnsIn_67 : decode cX8_burnsIn 67 = .ok (.istore_n 3, 1) := by decide +kernel
theorem dX8_burnsIn_68 : decode cX8_burnsIn 68 = .ok (.iinc 5 1, 3) := by decide +kernel
theorem dX8_burnsIn_71 : decode cX8_burnsIn 71 = .ok (.goto (-56), 3) := by decide +kernel
theorem dX8_burnsIn_74 : decode cX8_burnsIn 74 = .ok (.iinc 4 1, 3) := by decide +kernel
theorem dX8_burnsIn_77 : decode cX8_burnsIn 77 = .ok (.goto (-72), 3) := by decide +kernel
theorem dX8_burnsIn_80 : decode cX8_burnsIn 80 = .ok (.iload_n 3, 1) := by decide +kernel
theorem dX8_burnsIn_81 : decode cX8_burnsIn 81 = .ok (.ireturn, 1) := by decide +kernel
set_option maxRecDepth 20000 in
theorem ggX8_flashed_X8_burnsIn : GoodIn wsX8_flashed wsX8_burnsIn := goodIn_r _ [6, 1, 7, 8, 5, 9, 10, 11, 12, 13, 14, 15, 16] (by decide +kernel) (by decide +kernel)
set_option maxRecDepth 20000 in
theorem gX8_flashed_X8_burnsIn : GoodIn wsX8_flashed (wsV RX8 124 RX8 yX8_burnsIn wsX8_burnsIn) := goodIn_app (goodIn_of _ (by decide +kernel)) ggX8_flashed_X8_burnsIn
theorem dX8_flashed_0 : decode cX8_flashed 0 = .ok (.aload_n 0, 1) := by decide +kernel
theorem dX8_flashed_1 : decode cX8_flashed 1 = .ok (.getfield 7, 3) := by decide +kernel
theorem dX8_flashed_4 : decode cX8_flashed 4 = .ok (.bipush 7, 2) := by decide +kernel
theorem dX8_flashed_6 : decode cX8_flashed 6 = .ok (.iaload, 1) := by decide +kernel
theorem dX8_flashed_7 : decode cX8_flashed 7 = .ok (.ifCond .ge 7, 3) := by decide +kernel
theorem dX8_flashed_10 : decode cX8_flashed 10 = .ok (.iconst 0, 1) := by decide +kernel
theorem dX8_flashed_11 : decode cX8_flashed 11 = .ok (.goto 21, 3) := by decide +kernel
theorem dX8_flashed_14 : decode cX8_flashed 14 = .ok (.aload_n 0, 1) := by decide +kernel
theorem dX8_flashed_15 : decode cX8_flashed 15 = .ok (.aload_n 0, 1) := by decide +kernel
theorem dX8_flashed_16 : decode cX8_flashed 16 = .ok (.getfield 7, 3) := by decide +kernel
theorem dX8_flashed_19 : decode cX8_flashed 19 = .ok (.bipush 7, 2) := by decide +kernel
theorem dX8_flashed_21 : decode cX8_flashed 21 = .ok (.iaload, 1) := by decide +kernel
theorem dX8_flashed_22 : decode cX8_flashed 22 = .ok (.aload_n 0, 1) := by decide +kernel
theorem dX8_flashed_23 : decode cX8_flashed 23 = .ok (.getfield 7, 3) := by decide +kernel
theorem dX8_flashed_26 : decode cX8_flashed 26 = .ok (.bipush 8, 2) := by decide +kernel
theorem dX8_flashed_28 : decode cX8_flashed 28 = .ok (.iaload, 1) := by decide +kernel
theorem dX8_flashed_29 : decode cX8_flashed 29 = .ok (.invokevirtual 124, 3) := by decide +kernel
theorem dX8_flashed_32 : decode cX8_flashed 32 = .ok (.ireturn, 1) := by decide +kernel
theorem dX8_ones_0 : decode cX8_ones 0 = .ok (.iconst 0, 1) := by decide +kernel
theorem dX8_ones_1 : decode cX8_ones 1 = .ok (.istore_n 1, 1) := by decide +kernel
theorem dX8_ones_2 : decode cX8_ones 2 = .ok (.iconst 0, 1) := by decide +kernel
theorem dX8_ones_3 : decode cX8_ones 3 = .ok (.istore_n 2, 1) := by decide +kernel
theorem dX8_ones_4 : decode cX8_ones 4 = .ok (.iload_n 2, 1) := by decide +kernel
theorem dX8_ones_5 : decode cX8_ones 5 = .ok (.bipush 16, 2) := by decide +kernel
theorem dX8_ones_7 : decode cX8_ones 7 = .ok (.if_icmp .ge 17, 3) := by decide +kernel
theorem dX8_ones_10 : decode cX8_ones 10 = .ok (.iload_n 1, 1) := by decide +kernel
theorem dX8_ones_11 : decode cX8_ones 11 = .ok (.iload_n 0, 1) := by decide +kernel
theorem dX8_ones_12 : decode cX8_ones 12 = .ok (.iload_n 2, 1) := by decide +kernel
theorem dX8_ones_13 : decode cX8_ones 13 = .ok (.ishr, 1) := by decide +kernel
theorem dX8_ones_14 : decode cX8_ones 14 = .ok (.iconst 1, 1) := by decide +kernel
theorem dX8_ones_15 : decode cX8_ones 15 = .ok (.iand, 1) := by decide +kernel
theorem dX8_ones_16 : decode cX8_ones 16 = .ok (.iadd, 1) := by decide +kernel
theorem dX8_ones_17 : decode cX8_ones 17 = .ok (.istore_n 1, 1) := by decide +kernel
theorem dX8_ones_18 : decode cX8_ones 18 = .ok (.iinc 2 1, 3) := by decide +kernel
theorem dX8_ones_21 : decode cX8_ones 21 = .ok (.goto (-17), 3) := by decide +kernel
theorem dX8_ones_24 : decode cX8_ones 24 = .ok (.iload_n 1, 1) := by decide +kernel
theorem dX8_ones_25 : decode cX8_ones 25 = .ok (.ireturn, 1) := by decide +kernel
set_option maxRecDepth 20000 in
theorem ggX8_bestFlash_X8_in : GoodIn wsX8_bestFlash wsX8_in := goodIn_r _ [5] (by decide +kernel) (by decide +kernel)
set_option maxRecDepth 20000 in
theorem gX8_bestFlash_X8_in : GoodIn wsX8_bestFlash (va_wsS RX8 30 yX8_in wsX8_in) := goodIn_app (goodIn_of _ (by decide +kernel)) ggX8_bestFlash_X8_in
set_option maxRecDepth 20000 in
theorem ggX8_bestFlash_X8_burnsIn : GoodIn wsX8_bestFlash wsX8_burnsIn := goodIn_r _ [9, 1, 2, 3, 4, 5, 13, 14, 15, 16, 17, 18, 19] (by decide +kernel) (by decide +kernel)
set_option maxRecDepth 20000 in
theorem gX8_bestFlash_X8_burnsIn : GoodIn wsX8_bestFlash (wsV RX8 124 RX8 yX8_burnsIn wsX8_burnsIn) := goodIn_app (goodIn_of _ (by decide +kernel)) ggX8_bestFlash_X8_burnsIn
set_option maxRecDepth 20000 in
theorem ggX8_bestFlash_X8_ones : GoodIn wsX8_bestFlash wsX8_ones := goodIn_r _ [12] (by decide +kernel) (by decide +kernel)
set_option maxRecDepth 20000 in
theorem gX8_bestFlash_X8_ones : GoodIn wsX8_bestFlash (va_wsS RX8 127 yX8_ones wsX8_ones) := goodIn_app (goodIn_of _ (by decide +kernel)) ggX8_bestFlash_X8_ones
theorem dX8_bestFlash_0 : decode cX8_bestFlash 0 = .ok (.iload_n 1, 1) := by decide +kernel
theorem dX8_bestFlash_1 : decode cX8_bestFlash 1 = .ok (.iconst 1, 1) := by decide +kernel
theorem dX8_bestFlash_2 : decode cX8_bestFlash 2 = .ok (.bipush 20, 2) := by decide +kernel
theorem dX8_bestFlash_4 : decode cX8_bestFlash 4 = .ok (.invokestatic 30, 3) := by decide +kernel
theorem dX8_bestFlash_7 : decode cX8_bestFlash 7 = .ok (.ifCond .eq 12, 3) := by decide +kernel
theorem dX8_bestFlash_10 : decode cX8_bestFlash 10 = .ok (.iload_n 2, 1) := by decide +kernel
theorem dX8_bestFlash_11 : decode cX8_bestFlash 11 = .ok (.iconst 0, 1) := by decide +kernel
theorem dX8_bestFlash_12 : decode cX8_bestFlash 12 = .ok (.iconst 1, 1) := by decide +kernel
theorem dX8_bestFlash_13 : decode cX8_bestFlash 13 = .ok (.invokestatic 30, 3) := by decide +kernel
theorem dX8_bestFlash_16 : decode cX8_bestFlash 16 = .ok (.ifCond .ne 6, 3) := by decide +kernel
theorem dX8_bestFlash_19 : decode cX8_bestFlash 19 = .ok (.bipush (-2), 2) := by decide +kernel
theorem dX8_bestFlash_21 : decode cX8_bestFlash 21 = .ok (.ireturn, 1) := by decide +kernel
theorem dX8_bestFlash_22 : decode cX8_bestFlash 22 = .ok (.iconst 0, 1) := by decide +kernel
theorem dX8_bestFlash_23 : decode cX8_bestFlash 23 = .ok (.istore_n 3, 1) := by decide +kernel
theorem dX8_bestFlash_24 : decode cX8_bestFlash 24 = .ok (.iconst (-1), 1) := by decide +kernel
theorem dX8_bestFlash_25 : decode cX8_bestFlash 25 = .ok (.istore 4, 2) := by decide +kernel
theorem dX8_bestFlash_27 : decode cX8_bestFlash 27 = .ok (.iconst 0, 1) := by decide +kernel
theorem dX8_bestFlash_28 : decode cX8_bestFlash 28 = .ok (.istore 5, 2) := by decide +kernel
theorem dX8_bestFlash_30 : decode cX8_bestFlash 30 = .ok (.iload 5, 2) := by decide +kernel
theorem dX8_bestFlash_32 : decode cX8_bestFlash 32 = .ok (.bipush 99, 2) := by decide +kernel
theorem dX8_bestFlash_34 : decode cX8_bestFlash 34 = .ok (.if_icmp .gt 58, 3) := by decide +kernel
theorem dX8_bestFlash_37 : decode cX8_bestFlash 37 = .ok (.aload_n 0, 1) := by decide +kernel
theorem dX8_bestFlash_38 : decode cX8_bestFlash 38 = .ok (.aload_n 0, 1) := by decide +kernel
theorem dX8_bestFlash_39 : decode cX8_bestFlash 39 = .ok (.getfield 7, 3) := by decide +kernel
theorem dX8_bestFlash_42 : decode cX8_bestFlash 42 = .ok (.iconst 4, 1) := by decide +kernel
theorem dX8_bestFlash_43 : decode cX8_bestFlash 43 = .ok (.iaload, 1) := by decide +kernel
theorem dX8_bestFlash_44 : decode cX8_bestFlash 44 = .ok (.iload 5, 2) := by decide +kernel
theorem dX8_bestFlash_46 : decode cX8_bestFlash 46 = .ok (.iadd, 1) := by decide +kernel
theorem dX8_bestFlash_47 : decode cX8_bestFlash 47 = .ok (.iload_n 1, 1) := by decide +kernel
theorem dX8_bestFlash_48 : decode cX8_bestFlash 48 = .ok (.invokevirtual 124, 3) := by decide +kernel
theorem dX8_bestFlash_51 : decode cX8_bestFlash 51 = .ok (.invokestatic 127, 3) := by decide +kernel
theorem dX8_bestFlash_54 : decode cX8_bestFlash 54 = .ok (.istore 6, 2) := by decide +kernel
theorem dX8_bestFlash_56 : decode cX8_bestFlash 56 = .ok (.iload 6, 2) := by decide +kernel
theorem dX8_bestFlash_58 : decode cX8_bestFlash 58 = .ok (.iload 4, 2) := by decide +kernel
theorem dX8_bestFlash_60 : decode cX8_bestFlash 60 = .ok (.if_icmp .le 8, 3) := by decide +kernel
theorem dX8_bestFlash_63 : decode cX8_bestFlash 63 = .ok (.iload 5, 2) := by decide +kernel
theorem dX8_bestFlash_65 : decode cX8_bestFlash 65 = .ok (.goto 4, 3) := by decide +kernel
theorem dX8_bestFlash_68 : decode cX8_bestFlash 68 = .ok (.iload_n 3, 1) := by decide +kernel
theorem dX8_bestFlash_69 : decode cX8_bestFlash 69 = .ok (.istore_n 3, 1) := by decide +kernel
theorem dX8_bestFlash_70 : decode cX8_bestFlash 70 = .ok (.iload 6, 2) := by decide +kernel
theorem dX8_bestFlash_72 : decode cX8_bestFlash 72 = .ok (.iload 4, 2) := by decide +kernel
theorem dX8_bestFlash_74 : decode cX8_bestFlash 74 = .ok (.if_icmp .le 8, 3) := by decide +kernel
theorem dX8_bestFlash_77 : decode cX8_bestFlash 77 = .ok (.iload 6, 2) := by decide +kernel
theorem dX8_bestFlash_79 : decode cX8_bestFlash 79 = .ok (.goto 5, 3) := by decide +kernel
theorem dX8_bestFlash_82 : decode cX8_bestFlash 82 = .ok (.iload 4, 2) := by decide +kernel
theorem dX8_bestFlash_84 : decode cX8_bestFlash 84 = .ok (.istore 4, 2) := by decide +kernel
theorem dX8_bestFlash_86 : decode cX8_bestFlash 86 = .ok (.iinc 5 1, 3) := by decide +kernel
theorem dX8_bestFlash_89 : decode cX8_bestFlash 89 = .ok (.goto (-59), 3) := by decide +kernel
theorem dX8_bestFlash_92 : decode cX8_bestFlash 92 = .ok (.iload_n 2, 1) := by decide +kernel
theorem dX8_bestFlash_93 : decode cX8_bestFlash 93 = .ok (.ifCond .ne 7, 3) := by decide +kernel
theorem dX8_bestFlash_96 : decode cX8_bestFlash 96 = .ok (.iload_n 3, 1) := by decide +kernel
theorem dX8_bestFlash_97 : decode cX8_bestFlash 97 = .ok (.goto 5, 3) := by decide +kernel
theorem dX8_bestFlash_100 : decode cX8_bestFlash 100 = .ok (.iload 4, 2) := by decide +kernel
theorem dX8_bestFlash_102 : decode cX8_bestFlash 102 = .ok (.ireturn, 1) := by decide +kernel
set_option maxRecDepth 20000 in
theorem ggX8_put_X8_in : GoodIn wsX8_put wsX8_in := goodIn_r _ [7] (by decide +kernel) (by decide +kernel)
set_option maxRecDepth 20000 in
theorem gX8_put_X8_in : GoodIn wsX8_put (va_wsS RX8 30 yX8_in wsX8_in) := goodIn_app (goodIn_of _ (by decide +kernel)) ggX8_put_X8_in
theorem dX8_put_0 : decode cX8_put 0 = .ok (.iconst 0, 1) := by decide +kernel
theorem dX8_put_1 : decode cX8_put 1 = .ok (.istore_n 3, 1) := by decide +kernel
theorem dX8_put_2 : decode cX8_put 2 = .ok (.iconst 1, 1) := by decide +kernel
theorem dX8_put_3 : decode cX8_put 3 = .ok (.istore 4, 2) := by decide +kernel
theorem dX8_put_5 : decode cX8_put 5 = .ok (.iconst 0, 1) := by decide +kernel
theorem dX8_put_6 : decode cX8_put 6 = .ok (.istore 5, 2) := by decide +kernel
theorem dX8_put_8 : decode cX8_put 8 = .ok (.iconst 0, 1) := by decide +kernel
theorem dX8_put_9 : decode cX8_put 9 = .ok (.istore 6, 2) := by decide +kernel
theorem dX8_put_11 : decode cX8_put 11 = .ok (.iload 6, 2) := by decide +kernel
theorem dX8_put_13 : decode cX8_put 13 = .ok (.bipush 8, 2) := by decide +kernel
theorem dX8_put_15 : decode cX8_put 15 = .ok (.if_icmp .ge 90, 3) := by decide +kernel
theorem dX8_put_18 : decode cX8_put 18 = .ok (.lload_n 1, 1) := by decide +kernel
theorem dX8_put_19 : decode cX8_put 19 = .ok (.bipush 8, 2) := by decide +kernel
theorem dX8_put_21 : decode cX8_put 21 = .ok (.iload 6, 2) := by decide +kernel
theorem dX8_put_23 : decode cX8_put 23 = .ok (.imul, 1) := by decide +kernel
theorem dX8_put_24 : decode cX8_put 24 = .ok (.lshr, 1) := by decide +kernel
theorem dX8_put_25 : decode cX8_put 25 = .ok (.ldc2_w 130, 3) := by decide +kernel
theorem dX8_put_28 : decode cX8_put 28 = .ok (.land, 1) := by decide +kernel
theorem dX8_put_29 : decode cX8_put 29 = .ok (.l2i, 1) := by decide +kernel
theorem dX8_put_30 : decode cX8_put 30 = .ok (.istore 7, 2) := by decide +kernel
theorem dX8_put_32 : decode cX8_put 32 = .ok (.iload 5, 2) := by decide +kernel
theorem dX8_put_34 : decode cX8_put 34 = .ok (.ifCond .ne 8, 3) := by decide +kernel
theorem dX8_put_37 : decode cX8_put 37 = .ok (.iload 7, 2) := by decide +kernel
theorem dX8_put_39 : decode cX8_put 39 = .ok (.ifCond .ne 7, 3) := by decide +kernel
theorem dX8_put_42 : decode cX8_put 42 = .ok (.iconst 1, 1) := by decide +kernel
theorem dX8_put_43 : decode cX8_put 43 = .ok (.goto 4, 3) := by decide +kernel
theorem dX8_put_46 : decode cX8_put 46 = .ok (.iconst 0, 1) := by decide +kernel
theorem dX8_put_47 : decode cX8_put 47 = .ok (.istore 5, 2) := by decide +kernel
theorem dX8_put_49 : decode cX8_put 49 = .ok (.iload 4, 2) := by decide +kernel
theorem dX8_put_51 : decode cX8_put 51 = .ok (.ifCond .eq 32, 3) := by decide +kernel
theorem dX8_put_54 : decode cX8_put 54 = .ok (.iload 5, 2) := by decide +kernel
theorem dX8_put_56 : decode cX8_put 56 = .ok (.ifCond .eq 11, 3) := by decide +kernel
theorem dX8_put_59 : decode cX8_put 59 = .ok (.iload 7, 2) := by decide +kernel
theorem dX8_put_61 : decode cX8_put 61 = .ok (.ifCond .ne 22, 3) := by decide +kernel
theorem dX8_put_64 : decode cX8_put 64 = .ok (.goto 15, 3) := by decide +kernel
theorem dX8_put_67 : decode cX8_put 67 = .ok (.iload 7, 2) := by decide +kernel
theorem dX8_put_69 : decode cX8_put 69 = .ok (.bipush 33, 2) := by decide +kernel
theorem dX8_put_71 : decode cX8_put 71 = .ok (.bipush 126, 2) := by decide +kernel
theorem dX8_put_73 : decode cX8_put 73 = .ok (.invokestatic 30, 3) := by decide +kernel
theorem dX8_put_76 : decode cX8_put 76 = .ok (.ifCond .eq 7, 3) := by decide +kernel
theorem dX8_put_79 : decode cX8_put 79 = .ok (.iconst 1, 1) := by decide +kernel
theorem dX8_put_80 : decode cX8_put 80 = .ok (.goto 4, 3) := by decide +kernel
theorem dX8_put_83 : decode cX8_put 83 = .ok (.iconst 0, 1) := by decide +kernel
theorem dX8_put_84 : decode cX8_put 84 = .ok (.istore 4, 2) := by decide +kernel
theorem dX8_put_86 : decode cX8_put 86 = .ok (.iload_n 3, 1) := by decide +kernel
theorem dX8_put_87 : decode cX8_put 87 = .ok (.iload 5, 2) := by decide +kernel
theorem dX8_put_89 : decode cX8_put 89 = .ok (.ifCond .eq 7, 3) := by decide +kernel
theorem dX8_put_92 : decode cX8_put 92 = .ok (.iconst 0, 1) := by decide +kernel
theorem dX8_put_93 : decode cX8_put 93 = .ok (.goto 4, 3) := by decide +kernel
theorem dX8_put_96 : decode cX8_put 96 = .ok (.iconst 1, 1) := by decide +kernel
theorem dX8_put_97 : decode cX8_put 97 = .ok (.iadd, 1) := by decide +kernel
theorem dX8_put_98 : decode cX8_put 98 = .ok (.istore_n 3, 1) := by decide +kernel
theorem dX8_put_99 : decode cX8_put 99 = .ok (.iinc 6 1, 3) := by decide +kernel
theorem dX8_put_102 : decode cX8_put 102 = .ok (.goto (-91), 3) := by decide +kernel
theorem dX8_put_105 : decode cX8_put 105 = .ok (.iload 4, 2) := by decide +kernel
theorem dX8_put_107 : decode cX8_put 107 = .ok (.ifCond .eq 7, 3) := by decide +kernel
theorem dX8_put_110 : decode cX8_put 110 = .ok (.iload_n 3, 1) := by decide +kernel
theorem dX8_put_111 : decode cX8_put 111 = .ok (.ifCond .ne 6, 3) := by decide +kernel
theorem dX8_put_114 : decode cX8_put 114 = .ok (.bipush (-2), 2) := by decide +kernel
theorem dX8_put_116 : decode cX8_put 116 = .ok (.ireturn, 1) := by decide +kernel
theorem dX8_put_117 : decode cX8_put 117 = .ok (.aload_n 0, 1) := by decide +kernel
theorem dX8_put_118 : decode cX8_put 118 = .ok (.getfield 121, 3) := by decide +kernel
theorem dX8_put_121 : decode cX8_put 121 = .ok (.iload_n 3, 1) := by decide +kernel
theorem dX8_put_122 : decode cX8_put 122 = .ok (.iadd, 1) := by decide +kernel
theorem dX8_put_123 : decode cX8_put 123 = .ok (.bipush 80, 2) := by decide +kernel
theorem dX8_put_125 : decode cX8_put 125 = .ok (.if_icmp .le 6, 3) := by decide +kernel
theorem dX8_put_128 : decode cX8_put 128 = .ok (.bipush (-4), 2) := by decide +kernel
theorem dX8_put_130 : decode cX8_put 130 = .ok (.ireturn, 1) := by decide +kernel
theorem dX8_put_131 : decode cX8_put 131 = .ok (.iload_n 3, 1) := by decide +kernel
theorem dX8_put_132 : decode cX8_put 132 = .ok (.iconst 1, 1) := by decide +kernel
theorem dX8_put_133 : decode cX8_put 133 = .ok (.isub, 1) := by decide +kernel
theorem dX8_put_134 : decode cX8_put 134 = .ok (.istore 6, 2) := by decide +kernel
theorem dX8_put_136 : decode cX8_put 136 = .ok (.iload 6, 2) := by decide +kernel
theorem dX8_put_138 : decode cX8_put 138 = .ok (.ifCond .lt 40, 3) := by decide +kernel
theorem dX8_put_141 : decode cX8_put 141 = .ok (.aload_n 0, 1) := by decide +kernel
theorem dX8_put_142 : decode cX8_put 142 = .ok (.getfield 23, 3) := by decide +kernel
theorem dX8_put_145 : decode cX8_put 145 = .ok (.aload_n 0, 1) := by decide +kernel
theorem dX8_put_146 : decode cX8_put 146 = .ok (.getfield 121, 3) := by decide +kernel
theorem dX8_put_149 : decode cX8_put 149 = .ok (.lload_n 1, 1) := by decide +kernel
theorem dX8_put_150 : decode cX8_put 150 = .ok (.bipush 8, 2) := by decide +kernel
theorem dX8_put_152 : decode cX8_put 152 = .ok (.iload 6, 2) := by decide +kernel
theorem dX8_put_154 : decode cX8_put 154 = .ok (.imul, 1) := by decide +kernel
theorem dX8_put_155 : decode cX8_put 155 = .ok (.lshr, 1) := by decide +kernel
theorem dX8_put_156 : decode cX8_put 156 = .ok (.ldc2_w 130, 3) := by decide +kernel
theorem dX8_put_159 : decode cX8_put 159 = .ok (.land, 1) := by decide +kernel
theorem dX8_put_160 : decode cX8_put 160 = .ok (.l2i, 1) := by decide +kernel
theorem dX8_put_161 : decode cX8_put 161 = .ok (.iastore, 1) := by decide +kernel
theorem dX8_put_162 : decode cX8_put 162 = .ok (.aload_n 0, 1) := by decide +kernel
theorem dX8_put_163 : decode cX8_put 163 = .ok (.dup, 1) := by decide +kernel
theorem dX8_put_164 : decode cX8_put 164 = .ok (.getfield 121, 3) := by decide +kernel
theorem dX8_put_167 : decode cX8_put 167 = .ok (.iconst 1, 1) := by decide +kernel
theorem dX8_put_168 : decode cX8_put 168 = .ok (.iadd, 1) := by decide +kernel
theorem dX8_put_169 : decode cX8_put 169 = .ok (.putfield 121, 3) := by decide +kernel
theorem dX8_put_172 : decode cX8_put 172 = .ok (.iinc 6 (-1), 3) := by decide +kernel
theorem dX8_put_175 : decode cX8_put 175 = .ok (.goto (-39), 3) := by decide +kernel
theorem dX8_put_178 : decode cX8_put 178 = .ok (.aload_n 0, 1) := by decide +kernel
theorem dX8_put_179 : decode cX8_put 179 = .ok (.getfield 121, 3) := by decide +kernel
theorem dX8_put_182 : decode cX8_put 182 = .ok (.ireturn, 1) := by decide +kernel
theorem dX8_wipe_0 : decode cX8_wipe 0 = .ok (.aload_n 0, 1) := by decide +kernel
theorem dX8_wipe_1 : decode cX8_wipe 1 = .ok (.getfield 121, 3) := by decide +kernel
theorem dX8_wipe_4 : decode cX8_wipe 4 = .ok (.istore_n 1, 1) := by decide +kernel
theorem dX8_wipe_5 : decode cX8_wipe 5 = .ok (.aload_n 0, 1) := by decide +kernel
theorem dX8_wipe_6 : decode cX8_wipe 6 = .ok (.iconst 0, 1) := by decide +kernel
theorem dX8_wipe_7 : decode cX8_wipe 7 = .ok (.putfield 121, 3) := by decide +kernel
theorem dX8_wipe_10 : decode cX8_wipe 10 = .ok (.iload_n 1, 1) := by decide +kernel
theorem dX8_wipe_11 : decode cX8_wipe 11 = .ok (.ireturn, 1) := by decide +kernel
theorem dX8_sign_0 : decode cX8_sign 0 = .ok (.iload_n 1, 1) := by decide +kernel
theorem dX8_sign_1 : decode cX8_sign 1 = .ok (.aload_n 0, 1) := by decide +kernel
theorem dX8_sign_2 : decode cX8_sign 2 = .ok (.getfield 121, 3) := by decide +kernel
theorem dX8_sign_5 : decode cX8_sign 5 = .ok (.if_icmp .ge 12, 3) := by decide +kernel
theorem dX8_sign_8 : decode cX8_sign 8 = .ok (.aload_n 0, 1) := by decide +kernel
theorem dX8_sign_9 : decode cX8_sign 9 = .ok (.getfield 23, 3) := by decide +kernel
theorem dX8_sign_12 : decode cX8_sign 12 = .ok (.iload_n 1, 1) := by decide +kernel
theorem dX8_sign_13 : decode cX8_sign 13 = .ok (.iaload, 1) := by decide +kernel
theorem dX8_sign_14 : decode cX8_sign 14 = .ok (.goto 4, 3) := by decide +kernel
theorem dX8_sign_17 : decode cX8_sign 17 = .ok (.iconst (-1), 1) := by decide +kernel
theorem dX8_sign_18 : decode cX8_sign 18 = .ok (.ireturn, 1) := by decide +kernel
set_option maxRecDepth 20000 in
theorem ggX8_digit_X8_sign : GoodIn wsX8_digit wsX8_sign := goodIn_r _ [5, 6, 7, 11, 12, 13, 14, 15, 16, 17] (by decide +kernel) (by decide +kernel)
set_option maxRecDepth 20000 in
theorem gX8_digit_X8_sign : GoodIn wsX8_digit (wsV RX8 132 RX8 yX8_sign wsX8_sign) := goodIn_app (goodIn_of _ (by decide +kernel)) ggX8_digit_X8_sign
set_option maxRecDepth 20000 in
theorem ggX8_digit_X8_in : GoodIn wsX8_digit wsX8_in := goodIn_r _ [10] (by decide +kernel) (by decide +kernel)
set_option maxRecDepth 20000 in
theorem gX8_digit_X8_in : GoodIn wsX8_digit (va_wsS RX8 30 yX8_in wsX8_in) := goodIn_app (goodIn_of _ (by decide +kernel)) ggX8_digit_X8_in
theorem dX8_digit_0 : decode cX8_digit 0 = .ok (.aload_n 0, 1) := by decide +kernel
theorem dX8_digit_1 : decode cX8_digit 1 = .ok (.iload_n 1, 1) := by decide +kernel
theorem dX8_digit_2 : decode cX8_digit 2 = .ok (.invokevirtual 132, 3) := by decide +kernel
theorem dX8_digit_5 : decode cX8_digit 5 = .ok (.bipush 48, 2) := by decide +kernel
theorem dX8_digit_7 : decode cX8_digit 7 = .ok (.bipush 57, 2) := by decide +kernel
theorem dX8_digit_9 : decode cX8_digit 9 = .ok (.invokestatic 30, 3) := by decide +kernel
theorem dX8_digit_12 : decode cX8_digit 12 = .ok (.ifCond .eq 14, 3) := by decide +kernel
theorem dX8_digit_15 : decode cX8_digit 15 = .ok (.aload_n 0, 1) := by decide +kernel
theorem dX8_digit_16 : decode cX8_digit 16 = .ok (.iload_n 1, 1) := by decide +kernel
theorem dX8_digit_17 : decode cX8_digit 17 = .ok (.invokevirtual 132, 3) := by decide +kernel
theorem dX8_digit_20 : decode cX8_digit 20 = .ok (.bipush 48, 2) := by decide +kernel
theorem dX8_digit_22 : decode cX8_digit 22 = .ok (.isub, 1) := by decide +kernel
theorem dX8_digit_23 : decode cX8_digit 23 = .ok (.goto 4, 3) := by decide +kernel
theorem dX8_digit_26 : decode cX8_digit 26 = .ok (.iconst (-1), 1) := by decide +kernel
theorem dX8_digit_27 : decode cX8_digit 27 = .ok (.ireturn, 1) := by decide +kernel
set_option maxRecDepth 20000 in
theorem ggX8_numberEnd_X8_digit : GoodIn wsX8_numberEnd wsX8_digit := goodIn_r _ [5, 6, 7, 8, 4, 9, 10, 11, 12, 13, 14, 15, 16, 17, 18, 19, 20, 21] (by decide +kernel) (by decide +kernel)
set_option maxRecDepth 20000 in
theorem gX8_numberEnd_X8_digit : GoodIn wsX8_numberEnd (wsV RX8 135 RX8 yX8_digit wsX8_digit) := goodIn_app (goodIn_of _ (by decide +kernel)) ggX8_numberEnd_X8_digit
theorem dX8_numberEnd_0 : decode cX8_numberEnd 0 = .ok (.iload_n 1, 1) := by decide +kernel
theorem dX8_numberEnd_1 : decode cX8_numberEnd 1 = .ok (.ifCond .ge 5, 3) := by decide +kernel
theorem dX8_numberEnd_4 : decode cX8_numberEnd 4 = .ok (.iload_n 1, 1) := by decide +kernel
theorem dX8_numberEnd_5 : decode cX8_numberEnd 5 = .ok (.ireturn, 1) := by decide +kernel
theorem dX8_numberEnd_6 : decode cX8_numberEnd 6 = .ok (.aload_n 0, 1) := by decide +kernel
theorem dX8_numberEnd_7 : decode cX8_numberEnd 7 = .ok (.iload_n 1, 1) := by decide +kernel
theorem dX8_numberEnd_8 : decode cX8_numberEnd 8 = .ok (.invokevirtual 135, 3) := by decide +kernel
theorem dX8_numberEnd_11 : decode cX8_numberEnd 11 = .ok (.ifCond .ge 7, 3) := by decide +kernel
theorem dX8_numberEnd_14 : decode cX8_numberEnd 14 = .ok (.iconst (-1), 1) := by decide +kernel
theorem dX8_numberEnd_15 : decode cX8_numberEnd 15 = .ok (.iload_n 1, 1) := by decide +kernel
theorem dX8_numberEnd_16 : decode cX8_numberEnd 16 = .ok (.isub, 1) := by decide +kernel
theorem dX8_numberEnd_17 : decode cX8_numberEnd 17 = .ok (.ireturn, 1) := by decide +kernel
theorem dX8_numberEnd_18 : decode cX8_numberEnd 18 = .ok (.aload_n 0, 1) := by decide +kernel
theorem dX8_numberEnd_19 : decode cX8_numberEnd 19 = .ok (.iload_n 1, 1) := by decide +kernel
theorem dX8_numberEnd_20 : decode cX8_numberEnd 20 = .ok (.invokevirtual 135, 3) := by decide +kernel
theorem dX8_numberEnd_23 : decode cX8_numberEnd 23 = .ok (.ifCond .le 19, 3) := by decide +kernel
theorem dX8_numberEnd_26 : decode cX8_numberEnd 26 = .ok (.aload_n 0, 1) := by decide +kernel
theorem dX8_numberEnd_27 : decode cX8_numberEnd 27 = .ok (.iload_n 1, 1) := by decide +kernel
theorem dX8_numberEnd_28 : decode cX8_numberEnd 28 = .ok (.iconst 1, 1) := by decide +kernel
theorem dX8_numberEnd_29 : decode cX8_numberEnd 29 = .ok (.iadd, 1) := by decide +kernel
theorem dX8_numberEnd_30 : decode cX8_numberEnd 30 = .ok (.invokevirtual 135, 3) := by decide +kernel
theorem dX8_numberEnd_33 : decode cX8_numberEnd 33 = .ok (.ifCond .lt 9, 3) := by decide +kernel
theorem dX8_numberEnd_36 : decode cX8_numberEnd 36 = .ok (.iload_n 1, 1) := by decide +kernel
theorem dX8_numberEnd_37 : decode cX8_numberEnd 37 = .ok (.iconst 2, 1) := by decide +kernel
theorem dX8_numberEnd_38 : decode cX8_numberEnd 38 = .ok (.iadd, 1) := by decide +kernel
theorem dX8_numberEnd_39 : decode cX8_numberEnd 39 = .ok (.goto 6, 3) := by decide +kernel
theorem dX8_numberEnd_42 : decode cX8_numberEnd 42 = .ok (.iload_n 1, 1) := by decide +kernel
theorem dX8_numberEnd_43 : decode cX8_numberEnd 43 = .ok (.iconst 1, 1) := by decide +kernel
theorem dX8_numberEnd_44 : decode cX8_numberEnd 44 = .ok (.iadd, 1) := by decide +kernel
theorem dX8_numberEnd_45 : decode cX8_numberEnd 45 = .ok (.ireturn, 1) := by decide +kernel
set_option maxRecDepth 20000 in
theorem ggX8_numberAt_X8_numberEnd : GoodIn wsX8_numberAt wsX8_numberEnd := goodIn_r _ [5, 6, 7, 8, 4, 9, 10, 11, 12, 13, 14, 15, 16, 17, 18, 19, 20, 21, 22, 23, 24, 25] (by decide +kernel) (by decide +kernel)
set_option maxRecDepth 20000 in
theorem gX8_numberAt_X8_numberEnd : GoodIn wsX8_numberAt (wsV RX8 138 RX8 yX8_numberEnd wsX8_numberEnd) := goodIn_app (goodIn_of _ (by decide +kernel)) ggX8_numberAt_X8_numberEnd
set_option maxRecDepth 20000 in
theorem ggX8_numberAt_X8_digit : GoodIn wsX8_numberAt wsX8_digit := goodIn_r _ [9, 10, 11, 12, 4, 13, 14, 15, 16, 17, 18, 19, 20, 21, 22, 23, 24, 25] (by decide +kernel) (by decide +kernel)
set_option maxRecDepth 20000 in
theorem gX8_numberAt_X8_digit : GoodIn wsX8_numberAt (wsV RX8 135 RX8 yX8_digit wsX8_digit) := goodIn_app (goodIn_of _ (by decide +kernel)) ggX8_numberAt_X8_digit
theorem dX8_numberAt_0 : decode cX8_numberAt 0 = .ok (.aload_n 0, 1) := by decide +kernel
theorem dX8_numberAt_1 : decode cX8_numberAt 1 = .ok (.iload_n 1, 1) := by decide +kernel
theorem dX8_numberAt_2 : decode cX8_numberAt 2 = .ok (.invokevirtual 138, 3) := by decide +kernel
theorem dX8_numberAt_5 : decode cX8_numberAt 5 = .ok (.iload_n 1, 1) := by decide +kernel
theorem dX8_numberAt_6 : decode cX8_numberAt 6 = .ok (.iconst 1, 1) := by decide +kernel
theorem dX8_numberAt_7 : decode cX8_numberAt 7 = .ok (.iadd, 1) := by decide +kernel
theorem dX8_numberAt_8 : decode cX8_numberAt 8 = .ok (.if_icmp .ne 11, 3) := by decide +kernel
theorem dX8_numberAt_11 : decode cX8_numberAt 11 = .ok (.aload_n 0, 1) := by decide +kernel
theorem dX8_numberAt_12 : decode cX8_numberAt 12 = .ok (.iload_n 1, 1) := by decide +kernel
theorem dX8_numberAt_13 : decode cX8_numberAt 13 = .ok (.invokevirtual 135, 3) := by decide +kernel
theorem dX8_numberAt_16 : decode cX8_numberAt 16 = .ok (.goto 19, 3) := by decide +kernel
theorem dX8_numberAt_19 : decode cX8_numberAt 19 = .ok (.bipush 10, 2) := by decide +kernel
theorem dX8_numberAt_21 : decode cX8_numberAt 21 = .ok (.aload_n 0, 1) := by decide +kernel
theorem dX8_numberAt_22 : decode cX8_numberAt 22 = .ok (.iload_n 1, 1) := by decide +kernel
theorem dX8_numberAt_23 : decode cX8_numberAt 23 = .ok (.invokevirtual 135, 3) := by decide +kernel
theorem dX8_numberAt_26 : decode cX8_numberAt 26 = .ok (.imul, 1) := by decide +kernel
theorem dX8_numberAt_27 : decode cX8_numberAt 27 = .ok (.aload_n 0, 1) := by decide +kernel
theorem dX8_numberAt_28 : decode cX8_numberAt 28 = .ok (.iload_n 1, 1) := by decide +kernel
theorem dX8_numberAt_29 : decode cX8_numberAt 29 = .ok (.iconst 1, 1) := by decide +kernel
theorem dX8_numberAt_30 : decode cX8_numberAt 30 = .ok (.iadd, 1) := by decide +kernel
theorem dX8_numberAt_31 : decode cX8_numberAt 31 = .ok (.invokevirtual 135, 3) := by decide +kernel
theorem dX8_numberAt_34 : decode cX8_numberAt 34 = .ok (.iadd, 1) := by decide +kernel
theorem dX8_numberAt_35 : decode cX8_numberAt 35 = .ok (.ireturn, 1) := by decide +kernel
set_option maxRecDepth 20000 in
theorem ggX8_behind_X8_sign : GoodIn wsX8_behind wsX8_sign := goodIn_r _ [5, 6, 7, 8, 9, 10, 11, 12, 13, 14] (by decide +kernel) (by decide +kernel)
set_option maxRecDepth 20000 in
theorem gX8_behind_X8_sign : GoodIn wsX8_behind (wsV RX8 132 RX8 yX8_sign wsX8_sign) := goodIn_app (goodIn_of _ (by decide +kernel)) ggX8_behind_X8_sign
theorem dX8_behind_0 : decode cX8_behind 0 = .ok (.iload_n 1, 1) := by decide +kernel
theorem dX8_behind_1 : decode cX8_behind 1 = .ok (.ifCond .ge 7, 3) := by decide +kernel
theorem dX8_behind_4 : decode cX8_behind 4 = .ok (.iload_n 1, 1) := by decide +kernel
theorem dX8_behind_5 : decode cX8_behind 5 = .ok (.goto 21, 3) := by decide +kernel
theorem dX8_behind_8 : decode cX8_behind 8 = .ok (.aload_n 0, 1) := by decide +kernel
theorem dX8_behind_9 : decode cX8_behind 9 = .ok (.iload_n 1, 1) := by decide +kernel
theorem dX8_behind_10 : decode cX8_behind 10 = .ok (.invokevirtual 132, 3) := by decide +kernel
theorem dX8_behind_13 : decode cX8_behind 13 = .ok (.iload_n 2, 1) := by decide +kernel
theorem dX8_behind_14 : decode cX8_behind 14 = .ok (.if_icmp .ne 9, 3) := by decide +kernel
theorem dX8_behind_17 : decode cX8_behind 17 = .ok (.iload_n 1, 1) := by decide +kernel
theorem dX8_behind_18 : decode cX8_behind 18 = .ok (.iconst 1, 1) := by decide +kernel
theorem dX8_behind_19 : decode cX8_behind 19 = .ok (.iadd, 1) := by decide +kernel
theorem dX8_behind_20 : decode cX8_behind 20 = .ok (.goto 6, 3) := by decide +kernel
theorem dX8_behind_23 : decode cX8_behind 23 = .ok (.iconst (-1), 1) := by decide +kernel
theorem dX8_behind_24 : decode cX8_behind 24 = .ok (.iload_n 1, 1) := by decide +kernel
theorem dX8_behind_25 : decode cX8_behind 25 = .ok (.isub, 1) := by decide +kernel
theorem dX8_behind_26 : decode cX8_behind 26 = .ok (.ireturn, 1) := by decide +kernel
set_option maxRecDepth 20000 in
theorem ggX8_digitEnd_X8_digit : GoodIn wsX8_digitEnd wsX8_digit := goodIn_r _ [5, 6, 7, 8, 4, 9, 10, 11, 12, 13, 14, 15, 16, 17, 18, 19, 20, 21] (by decide +kernel) (by decide +kernel)
set_option maxRecDepth 20000 in
theorem gX8_digitEnd_X8_digit : GoodIn wsX8_digitEnd (wsV RX8 135 RX8 yX8_digit wsX8_digit) := goodIn_app (goodIn_of _ (by decide +kernel)) ggX8_digitEnd_X8_digit
theorem dX8_digitEnd_0 : decode cX8_digitEnd 0 = .ok (.iload_n 1, 1) := by decide +kernel
theorem dX8_digitEnd_1 : decode cX8_digitEnd 1 = .ok (.ifCond .ge 7, 3) := by decide +kernel
theorem dX8_digitEnd_4 : decode cX8_digitEnd 4 = .ok (.iload_n 1, 1) := by decide +kernel
theorem dX8_digitEnd_5 : decode cX8_digitEnd 5 = .ok (.goto 20, 3) := by decide +kernel
theorem dX8_digitEnd_8 : decode cX8_digitEnd 8 = .ok (.aload_n 0, 1) := by decide +kernel
theorem dX8_digitEnd_9 : decode cX8_digitEnd 9 = .ok (.iload_n 1, 1) := by decide +kernel
theorem dX8_digitEnd_10 : decode cX8_digitEnd 10 = .ok (.invokevirtual 135, 3) := by decide +kernel
theorem dX8_digitEnd_13 : decode cX8_digitEnd 13 = .ok (.ifCond .ge 9, 3) := by decide +kernel
theorem dX8_digitEnd_16 : decode cX8_digitEnd 16 = .ok (.iconst (-1), 1) := by decide +kernel
theorem dX8_digitEnd_17 : decode cX8_digitEnd 17 = .ok (.iload_n 1, 1) := by decide +kernel
theorem dX8_digitEnd_18 : decode cX8_digitEnd 18 = .ok (.isub, 1) := by decide +kernel
theorem dX8_digitEnd_19 : decode cX8_digitEnd 19 = .ok (.goto 6, 3) := by decide +kernel
theorem dX8_digitEnd_22 : decode cX8_digitEnd 22 = .ok (.iload_n 1, 1) := by decide +kernel
theorem dX8_digitEnd_23 : decode cX8_digitEnd 23 = .ok (.iconst 1, 1) := by decide +kernel
theorem dX8_digitEnd_24 : decode cX8_digitEnd 24 = .ok (.iadd, 1) := by decide +kernel
theorem dX8_digitEnd_25 : decode cX8_digitEnd 25 = .ok (.ireturn, 1) := by decide +kernel
set_option maxRecDepth 20000 in
theorem ggX8_sizesEnd_X8_numberEnd : GoodIn wsX8_sizesEnd wsX8_numberEnd := goodIn_r _ [5, 6, 7, 8, 4, 9, 10, 11, 12, 13, 14, 15, 16, 17, 18, 23, 24, 25, 26, 27, 28, 29] (by decide +kernel) (by decide +kernel)
set_option maxRecDepth 20000 in
theorem gX8_sizesEnd_X8_numberEnd : GoodIn wsX8_sizesEnd (wsV RX8 138 RX8 yX8_numberEnd wsX8_numberEnd) := goodIn_app (goodIn_of _ (by decide +kernel)) ggX8_sizesEnd_X8_numberEnd
set_option maxRecDepth 20000 in
theorem ggX8_sizesEnd_X8_behind : GoodIn wsX8_sizesEnd wsX8_behind := goodIn_r _ [22, 10, 11, 12, 4, 13, 14, 15, 23, 24, 25, 26, 27, 28, 29] (by decide +kernel) (by decide +kernel)
set_option maxRecDepth 20000 in
theorem gX8_sizesEnd_X8_behind : GoodIn wsX8_sizesEnd (wsV RX8 141 RX8 yX8_behind wsX8_behind) := goodIn_app (goodIn_of _ (by decide +kernel)) ggX8_sizesEnd_X8_behind
theorem dX8_sizesEnd_0 : decode cX8_sizesEnd 0 = .ok (.aload_n 0, 1) := by decide +kernel
theorem dX8_sizesEnd_1 : decode cX8_sizesEnd 1 = .ok (.iload_n 1, 1) := by decide +kernel
theorem dX8_sizesEnd_2 : decode cX8_sizesEnd 2 = .ok (.invokevirtual 138, 3) := by decide +kernel
theorem dX8_sizesEnd_5 : decode cX8_sizesEnd 5 = .ok (.istore_n 2, 1) := by decide +kernel
theorem dX8_sizesEnd_6 : decode cX8_sizesEnd 6 = .ok (.iconst 0, 1) := by decide +kernel
theorem dX8_sizesEnd_7 : decode cX8_sizesEnd 7 = .ok (.istore_n 3, 1) := by decide +kernel
theorem dX8_sizesEnd_8 : decode cX8_sizesEnd 8 = .ok (.iload_n 3, 1) := by decide +kernel
theorem dX8_sizesEnd_9 : decode cX8_sizesEnd 9 = .ok (.iconst 3, 1) := by decide +kernel
theorem dX8_sizesEnd_10 : decode cX8_sizesEnd 10 = .ok (.if_icmp .ge 21, 3) := by decide +kernel
theorem dX8_sizesEnd_13 : decode cX8_sizesEnd 13 = .ok (.aload_n 0, 1) := by decide +kernel
theorem dX8_sizesEnd_14 : decode cX8_sizesEnd 14 = .ok (.aload_n 0, 1) := by decide +kernel
