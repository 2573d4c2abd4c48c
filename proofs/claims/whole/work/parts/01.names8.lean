theorem dX8_sizesEnd_15 : decode cX8_sizesEnd 15 = .ok (.iload_n 2, 1) := by decide +kernel
theorem dX8_sizesEnd_16 : decode cX8_sizesEnd 16 = .ok (.bipush 44, 2) := by decide +kernel
theorem dX8_sizesEnd_18 : decode cX8_sizesEnd 18 = .ok (.invokevirtual 141, 3) := by decide +kernel
theorem dX8_sizesEnd_21 : decode cX8_sizesEnd 21 = .ok (.invokevirtual 138, 3) := by decide +kernel
theorem dX8_sizesEnd_24 : decode cX8_sizesEnd 24 = .ok (.istore_n 2, 1) := by decide +kernel
theorem dX8_sizesEnd_25 : decode cX8_sizesEnd 25 = .ok (.iinc 3 1, 3) := by decide +kernel
theorem dX8_sizesEnd_28 : decode cX8_sizesEnd 28 = .ok (.goto (-20), 3) := by decide +kernel
theorem dX8_sizesEnd_31 : decode cX8_sizesEnd 31 = .ok (.iload_n 2, 1) := by decide +kernel
theorem dX8_sizesEnd_32 : decode cX8_sizesEnd 32 = .ok (.ireturn, 1) := by decide +kernel
set_option maxRecDepth 20000 in
theorem ggX8_isSpeed_X8_sign : GoodIn wsX8_isSpeed wsX8_sign := goodIn_r _ [5, 6, 7, 8, 9, 10, 11, 12, 13, 14] (by decide +kernel) (by decide +kernel)
set_option maxRecDepth 20000 in
theorem gX8_isSpeed_X8_sign : GoodIn wsX8_isSpeed (wsV RX8 132 RX8 yX8_sign wsX8_sign) := goodIn_app (goodIn_of _ (by decide +kernel)) ggX8_isSpeed_X8_sign
theorem dX8_isSpeed_0 : decode cX8_isSpeed 0 = .ok (.iload_n 1, 1) := by decide +kernel
theorem dX8_isSpeed_1 : decode cX8_isSpeed 1 = .ok (.ifCond .le 27, 3) := by decide +kernel
theorem dX8_isSpeed_4 : decode cX8_isSpeed 4 = .ok (.aload_n 0, 1) := by decide +kernel
theorem dX8_isSpeed_5 : decode cX8_isSpeed 5 = .ok (.iload_n 1, 1) := by decide +kernel
theorem dX8_isSpeed_6 : decode cX8_isSpeed 6 = .ok (.invokevirtual 132, 3) := by decide +kernel
theorem dX8_isSpeed_9 : decode cX8_isSpeed 9 = .ok (.bipush 43, 2) := by decide +kernel
theorem dX8_isSpeed_11 : decode cX8_isSpeed 11 = .ok (.if_icmp .eq 13, 3) := by decide +kernel
theorem dX8_isSpeed_14 : decode cX8_isSpeed 14 = .ok (.aload_n 0, 1) := by decide +kernel
theorem dX8_isSpeed_15 : decode cX8_isSpeed 15 = .ok (.iload_n 1, 1) := by decide +kernel
theorem dX8_isSpeed_16 : decode cX8_isSpeed 16 = .ok (.invokevirtual 132, 3) := by decide +kernel
theorem dX8_isSpeed_19 : decode cX8_isSpeed 19 = .ok (.bipush 45, 2) := by decide +kernel
theorem dX8_isSpeed_21 : decode cX8_isSpeed 21 = .ok (.if_icmp .ne 7, 3) := by decide +kernel
theorem dX8_isSpeed_24 : decode cX8_isSpeed 24 = .ok (.iconst 1, 1) := by decide +kernel
theorem dX8_isSpeed_25 : decode cX8_isSpeed 25 = .ok (.goto 4, 3) := by decide +kernel
theorem dX8_isSpeed_28 : decode cX8_isSpeed 28 = .ok (.iconst 0, 1) := by decide +kernel
theorem dX8_isSpeed_29 : decode cX8_isSpeed 29 = .ok (.ireturn, 1) := by decide +kernel
set_option maxRecDepth 20000 in
theorem ggX8_orderEnd_X8_sign : GoodIn wsX8_orderEnd wsX8_sign := goodIn_r _ [5, 6, 7, 35, 36, 37, 38, 39, 40, 41] (by decide +kernel) (by decide +kernel)
set_option maxRecDepth 20000 in
theorem gX8_orderEnd_X8_sign : GoodIn wsX8_orderEnd (wsV RX8 132 RX8 yX8_sign wsX8_sign) := goodIn_app (goodIn_of _ (by decide +kernel)) ggX8_orderEnd_X8_sign
set_option maxRecDepth 20000 in
theorem ggX8_orderEnd_X8_sizesEnd : GoodIn wsX8_orderEnd wsX8_sizesEnd := goodIn_r _ [11, 12, 13, 14, 4, 15, 16, 17, 18, 19, 1, 2, 3, 5, 6, 7, 20, 21, 22, 23, 24, 25, 26, 35, 36, 37, 38, 39, 40, 41] (by decide +kernel) (by decide +kernel)
set_option maxRecDepth 20000 in
theorem gX8_orderEnd_X8_sizesEnd : GoodIn wsX8_orderEnd (wsV RX8 144 RX8 yX8_sizesEnd wsX8_sizesEnd) := goodIn_app (goodIn_of _ (by decide +kernel)) ggX8_orderEnd_X8_sizesEnd
set_option maxRecDepth 20000 in
theorem ggX8_orderEnd_X8_behind : GoodIn wsX8_orderEnd wsX8_behind := goodIn_r _ [26, 1, 2, 3, 4, 5, 6, 7, 35, 36, 37, 38, 39, 40, 41] (by decide +kernel) (by decide +kernel)
set_option maxRecDepth 20000 in
theorem gX8_orderEnd_X8_behind : GoodIn wsX8_orderEnd (wsV RX8 141 RX8 yX8_behind wsX8_behind) := goodIn_app (goodIn_of _ (by decide +kernel)) ggX8_orderEnd_X8_behind
set_option maxRecDepth 20000 in
theorem ggX8_orderEnd_X8_digitEnd : GoodIn wsX8_orderEnd wsX8_digitEnd := goodIn_r _ [30, 16, 17, 18, 4, 19, 1, 2, 3, 5, 6, 7, 20, 21, 22, 35, 36, 37, 38, 39, 40, 41] (by decide +kernel) (by decide +kernel)
set_option maxRecDepth 20000 in
theorem gX8_orderEnd_X8_digitEnd : GoodIn wsX8_orderEnd (wsV RX8 147 RX8 yX8_digitEnd wsX8_digitEnd) := goodIn_app (goodIn_of _ (by decide +kernel)) ggX8_orderEnd_X8_digitEnd
set_option maxRecDepth 20000 in
theorem ggX8_orderEnd_X8_isSpeed : GoodIn wsX8_orderEnd wsX8_isSpeed := goodIn_r _ [34, 1, 2, 3, 4, 5, 6, 7, 35, 36, 37, 38, 39, 40, 41] (by decide +kernel) (by decide +kernel)
set_option maxRecDepth 20000 in
theorem gX8_orderEnd_X8_isSpeed : GoodIn wsX8_orderEnd (wsV RX8 150 RX8 yX8_isSpeed wsX8_isSpeed) := goodIn_app (goodIn_of _ (by decide +kernel)) ggX8_orderEnd_X8_isSpeed
set_option maxRecDepth 20000 in
theorem ggX8_orderEnd_X8_numberEnd : GoodIn wsX8_orderEnd wsX8_numberEnd := goodIn_r _ [15, 16, 17, 18, 4, 19, 1, 2, 3, 5, 6, 7, 20, 21, 22, 35, 36, 37, 38, 39, 40, 41] (by decide +kernel) (by decide +kernel)
set_option maxRecDepth 20000 in
theorem gX8_orderEnd_X8_numberEnd : GoodIn wsX8_orderEnd (wsV RX8 138 RX8 yX8_numberEnd wsX8_numberEnd) := goodIn_app (goodIn_of _ (by decide +kernel)) ggX8_orderEnd_X8_numberEnd
theorem dX8_orderEnd_0 : decode cX8_orderEnd 0 = .ok (.aload_n 0, 1) := by decide +kernel
theorem dX8_orderEnd_1 : decode cX8_orderEnd 1 = .ok (.iload_n 1, 1) := by decide +kernel
theorem dX8_orderEnd_2 : decode cX8_orderEnd 2 = .ok (.invokevirtual 132, 3) := by decide +kernel
theorem dX8_orderEnd_5 : decode cX8_orderEnd 5 = .ok (.lookupswitch 137 #[(102, 107), (103, 43), (112, 133), (119, 125)], 43) := by decide +kernel
theorem dX8_orderEnd_48 : decode cX8_orderEnd 48 = .ok (.aload_n 0, 1) := by decide +kernel
theorem dX8_orderEnd_49 : decode cX8_orderEnd 49 = .ok (.aload_n 0, 1) := by decide +kernel
theorem dX8_orderEnd_50 : decode cX8_orderEnd 50 = .ok (.aload_n 0, 1) := by decide +kernel
theorem dX8_orderEnd_51 : decode cX8_orderEnd 51 = .ok (.iload_n 1, 1) := by decide +kernel
theorem dX8_orderEnd_52 : decode cX8_orderEnd 52 = .ok (.iconst 1, 1) := by decide +kernel
theorem dX8_orderEnd_53 : decode cX8_orderEnd 53 = .ok (.iadd, 1) := by decide +kernel
theorem dX8_orderEnd_54 : decode cX8_orderEnd 54 = .ok (.invokevirtual 144, 3) := by decide +kernel
theorem dX8_orderEnd_57 : decode cX8_orderEnd 57 = .ok (.bipush 42, 2) := by decide +kernel
theorem dX8_orderEnd_59 : decode cX8_orderEnd 59 = .ok (.invokevirtual 141, 3) := by decide +kernel
theorem dX8_orderEnd_62 : decode cX8_orderEnd 62 = .ok (.invokevirtual 147, 3) := by decide +kernel
theorem dX8_orderEnd_65 : decode cX8_orderEnd 65 = .ok (.istore_n 2, 1) := by decide +kernel
theorem dX8_orderEnd_66 : decode cX8_orderEnd 66 = .ok (.aload_n 0, 1) := by decide +kernel
theorem dX8_orderEnd_67 : decode cX8_orderEnd 67 = .ok (.iload_n 2, 1) := by decide +kernel
theorem dX8_orderEnd_68 : decode cX8_orderEnd 68 = .ok (.invokevirtual 150, 3) := by decide +kernel
theorem dX8_orderEnd_71 : decode cX8_orderEnd 71 = .ok (.ifCond .eq 13, 3) := by decide +kernel
theorem dX8_orderEnd_74 : decode cX8_orderEnd 74 = .ok (.aload_n 0, 1) := by decide +kernel
theorem dX8_orderEnd_75 : decode cX8_orderEnd 75 = .ok (.iload_n 2, 1) := by decide +kernel
theorem dX8_orderEnd_76 : decode cX8_orderEnd 76 = .ok (.iconst 1, 1) := by decide +kernel
theorem dX8_orderEnd_77 : decode cX8_orderEnd 77 = .ok (.iadd, 1) := by decide +kernel
theorem dX8_orderEnd_78 : decode cX8_orderEnd 78 = .ok (.invokevirtual 138, 3) := by decide +kernel
theorem dX8_orderEnd_81 : decode cX8_orderEnd 81 = .ok (.goto 4, 3) := by decide +kernel
theorem dX8_orderEnd_84 : decode cX8_orderEnd 84 = .ok (.iload_n 2, 1) := by decide +kernel
theorem dX8_orderEnd_85 : decode cX8_orderEnd 85 = .ok (.istore_n 2, 1) := by decide +kernel
theorem dX8_orderEnd_86 : decode cX8_orderEnd 86 = .ok (.iload_n 2, 1) := by decide +kernel
theorem dX8_orderEnd_87 : decode cX8_orderEnd 87 = .ok (.ifCond .le 23, 3) := by decide +kernel
theorem dX8_orderEnd_90 : decode cX8_orderEnd 90 = .ok (.aload_n 0, 1) := by decide +kernel
theorem dX8_orderEnd_91 : decode cX8_orderEnd 91 = .ok (.iload_n 2, 1) := by decide +kernel
theorem dX8_orderEnd_92 : decode cX8_orderEnd 92 = .ok (.invokevirtual 132, 3) := by decide +kernel
theorem dX8_orderEnd_95 : decode cX8_orderEnd 95 = .ok (.bipush 64, 2) := by decide +kernel
theorem dX8_orderEnd_97 : decode cX8_orderEnd 97 = .ok (.if_icmp .ne 13, 3) := by decide +kernel
theorem dX8_orderEnd_100 : decode cX8_orderEnd 100 = .ok (.aload_n 0, 1) := by decide +kernel
theorem dX8_orderEnd_101 : decode cX8_orderEnd 101 = .ok (.iload_n 2, 1) := by decide +kernel
theorem dX8_orderEnd_102 : decode cX8_orderEnd 102 = .ok (.iconst 1, 1) := by decide +kernel
theorem dX8_orderEnd_103 : decode cX8_orderEnd 103 = .ok (.iadd, 1) := by decide +kernel
theorem dX8_orderEnd_104 : decode cX8_orderEnd 104 = .ok (.invokevirtual 147, 3) := by decide +kernel
theorem dX8_orderEnd_107 : decode cX8_orderEnd 107 = .ok (.goto 4, 3) := by decide +kernel
theorem dX8_orderEnd_110 : decode cX8_orderEnd 110 = .ok (.iload_n 2, 1) := by decide +kernel
theorem dX8_orderEnd_111 : decode cX8_orderEnd 111 = .ok (.ireturn, 1) := by decide +kernel
theorem dX8_orderEnd_112 : decode cX8_orderEnd 112 = .ok (.aload_n 0, 1) := by decide +kernel
theorem dX8_orderEnd_113 : decode cX8_orderEnd 113 = .ok (.aload_n 0, 1) := by decide +kernel
theorem dX8_orderEnd_114 : decode cX8_orderEnd 114 = .ok (.aload_n 0, 1) := by decide +kernel
theorem dX8_orderEnd_115 : decode cX8_orderEnd 115 = .ok (.iload_n 1, 1) := by decide +kernel
theorem dX8_orderEnd_116 : decode cX8_orderEnd 116 = .ok (.iconst 1, 1) := by decide +kernel
theorem dX8_orderEnd_117 : decode cX8_orderEnd 117 = .ok (.iadd, 1) := by decide +kernel
theorem dX8_orderEnd_118 : decode cX8_orderEnd 118 = .ok (.invokevirtual 138, 3) := by decide +kernel
theorem dX8_orderEnd_121 : decode cX8_orderEnd 121 = .ok (.bipush 46, 2) := by decide +kernel
theorem dX8_orderEnd_123 : decode cX8_orderEnd 123 = .ok (.invokevirtual 141, 3) := by decide +kernel
theorem dX8_orderEnd_126 : decode cX8_orderEnd 126 = .ok (.invokevirtual 138, 3) := by decide +kernel
theorem dX8_orderEnd_129 : decode cX8_orderEnd 129 = .ok (.ireturn, 1) := by decide +kernel
theorem dX8_orderEnd_130 : decode cX8_orderEnd 130 = .ok (.aload_n 0, 1) := by decide +kernel
theorem dX8_orderEnd_131 : decode cX8_orderEnd 131 = .ok (.iload_n 1, 1) := by decide +kernel
theorem dX8_orderEnd_132 : decode cX8_orderEnd 132 = .ok (.iconst 1, 1) := by decide +kernel
theorem dX8_orderEnd_133 : decode cX8_orderEnd 133 = .ok (.iadd, 1) := by decide +kernel
theorem dX8_orderEnd_134 : decode cX8_orderEnd 134 = .ok (.invokevirtual 138, 3) := by decide +kernel
theorem dX8_orderEnd_137 : decode cX8_orderEnd 137 = .ok (.ireturn, 1) := by decide +kernel
theorem dX8_orderEnd_138 : decode cX8_orderEnd 138 = .ok (.iload_n 1, 1) := by decide +kernel
theorem dX8_orderEnd_139 : decode cX8_orderEnd 139 = .ok (.iconst 1, 1) := by decide +kernel
theorem dX8_orderEnd_140 : decode cX8_orderEnd 140 = .ok (.iadd, 1) := by decide +kernel
theorem dX8_orderEnd_141 : decode cX8_orderEnd 141 = .ok (.ireturn, 1) := by decide +kernel
theorem dX8_orderEnd_142 : decode cX8_orderEnd 142 = .ok (.iconst (-1), 1) := by decide +kernel
theorem dX8_orderEnd_143 : decode cX8_orderEnd 143 = .ok (.iload_n 1, 1) := by decide +kernel
theorem dX8_orderEnd_144 : decode cX8_orderEnd 144 = .ok (.isub, 1) := by decide +kernel
theorem dX8_orderEnd_145 : decode cX8_orderEnd 145 = .ok (.ireturn, 1) := by decide +kernel
set_option maxRecDepth 20000 in
theorem ggX8_fault_X8_orderEnd : GoodIn wsX8_fault wsX8_orderEnd := goodIn_r _ [6, 7, 8, 9, 5, 10, 1, 11, 12, 13, 14, 15, 16, 17, 18, 19, 20, 21, 22, 23, 24, 25, 26, 27, 28, 29, 30, 31, 32, 33, 34, 35, 36, 37, 38, 39, 40, 41, 42, 43, 44, 45] (by decide +kernel) (by decide +kernel)
set_option maxRecDepth 20000 in
theorem gX8_fault_X8_orderEnd : GoodIn wsX8_fault (wsV RX8 153 RX8 yX8_orderEnd wsX8_orderEnd) := goodIn_app (goodIn_of _ (by decide +kernel)) ggX8_fault_X8_orderEnd
set_option maxRecDepth 20000 in
theorem ggX8_fault_X8_sign : GoodIn wsX8_fault wsX8_sign := goodIn_r _ [10, 1, 11, 39, 40, 41, 42, 43, 44, 45] (by decide +kernel) (by decide +kernel)
set_option maxRecDepth 20000 in
theorem gX8_fault_X8_sign : GoodIn wsX8_fault (wsV RX8 132 RX8 yX8_sign wsX8_sign) := goodIn_app (goodIn_of _ (by decide +kernel)) ggX8_fault_X8_sign
theorem dX8_fault_0 : decode cX8_fault 0 = .ok (.iconst 0, 1) := by decide +kernel
theorem dX8_fault_1 : decode cX8_fault 1 = .ok (.istore_n 1, 1) := by decide +kernel
theorem dX8_fault_2 : decode cX8_fault 2 = .ok (.iconst 0, 1) := by decide +kernel
theorem dX8_fault_3 : decode cX8_fault 3 = .ok (.istore_n 2, 1) := by decide +kernel
theorem dX8_fault_4 : decode cX8_fault 4 = .ok (.iload_n 2, 1) := by decide +kernel
theorem dX8_fault_5 : decode cX8_fault 5 = .ok (.bipush 80, 2) := by decide +kernel
theorem dX8_fault_7 : decode cX8_fault 7 = .ok (.if_icmp .ge 50, 3) := by decide +kernel
theorem dX8_fault_10 : decode cX8_fault 10 = .ok (.aload_n 0, 1) := by decide +kernel
theorem dX8_fault_11 : decode cX8_fault 11 = .ok (.iload_n 1, 1) := by decide +kernel
theorem dX8_fault_12 : decode cX8_fault 12 = .ok (.invokevirtual 153, 3) := by decide +kernel
theorem dX8_fault_15 : decode cX8_fault 15 = .ok (.istore_n 3, 1) := by decide +kernel
theorem dX8_fault_16 : decode cX8_fault 16 = .ok (.iload_n 3, 1) := by decide +kernel
theorem dX8_fault_17 : decode cX8_fault 17 = .ok (.ifCond .ge 7, 3) := by decide +kernel
theorem dX8_fault_20 : decode cX8_fault 20 = .ok (.iconst (-1), 1) := by decide +kernel
theorem dX8_fault_21 : decode cX8_fault 21 = .ok (.iload_n 3, 1) := by decide +kernel
theorem dX8_fault_22 : decode cX8_fault 22 = .ok (.isub, 1) := by decide +kernel
theorem dX8_fault_23 : decode cX8_fault 23 = .ok (.ireturn, 1) := by decide +kernel
theorem dX8_fault_24 : decode cX8_fault 24 = .ok (.iload_n 3, 1) := by decide +kernel
theorem dX8_fault_25 : decode cX8_fault 25 = .ok (.aload_n 0, 1) := by decide +kernel
theorem dX8_fault_26 : decode cX8_fault 26 = .ok (.getfield 121, 3) := by decide +kernel
theorem dX8_fault_29 : decode cX8_fault 29 = .ok (.if_icmp .ne 6, 3) := by decide +kernel
theorem dX8_fault_32 : decode cX8_fault 32 = .ok (.bipush (-6), 2) := by decide +kernel
theorem dX8_fault_34 : decode cX8_fault 34 = .ok (.ireturn, 1) := by decide +kernel
theorem dX8_fault_35 : decode cX8_fault 35 = .ok (.aload_n 0, 1) := by decide +kernel
theorem dX8_fault_36 : decode cX8_fault 36 = .ok (.iload_n 3, 1) := by decide +kernel
theorem dX8_fault_37 : decode cX8_fault 37 = .ok (.invokevirtual 132, 3) := by decide +kernel
theorem dX8_fault_40 : decode cX8_fault 40 = .ok (.bipush 59, 2) := by decide +kernel
theorem dX8_fault_42 : decode cX8_fault 42 = .ok (.if_icmp .eq 5, 3) := by decide +kernel
theorem dX8_fault_45 : decode cX8_fault 45 = .ok (.iload_n 3, 1) := by decide +kernel
theorem dX8_fault_46 : decode cX8_fault 46 = .ok (.ireturn, 1) := by decide +kernel
theorem dX8_fault_47 : decode cX8_fault 47 = .ok (.iload_n 3, 1) := by decide +kernel
theorem dX8_fault_48 : decode cX8_fault 48 = .ok (.iconst 1, 1) := by decide +kernel
theorem dX8_fault_49 : decode cX8_fault 49 = .ok (.iadd, 1) := by decide +kernel
theorem dX8_fault_50 : decode cX8_fault 50 = .ok (.istore_n 1, 1) := by decide +kernel
theorem dX8_fault_51 : decode cX8_fault 51 = .ok (.iinc 2 1, 3) := by decide +kernel
theorem dX8_fault_54 : decode cX8_fault 54 = .ok (.goto (-50), 3) := by decide +kernel
theorem dX8_fault_57 : decode cX8_fault 57 = .ok (.bipush (-6), 2) := by decide +kernel
theorem dX8_fault_59 : decode cX8_fault 59 = .ok (.ireturn, 1) := by decide +kernel
set_option maxRecDepth 20000 in
theorem ggX8_comesBy_X8_numberEnd : GoodIn wsX8_comesBy wsX8_numberEnd := goodIn_r _ [6, 7, 8, 9, 5, 10, 11, 12, 13, 14, 15, 16, 17, 18, 19, 51, 52, 53, 54, 55, 56, 57] (by decide +kernel) (by decide +kernel)
set_option maxRecDepth 20000 in
theorem gX8_comesBy_X8_numberEnd : GoodIn wsX8_comesBy (wsV RX8 138 RX8 yX8_numberEnd wsX8_numberEnd) := goodIn_app (goodIn_of _ (by decide +kernel)) ggX8_comesBy_X8_numberEnd
set_option maxRecDepth 20000 in
theorem ggX8_comesBy_X8_isSpeed : GoodIn wsX8_comesBy wsX8_isSpeed := goodIn_r _ [23, 11, 12, 13, 5, 14, 15, 16, 51, 52, 53, 54, 55, 56, 57] (by decide +kernel) (by decide +kernel)
set_option maxRecDepth 20000 in
theorem gX8_comesBy_X8_isSpeed : GoodIn wsX8_comesBy (wsV RX8 150 RX8 yX8_isSpeed wsX8_isSpeed) := goodIn_app (goodIn_of _ (by decide +kernel)) ggX8_comesBy_X8_isSpeed
set_option maxRecDepth 20000 in
theorem ggX8_comesBy_X8_numberAt : GoodIn wsX8_comesBy wsX8_numberAt := goodIn_r _ [27, 2, 3, 4, 5, 6, 7, 8, 9, 10, 11, 12, 13, 14, 15, 16, 17, 18, 19, 51, 52, 53, 54, 55, 56, 57] (by decide +kernel) (by decide +kernel)
set_option maxRecDepth 20000 in
theorem gX8_comesBy_X8_numberAt : GoodIn wsX8_comesBy (wsV RX8 156 RX8 yX8_numberAt wsX8_numberAt) := goodIn_app (goodIn_of _ (by decide +kernel)) ggX8_comesBy_X8_numberAt
set_option maxRecDepth 20000 in
theorem ggX8_comesBy_X8_sign : GoodIn wsX8_comesBy wsX8_sign := goodIn_r _ [14, 15, 16, 51, 52, 53, 54, 55, 56, 57] (by decide +kernel) (by decide +kernel)
set_option maxRecDepth 20000 in
theorem gX8_comesBy_X8_sign : GoodIn wsX8_comesBy (wsV RX8 132 RX8 yX8_sign wsX8_sign) := goodIn_app (goodIn_of _ (by decide +kernel)) ggX8_comesBy_X8_sign
set_option maxRecDepth 20000 in
theorem ggX8_comesBy_X8_digit : GoodIn wsX8_comesBy wsX8_digit := goodIn_r _ [10, 11, 12, 13, 5, 14, 15, 16, 17, 18, 19, 51, 52, 53, 54, 55, 56, 57] (by decide +kernel) (by decide +kernel)
set_option maxRecDepth 20000 in
theorem gX8_comesBy_X8_digit : GoodIn wsX8_comesBy (wsV RX8 135 RX8 yX8_digit wsX8_digit) := goodIn_app (goodIn_of _ (by decide +kernel)) ggX8_comesBy_X8_digit
set_option maxRecDepth 20000 in
theorem ggX8_comesBy_X8_whyNotThing : GoodIn wsX8_comesBy wsX8_whyNotThing := goodIn_r _ [31, 1, 17, 18, 5, 19, 51, 52, 53, 54, 55, 56, 57] (by decide +kernel) (by decide +kernel)
set_option maxRecDepth 20000 in
theorem gX8_comesBy_X8_whyNotThing : GoodIn wsX8_comesBy (wsV RX8 63 RX8 yX8_whyNotThing wsX8_whyNotThing) := goodIn_app (goodIn_of _ (by decide +kernel)) ggX8_comesBy_X8_whyNotThing
set_option maxRecDepth 20000 in
theorem ggX8_comesBy_X8_in : GoodIn wsX8_comesBy wsX8_in := goodIn_r _ [19] (by decide +kernel) (by decide +kernel)
set_option maxRecDepth 20000 in
theorem gX8_comesBy_X8_in : GoodIn wsX8_comesBy (va_wsS RX8 30 yX8_in wsX8_in) := goodIn_app (goodIn_of _ (by decide +kernel)) ggX8_comesBy_X8_in
set_option maxRecDepth 20000 in
theorem ggX8_comesBy_X8_comes : GoodIn wsX8_comesBy wsX8_comes := goodIn_r _ [35, 1, 51, 52, 53, 54, 55, 56, 57] (by decide +kernel) (by decide +kernel)
set_option maxRecDepth 20000 in
theorem gX8_comesBy_X8_comes : GoodIn wsX8_comesBy (wsV RX8 67 RX8 yX8_comes wsX8_comes) := goodIn_app (goodIn_of _ (by decide +kernel)) ggX8_comesBy_X8_comes
set_option maxRecDepth 20000 in
theorem ggX8_comesBy_X8_anew : GoodIn wsX8_comesBy wsX8_anew := goodIn_r _ [39, 1, 40, 41, 42, 5, 43, 44, 45, 46, 47, 48, 49, 50, 51, 52, 53, 54, 55, 56, 57] (by decide +kernel) (by decide +kernel)
set_option maxRecDepth 20000 in
theorem gX8_comesBy_X8_anew : GoodIn wsX8_comesBy (wsV RX8 73 RX8 yX8_anew wsX8_anew) := goodIn_app (goodIn_of _ (by decide +kernel)) ggX8_comesBy_X8_anew
theorem dX8_comesBy_0 : decode cX8_comesBy 0 = .ok (.aload_n 0, 1) := by decide +kernel
theorem dX8_comesBy_1 : decode cX8_comesBy 1 = .ok (.iload_n 1, 1) := by decide +kernel
theorem dX8_comesBy_2 : decode cX8_comesBy 2 = .ok (.iconst 1, 1) := by decide +kernel
theorem dX8_comesBy_3 : decode cX8_comesBy 3 = .ok (.iadd, 1) := by decide +kernel
theorem dX8_comesBy_4 : decode cX8_comesBy 4 = .ok (.invokevirtual 138, 3) := by decide +kernel
theorem dX8_comesBy_7 : decode cX8_comesBy 7 = .ok (.iconst 1, 1) := by decide +kernel
theorem dX8_comesBy_8 : decode cX8_comesBy 8 = .ok (.iadd, 1) := by decide +kernel
theorem dX8_comesBy_9 : decode cX8_comesBy 9 = .ok (.istore_n 2, 1) := by decide +kernel
theorem dX8_comesBy_10 : decode cX8_comesBy 10 = .ok (.aload_n 0, 1) := by decide +kernel
theorem dX8_comesBy_11 : decode cX8_comesBy 11 = .ok (.iload_n 2, 1) := by decide +kernel
theorem dX8_comesBy_12 : decode cX8_comesBy 12 = .ok (.invokevirtual 138, 3) := by decide +kernel
theorem dX8_comesBy_15 : decode cX8_comesBy 15 = .ok (.iconst 1, 1) := by decide +kernel
theorem dX8_comesBy_16 : decode cX8_comesBy 16 = .ok (.iadd, 1) := by decide +kernel
theorem dX8_comesBy_17 : decode cX8_comesBy 17 = .ok (.istore_n 3, 1) := by decide +kernel
theorem dX8_comesBy_18 : decode cX8_comesBy 18 = .ok (.aload_n 0, 1) := by decide +kernel
theorem dX8_comesBy_19 : decode cX8_comesBy 19 = .ok (.iload_n 3, 1) := by decide +kernel
theorem dX8_comesBy_20 : decode cX8_comesBy 20 = .ok (.invokevirtual 138, 3) := by decide +kernel
theorem dX8_comesBy_23 : decode cX8_comesBy 23 = .ok (.iconst 1, 1) := by decide +kernel
theorem dX8_comesBy_24 : decode cX8_comesBy 24 = .ok (.iadd, 1) := by decide +kernel
theorem dX8_comesBy_25 : decode cX8_comesBy 25 = .ok (.istore 4, 2) := by decide +kernel
theorem dX8_comesBy_27 : decode cX8_comesBy 27 = .ok (.aload_n 0, 1) := by decide +kernel
theorem dX8_comesBy_28 : decode cX8_comesBy 28 = .ok (.iload 4, 2) := by decide +kernel
theorem dX8_comesBy_30 : decode cX8_comesBy 30 = .ok (.invokevirtual 138, 3) := by decide +kernel
theorem dX8_comesBy_33 : decode cX8_comesBy 33 = .ok (.iconst 1, 1) := by decide +kernel
theorem dX8_comesBy_34 : decode cX8_comesBy 34 = .ok (.iadd, 1) := by decide +kernel
theorem dX8_comesBy_35 : decode cX8_comesBy 35 = .ok (.istore 5, 2) := by decide +kernel
theorem dX8_comesBy_37 : decode cX8_comesBy 37 = .ok (.iload 5, 2) := by decide +kernel
theorem dX8_comesBy_39 : decode cX8_comesBy 39 = .ok (.iconst 1, 1) := by decide +kernel
theorem dX8_comesBy_40 : decode cX8_comesBy 40 = .ok (.iadd, 1) := by decide +kernel
theorem dX8_comesBy_41 : decode cX8_comesBy 41 = .ok (.istore 6, 2) := by decide +kernel
theorem dX8_comesBy_43 : decode cX8_comesBy 43 = .ok (.aload_n 0, 1) := by decide +kernel
theorem dX8_comesBy_44 : decode cX8_comesBy 44 = .ok (.iload 6, 2) := by decide +kernel
theorem dX8_comesBy_46 : decode cX8_comesBy 46 = .ok (.invokevirtual 150, 3) := by decide +kernel
theorem dX8_comesBy_49 : decode cX8_comesBy 49 = .ok (.ifCond .eq 14, 3) := by decide +kernel
theorem dX8_comesBy_52 : decode cX8_comesBy 52 = .ok (.aload_n 0, 1) := by decide +kernel
theorem dX8_comesBy_53 : decode cX8_comesBy 53 = .ok (.iload 6, 2) := by decide +kernel
theorem dX8_comesBy_55 : decode cX8_comesBy 55 = .ok (.iconst 1, 1) := by decide +kernel
theorem dX8_comesBy_56 : decode cX8_comesBy 56 = .ok (.iadd, 1) := by decide +kernel
theorem dX8_comesBy_57 : decode cX8_comesBy 57 = .ok (.invokevirtual 156, 3) := by decide +kernel
theorem dX8_comesBy_60 : decode cX8_comesBy 60 = .ok (.goto 4, 3) := by decide +kernel
theorem dX8_comesBy_63 : decode cX8_comesBy 63 = .ok (.iconst 0, 1) := by decide +kernel
theorem dX8_comesBy_64 : decode cX8_comesBy 64 = .ok (.istore 7, 2) := by decide +kernel
theorem dX8_comesBy_66 : decode cX8_comesBy 66 = .ok (.aload_n 0, 1) := by decide +kernel
theorem dX8_comesBy_67 : decode cX8_comesBy 67 = .ok (.iload 6, 2) := by decide +kernel
theorem dX8_comesBy_69 : decode cX8_comesBy 69 = .ok (.invokevirtual 150, 3) := by decide +kernel
theorem dX8_comesBy_72 : decode cX8_comesBy 72 = .ok (.ifCond .eq 20, 3) := by decide +kernel
theorem dX8_comesBy_75 : decode cX8_comesBy 75 = .ok (.aload_n 0, 1) := by decide +kernel
theorem dX8_comesBy_76 : decode cX8_comesBy 76 = .ok (.iload 6, 2) := by decide +kernel
theorem dX8_comesBy_78 : decode cX8_comesBy 78 = .ok (.invokevirtual 132, 3) := by decide +kernel
theorem dX8_comesBy_81 : decode cX8_comesBy 81 = .ok (.bipush 45, 2) := by decide +kernel
theorem dX8_comesBy_83 : decode cX8_comesBy 83 = .ok (.if_icmp .ne 9, 3) := by decide +kernel
theorem dX8_comesBy_86 : decode cX8_comesBy 86 = .ok (.iload 7, 2) := by decide +kernel
theorem dX8_comesBy_88 : decode cX8_comesBy 88 = .ok (.ineg, 1) := by decide +kernel
theorem dX8_comesBy_89 : decode cX8_comesBy 89 = .ok (.goto 5, 3) := by decide +kernel
theorem dX8_comesBy_92 : decode cX8_comesBy 92 = .ok (.iload 7, 2) := by decide +kernel
theorem dX8_comesBy_94 : decode cX8_comesBy 94 = .ok (.istore 7, 2) := by decide +kernel
theorem dX8_comesBy_96 : decode cX8_comesBy 96 = .ok (.aload_n 0, 1) := by decide +kernel
theorem dX8_comesBy_97 : decode cX8_comesBy 97 = .ok (.iload 6, 2) := by decide +kernel
theorem dX8_comesBy_99 : decode cX8_comesBy 99 = .ok (.invokevirtual 150, 3) := by decide +kernel
theorem dX8_comesBy_102 : decode cX8_comesBy 102 = .ok (.ifCond .eq 14, 3) := by decide +kernel
theorem dX8_comesBy_105 : decode cX8_comesBy 105 = .ok (.aload_n 0, 1) := by decide +kernel
theorem dX8_comesBy_106 : decode cX8_comesBy 106 = .ok (.iload 6, 2) := by decide +kernel
theorem dX8_comesBy_108 : decode cX8_comesBy 108 = .ok (.iconst 1, 1) := by decide +kernel
theorem dX8_comesBy_109 : decode cX8_comesBy 109 = .ok (.iadd, 1) := by decide +kernel
theorem dX8_comesBy_110 : decode cX8_comesBy 110 = .ok (.invokevirtual 138, 3) := by decide +kernel
theorem dX8_comesBy_113 : decode cX8_comesBy 113 = .ok (.goto 5, 3) := by decide +kernel
theorem dX8_comesBy_116 : decode cX8_comesBy 116 = .ok (.iload 6, 2) := by decide +kernel
theorem dX8_comesBy_118 : decode cX8_comesBy 118 = .ok (.istore 6, 2) := by decide +kernel
theorem dX8_comesBy_120 : decode cX8_comesBy 120 = .ok (.aload_n 0, 1) := by decide +kernel
theorem dX8_comesBy_121 : decode cX8_comesBy 121 = .ok (.iload 6, 2) := by decide +kernel
theorem dX8_comesBy_123 : decode cX8_comesBy 123 = .ok (.invokevirtual 132, 3) := by decide +kernel
theorem dX8_comesBy_126 : decode cX8_comesBy 126 = .ok (.bipush 64, 2) := by decide +kernel
theorem dX8_comesBy_128 : decode cX8_comesBy 128 = .ok (.if_icmp .ne 14, 3) := by decide +kernel
theorem dX8_comesBy_131 : decode cX8_comesBy 131 = .ok (.aload_n 0, 1) := by decide +kernel
theorem dX8_comesBy_132 : decode cX8_comesBy 132 = .ok (.iload 6, 2) := by decide +kernel
theorem dX8_comesBy_134 : decode cX8_comesBy 134 = .ok (.iconst 1, 1) := by decide +kernel
theorem dX8_comesBy_135 : decode cX8_comesBy 135 = .ok (.iadd, 1) := by decide +kernel
theorem dX8_comesBy_136 : decode cX8_comesBy 136 = .ok (.invokevirtual 135, 3) := by decide +kernel
theorem dX8_comesBy_139 : decode cX8_comesBy 139 = .ok (.goto 4, 3) := by decide +kernel
theorem dX8_comesBy_142 : decode cX8_comesBy 142 = .ok (.iconst (-1), 1) := by decide +kernel
theorem dX8_comesBy_143 : decode cX8_comesBy 143 = .ok (.istore 8, 2) := by decide +kernel
theorem dX8_comesBy_145 : decode cX8_comesBy 145 = .ok (.aload_n 0, 1) := by decide +kernel
theorem dX8_comesBy_146 : decode cX8_comesBy 146 = .ok (.aload_n 0, 1) := by decide +kernel
theorem dX8_comesBy_147 : decode cX8_comesBy 147 = .ok (.iload_n 1, 1) := by decide +kernel
theorem dX8_comesBy_148 : decode cX8_comesBy 148 = .ok (.iconst 1, 1) := by decide +kernel
theorem dX8_comesBy_149 : decode cX8_comesBy 149 = .ok (.iadd, 1) := by decide +kernel
theorem dX8_comesBy_150 : decode cX8_comesBy 150 = .ok (.invokevirtual 156, 3) := by decide +kernel
theorem dX8_comesBy_153 : decode cX8_comesBy 153 = .ok (.aload_n 0, 1) := by decide +kernel
theorem dX8_comesBy_154 : decode cX8_comesBy 154 = .ok (.iload_n 2, 1) := by decide +kernel
theorem dX8_comesBy_155 : decode cX8_comesBy 155 = .ok (.invokevirtual 156, 3) := by decide +kernel
theorem dX8_comesBy_158 : decode cX8_comesBy 158 = .ok (.aload_n 0, 1) := by decide +kernel
theorem dX8_comesBy_159 : decode cX8_comesBy 159 = .ok (.iload_n 3, 1) := by decide +kernel
theorem dX8_comesBy_160 : decode cX8_comesBy 160 = .ok (.invokevirtual 156, 3) := by decide +kernel
theorem dX8_comesBy_163 : decode cX8_comesBy 163 = .ok (.aload_n 0, 1) := by decide +kernel
theorem dX8_comesBy_164 : decode cX8_comesBy 164 = .ok (.iload 4, 2) := by decide +kernel
theorem dX8_comesBy_166 : decode cX8_comesBy 166 = .ok (.invokevirtual 156, 3) := by decide +kernel
theorem dX8_comesBy_169 : decode cX8_comesBy 169 = .ok (.aload_n 0, 1) := by decide +kernel
theorem dX8_comesBy_170 : decode cX8_comesBy 170 = .ok (.iload 5, 2) := by decide +kernel
theorem dX8_comesBy_172 : decode cX8_comesBy 172 = .ok (.invokevirtual 135, 3) := by decide +kernel
theorem dX8_comesBy_175 : decode cX8_comesBy 175 = .ok (.invokevirtual 63, 3) := by decide +kernel
theorem dX8_comesBy_178 : decode cX8_comesBy 178 = .ok (.istore 9, 2) := by decide +kernel
theorem dX8_comesBy_180 : decode cX8_comesBy 180 = .ok (.iload 9, 2) := by decide +kernel
theorem dX8_comesBy_182 : decode cX8_comesBy 182 = .ok (.ifCond .ge 6, 3) := by decide +kernel
theorem dX8_comesBy_185 : decode cX8_comesBy 185 = .ok (.iload 9, 2) := by decide +kernel
theorem dX8_comesBy_187 : decode cX8_comesBy 187 = .ok (.ireturn, 1) := by decide +kernel
theorem dX8_comesBy_188 : decode cX8_comesBy 188 = .ok (.iload 7, 2) := by decide +kernel
theorem dX8_comesBy_190 : decode cX8_comesBy 190 = .ok (.bipush (-40), 2) := by decide +kernel
theorem dX8_comesBy_192 : decode cX8_comesBy 192 = .ok (.bipush 40, 2) := by decide +kernel
theorem dX8_comesBy_194 : decode cX8_comesBy 194 = .ok (.invokestatic 30, 3) := by decide +kernel
theorem dX8_comesBy_197 : decode cX8_comesBy 197 = .ok (.ifCond .eq 14, 3) := by decide +kernel
theorem dX8_comesBy_200 : decode cX8_comesBy 200 = .ok (.iload 8, 2) := by decide +kernel
theorem dX8_comesBy_202 : decode cX8_comesBy 202 = .ok (.aload_n 0, 1) := by decide +kernel
theorem dX8_comesBy_203 : decode cX8_comesBy 203 = .ok (.getfield 7, 3) := by decide +kernel
theorem dX8_comesBy_206 : decode cX8_comesBy 206 = .ok (.iconst 5, 1) := by decide +kernel
theorem dX8_comesBy_207 : decode cX8_comesBy 207 = .ok (.iaload, 1) := by decide +kernel
theorem dX8_comesBy_208 : decode cX8_comesBy 208 = .ok (.if_icmp .lt 6, 3) := by decide +kernel
theorem dX8_comesBy_211 : decode cX8_comesBy 211 = .ok (.bipush (-2), 2) := by decide +kernel
theorem dX8_comesBy_213 : decode cX8_comesBy 213 = .ok (.ireturn, 1) := by decide +kernel
theorem dX8_comesBy_214 : decode cX8_comesBy 214 = .ok (.aload_n 0, 1) := by decide +kernel
theorem dX8_comesBy_215 : decode cX8_comesBy 215 = .ok (.aload_n 0, 1) := by decide +kernel
theorem dX8_comesBy_216 : decode cX8_comesBy 216 = .ok (.iload_n 1, 1) := by decide +kernel
theorem dX8_comesBy_217 : decode cX8_comesBy 217 = .ok (.iconst 1, 1) := by decide +kernel
theorem dX8_comesBy_218 : decode cX8_comesBy 218 = .ok (.iadd, 1) := by decide +kernel
theorem dX8_comesBy_219 : decode cX8_comesBy 219 = .ok (.invokevirtual 156, 3) := by decide +kernel
theorem dX8_comesBy_222 : decode cX8_comesBy 222 = .ok (.aload_n 0, 1) := by decide +kernel
theorem dX8_comesBy_223 : decode cX8_comesBy 223 = .ok (.iload_n 2, 1) := by decide +kernel
theorem dX8_comesBy_224 : decode cX8_comesBy 224 = .ok (.invokevirtual 156, 3) := by decide +kernel
theorem dX8_comesBy_227 : decode cX8_comesBy 227 = .ok (.aload_n 0, 1) := by decide +kernel
theorem dX8_comesBy_228 : decode cX8_comesBy 228 = .ok (.iload_n 3, 1) := by decide +kernel
theorem dX8_comesBy_229 : decode cX8_comesBy 229 = .ok (.invokevirtual 156, 3) := by decide +kernel
theorem dX8_comesBy_232 : decode cX8_comesBy 232 = .ok (.aload_n 0, 1) := by decide +kernel
theorem dX8_comesBy_233 : decode cX8_comesBy 233 = .ok (.iload 4, 2) := by decide +kernel
theorem dX8_comesBy_235 : decode cX8_comesBy 235 = .ok (.invokevirtual 156, 3) := by decide +kernel
theorem dX8_comesBy_238 : decode cX8_comesBy 238 = .ok (.aload_n 0, 1) := by decide +kernel
theorem dX8_comesBy_239 : decode cX8_comesBy 239 = .ok (.iload 5, 2) := by decide +kernel
theorem dX8_comesBy_241 : decode cX8_comesBy 241 = .ok (.invokevirtual 135, 3) := by decide +kernel
theorem dX8_comesBy_244 : decode cX8_comesBy 244 = .ok (.invokevirtual 67, 3) := by decide +kernel
theorem dX8_comesBy_247 : decode cX8_comesBy 247 = .ok (.istore 10, 2) := by decide +kernel
theorem dX8_comesBy_249 : decode cX8_comesBy 249 = .ok (.aload_n 0, 1) := by decide +kernel
theorem dX8_comesBy_250 : decode cX8_comesBy 250 = .ok (.iload 10, 2) := by decide +kernel
theorem dX8_comesBy_252 : decode cX8_comesBy 252 = .ok (.iload 7, 2) := by decide +kernel
theorem dX8_comesBy_254 : decode cX8_comesBy 254 = .ok (.iload 8, 2) := by decide +kernel
theorem dX8_comesBy_256 : decode cX8_comesBy 256 = .ok (.invokevirtual 73, 3) := by decide +kernel
theorem dX8_comesBy_259 : decode cX8_comesBy 259 = .ok (.iconst 0, 1) := by decide +kernel
theorem dX8_comesBy_260 : decode cX8_comesBy 260 = .ok (.ireturn, 1) := by decide +kernel
set_option maxRecDepth 20000 in
theorem ggX8_carries_X8_digit : GoodIn wsX8_carries wsX8_digit := goodIn_r _ [6, 7, 8, 9, 5, 10, 11, 12, 13, 14, 15, 94, 95, 96, 97, 98, 99, 100] (by decide +kernel) (by decide +kernel)
set_option maxRecDepth 20000 in
theorem gX8_carries_X8_digit : GoodIn wsX8_carries (wsV RX8 135 RX8 yX8_digit wsX8_digit) := goodIn_app (goodIn_of _ (by decide +kernel)) ggX8_carries_X8_digit
set_option maxRecDepth 20000 in
theorem ggX8_carries_X8_numberAt : GoodIn wsX8_carries wsX8_numberAt := goodIn_r _ [19, 20, 21, 22, 5, 23, 2, 3, 4, 6, 7, 8, 9, 10, 11, 12, 13, 14, 15, 94, 95, 96, 97, 98, 99, 100] (by decide +kernel) (by decide +kernel)
set_option maxRecDepth 20000 in
theorem gX8_carries_X8_numberAt : GoodIn wsX8_carries (wsV RX8 156 RX8 yX8_numberAt wsX8_numberAt) := goodIn_app (goodIn_of _ (by decide +kernel)) ggX8_carries_X8_numberAt
set_option maxRecDepth 20000 in
theorem ggX8_carries_X8_sign : GoodIn wsX8_carries wsX8_sign := goodIn_r _ [10, 11, 12, 94, 95, 96, 97, 98, 99, 100] (by decide +kernel) (by decide +kernel)
set_option maxRecDepth 20000 in
theorem gX8_carries_X8_sign : GoodIn wsX8_carries (wsV RX8 132 RX8 yX8_sign wsX8_sign) := goodIn_app (goodIn_of _ (by decide +kernel)) ggX8_carries_X8_sign
set_option maxRecDepth 20000 in
theorem ggX8_carries_X8_comesBy : GoodIn wsX8_carries wsX8_comesBy := goodIn_r _ [27, 1, 20, 21, 22, 5, 23, 2, 3, 4, 6, 7, 8, 9, 10, 11, 12, 13, 14, 15, 28, 29, 30, 31, 16, 17, 18, 19, 32, 33, 34, 35, 36, 37, 38, 39, 40, 41, 42, 43, 44, 45, 46, 47, 48, 49, 50, 51, 52, 53, 54, 94, 95, 96, 97, 98, 99, 100] (by decide +kernel) (by decide +kernel)
set_option maxRecDepth 20000 in
theorem gX8_carries_X8_comesBy : GoodIn wsX8_carries (wsV RX8 159 RX8 yX8_comesBy wsX8_comesBy) := goodIn_app (goodIn_of _ (by decide +kernel)) ggX8_carries_X8_comesBy
set_option maxRecDepth 20000 in
theorem ggX8_carries_X8_numberEnd : GoodIn wsX8_carries wsX8_numberEnd := goodIn_r _ [23, 2, 3, 4, 5, 6, 7, 8, 9, 10, 11, 12, 13, 14, 15, 94, 95, 96, 97, 98, 99, 100] (by decide +kernel) (by decide +kernel)
set_option maxRecDepth 20000 in
theorem gX8_carries_X8_numberEnd : GoodIn wsX8_carries (wsV RX8 138 RX8 yX8_numberEnd wsX8_numberEnd) := goodIn_app (goodIn_of _ (by decide +kernel)) ggX8_carries_X8_numberEnd
set_option maxRecDepth 20000 in
theorem ggX8_carries_X8_isFlash : GoodIn wsX8_carries wsX8_isFlash := goodIn_r _ [57, 13, 14, 5, 15] (by decide +kernel) (by decide +kernel)
set_option maxRecDepth 20000 in
theorem gX8_carries_X8_isFlash : GoodIn wsX8_carries (va_wsS RX8 77 yX8_isFlash wsX8_isFlash) := goodIn_app (goodIn_of _ (by decide +kernel)) ggX8_carries_X8_isFlash
set_option maxRecDepth 20000 in
theorem ggX8_carries_X8_flashes : GoodIn wsX8_carries wsX8_flashes := goodIn_r _ [61, 1, 94, 95, 96, 97, 98, 99, 100] (by decide +kernel) (by decide +kernel)
set_option maxRecDepth 20000 in
theorem gX8_carries_X8_flashes : GoodIn wsX8_carries (wsV RX8 81 RX8 yX8_flashes wsX8_flashes) := goodIn_app (goodIn_of _ (by decide +kernel)) ggX8_carries_X8_flashes
set_option maxRecDepth 20000 in
theorem ggX8_carries_X8_whyNotPass : GoodIn wsX8_carries wsX8_whyNotPass := goodIn_r _ [65, 1, 13, 14, 5, 15, 94, 95, 96, 97, 98, 99, 100] (by decide +kernel) (by decide +kernel)
set_option maxRecDepth 20000 in
theorem gX8_carries_X8_whyNotPass : GoodIn wsX8_carries (wsV RX8 84 RX8 yX8_whyNotPass wsX8_whyNotPass) := goodIn_app (goodIn_of _ (by decide +kernel)) ggX8_carries_X8_whyNotPass
set_option maxRecDepth 20000 in
theorem ggX8_carries_X8_whyNotShoot : GoodIn wsX8_carries wsX8_whyNotShoot := goodIn_r _ [69, 1, 94, 95, 96, 97, 98, 99, 100] (by decide +kernel) (by decide +kernel)
set_option maxRecDepth 20000 in
theorem gX8_carries_X8_whyNotShoot : GoodIn wsX8_carries (wsV RX8 90 RX8 yX8_whyNotShoot wsX8_whyNotShoot) := goodIn_app (goodIn_of _ (by decide +kernel)) ggX8_carries_X8_whyNotShoot
set_option maxRecDepth 20000 in
theorem ggX8_carries_X8_shoots : GoodIn wsX8_carries wsX8_shoots := goodIn_r _ [73, 1, 74, 75, 76, 5, 77, 78, 79, 80, 81, 82, 83, 84, 85, 48, 49, 50, 51, 13, 14, 15, 44, 45, 46, 47, 52, 53, 54, 86, 87, 88, 89, 90, 91, 92, 93, 94, 95, 96, 97, 98, 99, 100] (by decide +kernel) (by decide +kernel)
set_option maxRecDepth 20000 in
theorem gX8_carries_X8_shoots : GoodIn wsX8_carries (wsV RX8 94 RX8 yX8_shoots wsX8_shoots) := goodIn_app (goodIn_of _ (by decide +kernel)) ggX8_carries_X8_shoots
theorem dX8_carries_0 : decode cX8_carries 0 = .ok (.aload_n 0, 1) := by decide +kernel
theorem dX8_carries_1 : decode cX8_carries 1 = .ok (.iload_n 1, 1) := by decide +kernel
theorem dX8_carries_2 : decode cX8_carries 2 = .ok (.iconst 1, 1) := by decide +kernel
theorem dX8_carries_3 : decode cX8_carries 3 = .ok (.iadd, 1) := by decide +kernel
theorem dX8_carries_4 : decode cX8_carries 4 = .ok (.invokevirtual 135, 3) := by decide +kernel
theorem dX8_carries_7 : decode cX8_carries 7 = .ok (.ifCond .ge 7, 3) := by decide +kernel
theorem dX8_carries_10 : decode cX8_carries 10 = .ok (.iconst 0, 1) := by decide +kernel
theorem dX8_carries_11 : decode cX8_carries 11 = .ok (.goto 10, 3) := by decide +kernel
theorem dX8_carries_14 : decode cX8_carries 14 = .ok (.aload_n 0, 1) := by decide +kernel
theorem dX8_carries_15 : decode cX8_carries 15 = .ok (.iload_n 1, 1) := by decide +kernel
theorem dX8_carries_16 : decode cX8_carries 16 = .ok (.iconst 1, 1) := by decide +kernel
theorem dX8_carries_17 : decode cX8_carries 17 = .ok (.iadd, 1) := by decide +kernel
theorem dX8_carries_18 : decode cX8_carries 18 = .ok (.invokevirtual 156, 3) := by decide +kernel
theorem dX8_carries_21 : decode cX8_carries 21 = .ok (.istore_n 2, 1) := by decide +kernel
theorem dX8_carries_22 : decode cX8_carries 22 = .ok (.iconst 0, 1) := by decide +kernel
theorem dX8_carries_23 : decode cX8_carries 23 = .ok (.istore_n 3, 1) := by decide +kernel
theorem dX8_carries_24 : decode cX8_carries 24 = .ok (.iconst 0, 1) := by decide +kernel
theorem dX8_carries_25 : decode cX8_carries 25 = .ok (.istore 4, 2) := by decide +kernel
theorem dX8_carries_27 : decode cX8_carries 27 = .ok (.aload_n 0, 1) := by decide +kernel
theorem dX8_carries_28 : decode cX8_carries 28 = .ok (.iload_n 1, 1) := by decide +kernel
theorem dX8_carries_29 : decode cX8_carries 29 = .ok (.invokevirtual 132, 3) := by decide +kernel
theorem dX8_carries_32 : decode cX8_carries 32 = .ok (.lookupswitch 118 #[(102, 42), (103, 36), (119, 92)], 36) := by decide +kernel
theorem dX8_carries_68 : decode cX8_carries 68 = .ok (.aload_n 0, 1) := by decide +kernel
theorem dX8_carries_69 : decode cX8_carries 69 = .ok (.iload_n 1, 1) := by decide +kernel
theorem dX8_carries_70 : decode cX8_carries 70 = .ok (.invokevirtual 159, 3) := by decide +kernel
theorem dX8_carries_73 : decode cX8_carries 73 = .ok (.ireturn, 1) := by decide +kernel
theorem dX8_carries_74 : decode cX8_carries 74 = .ok (.aload_n 0, 1) := by decide +kernel
theorem dX8_carries_75 : decode cX8_carries 75 = .ok (.aload_n 0, 1) := by decide +kernel
theorem dX8_carries_76 : decode cX8_carries 76 = .ok (.iload_n 1, 1) := by decide +kernel
theorem dX8_carries_77 : decode cX8_carries 77 = .ok (.iconst 1, 1) := by decide +kernel
theorem dX8_carries_78 : decode cX8_carries 78 = .ok (.iadd, 1) := by decide +kernel
theorem dX8_carries_79 : decode cX8_carries 79 = .ok (.invokevirtual 138, 3) := by decide +kernel
theorem dX8_carries_82 : decode cX8_carries 82 = .ok (.iconst 1, 1) := by decide +kernel
theorem dX8_carries_83 : decode cX8_carries 83 = .ok (.iadd, 1) := by decide +kernel
theorem dX8_carries_84 : decode cX8_carries 84 = .ok (.invokevirtual 156, 3) := by decide +kernel
theorem dX8_carries_87 : decode cX8_carries 87 = .ok (.istore 5, 2) := by decide +kernel
theorem dX8_carries_89 : decode cX8_carries 89 = .ok (.iload_n 2, 1) := by decide +kernel
theorem dX8_carries_90 : decode cX8_carries 90 = .ok (.iload 5, 2) := by decide +kernel
theorem dX8_carries_92 : decode cX8_carries 92 = .ok (.invokestatic 77, 3) := by decide +kernel
theorem dX8_carries_95 : decode cX8_carries 95 = .ok (.ifCond .eq 7, 3) := by decide +kernel
theorem dX8_carries_98 : decode cX8_carries 98 = .ok (.iconst 0, 1) := by decide +kernel
theorem dX8_carries_99 : decode cX8_carries 99 = .ok (.goto 5, 3) := by decide +kernel
theorem dX8_carries_102 : decode cX8_carries 102 = .ok (.bipush (-2), 2) := by decide +kernel
theorem dX8_carries_104 : decode cX8_carries 104 = .ok (.istore_n 3, 1) := by decide +kernel
theorem dX8_carries_105 : decode cX8_carries 105 = .ok (.iload_n 3, 1) := by decide +kernel
theorem dX8_carries_106 : decode cX8_carries 106 = .ok (.ifCond .ge 7, 3) := by decide +kernel
theorem dX8_carries_109 : decode cX8_carries 109 = .ok (.iconst 0, 1) := by decide +kernel
theorem dX8_carries_110 : decode cX8_carries 110 = .ok (.goto 10, 3) := by decide +kernel
theorem dX8_carries_113 : decode cX8_carries 113 = .ok (.aload_n 0, 1) := by decide +kernel
theorem dX8_carries_114 : decode cX8_carries 114 = .ok (.iload_n 2, 1) := by decide +kernel
theorem dX8_carries_115 : decode cX8_carries 115 = .ok (.iload 5, 2) := by decide +kernel
theorem dX8_carries_117 : decode cX8_carries 117 = .ok (.invokevirtual 81, 3) := by decide +kernel
theorem dX8_carries_120 : decode cX8_carries 120 = .ok (.istore 4, 2) := by decide +kernel
theorem dX8_carries_122 : decode cX8_carries 122 = .ok (.iload_n 3, 1) := by decide +kernel
theorem dX8_carries_123 : decode cX8_carries 123 = .ok (.ireturn, 1) := by decide +kernel
theorem dX8_carries_124 : decode cX8_carries 124 = .ok (.aload_n 0, 1) := by decide +kernel
theorem dX8_carries_125 : decode cX8_carries 125 = .ok (.iload_n 2, 1) := by decide +kernel
theorem dX8_carries_126 : decode cX8_carries 126 = .ok (.invokevirtual 84, 3) := by decide +kernel
theorem dX8_carries_129 : decode cX8_carries 129 = .ok (.istore_n 3, 1) := by decide +kernel
theorem dX8_carries_130 : decode cX8_carries 130 = .ok (.aload_n 0, 1) := by decide +kernel
theorem dX8_carries_131 : decode cX8_carries 131 = .ok (.getfield 7, 3) := by decide +kernel
theorem dX8_carries_134 : decode cX8_carries 134 = .ok (.iconst 4, 1) := by decide +kernel
theorem dX8_carries_135 : decode cX8_carries 135 = .ok (.dup2, 1) := by decide +kernel
theorem dX8_carries_136 : decode cX8_carries 136 = .ok (.iaload, 1) := by decide +kernel
theorem dX8_carries_137 : decode cX8_carries 137 = .ok (.iload_n 3, 1) := by decide +kernel
theorem dX8_carries_138 : decode cX8_carries 138 = .ok (.ifCond .ge 7, 3) := by decide +kernel
theorem dX8_carries_141 : decode cX8_carries 141 = .ok (.iconst 0, 1) := by decide +kernel
theorem dX8_carries_142 : decode cX8_carries 142 = .ok (.goto 4, 3) := by decide +kernel
theorem dX8_carries_145 : decode cX8_carries 145 = .ok (.iload_n 2, 1) := by decide +kernel
theorem dX8_carries_146 : decode cX8_carries 146 = .ok (.iadd, 1) := by decide +kernel
theorem dX8_carries_147 : decode cX8_carries 147 = .ok (.iastore, 1) := by decide +kernel
theorem dX8_carries_148 : decode cX8_carries 148 = .ok (.iload_n 3, 1) := by decide +kernel
theorem dX8_carries_149 : decode cX8_carries 149 = .ok (.ireturn, 1) := by decide +kernel
theorem dX8_carries_150 : decode cX8_carries 150 = .ok (.aload_n 0, 1) := by decide +kernel
theorem dX8_carries_151 : decode cX8_carries 151 = .ok (.invokevirtual 90, 3) := by decide +kernel
theorem dX8_carries_154 : decode cX8_carries 154 = .ok (.istore_n 3, 1) := by decide +kernel
theorem dX8_carries_155 : decode cX8_carries 155 = .ok (.iload_n 3, 1) := by decide +kernel
theorem dX8_carries_156 : decode cX8_carries 156 = .ok (.ifCond .ge 7, 3) := by decide +kernel
theorem dX8_carries_159 : decode cX8_carries 159 = .ok (.iconst 0, 1) := by decide +kernel
theorem dX8_carries_160 : decode cX8_carries 160 = .ok (.goto 7, 3) := by decide +kernel
theorem dX8_carries_163 : decode cX8_carries 163 = .ok (.aload_n 0, 1) := by decide +kernel
theorem dX8_carries_164 : decode cX8_carries 164 = .ok (.invokevirtual 94, 3) := by decide +kernel
theorem dX8_carries_167 : decode cX8_carries 167 = .ok (.istore 4, 2) := by decide +kernel
theorem dX8_carries_169 : decode cX8_carries 169 = .ok (.iload_n 3, 1) := by decide +kernel
theorem dX8_carries_170 : decode cX8_carries 170 = .ok (.ireturn, 1) := by decide +kernel
set_option maxRecDepth 20000 in
theorem ggX8_carryOut_X8_fault : GoodIn wsX8_carryOut wsX8_fault := goodIn_r _ [6, 1, 7, 8, 9, 5, 10, 11, 12, 13, 14, 15, 16, 17, 18, 19, 20, 21, 22, 23, 24, 25, 26, 27, 28, 29, 30, 31, 32, 33, 34, 35, 36, 37, 38, 39, 40, 41, 42, 124, 125, 126, 127, 128, 129, 130] (by decide +kernel) (by decide +kernel)
set_option maxRecDepth 20000 in
theorem gX8_carryOut_X8_fault : GoodIn wsX8_carryOut (wsV RX8 162 RX8 yX8_fault wsX8_fault) := goodIn_app (goodIn_of _ (by decide +kernel)) ggX8_carryOut_X8_fault
set_option maxRecDepth 20000 in
theorem ggX8_carryOut_X8_remembers : GoodIn wsX8_carryOut wsX8_remembers := goodIn_r _ [46, 47, 48, 49, 124, 125, 126, 127, 128, 129, 130] (by decide +kernel) (by decide +kernel)
set_option maxRecDepth 20000 in
theorem gX8_carryOut_X8_remembers : GoodIn wsX8_carryOut (wsV RX8 60 RX8 yX8_remembers wsX8_remembers) := goodIn_app (goodIn_of _ (by decide +kernel)) ggX8_carryOut_X8_remembers
set_option maxRecDepth 20000 in
theorem ggX8_carryOut_X8_carries : GoodIn wsX8_carryOut wsX8_carries := goodIn_r _ [53, 49, 24, 25, 26, 5, 27, 11, 12, 13, 14, 1, 15, 28, 29, 30, 54, 55, 56, 57, 20, 21, 22, 23, 58, 59, 60, 61, 39, 40, 41, 42, 62, 63, 64, 65, 66, 67, 68, 69, 70, 71, 72, 73, 74, 75, 76, 77, 78, 79, 80, 81, 82, 83, 84, 85, 86, 87, 88, 89, 90, 91, 92, 93, 94, 95, 96, 97, 98, 99, 100, 101, 102, 103, 104, 105, 106, 107, 108, 109, 110, 111, 112, 113, 114, 115, 116, 117, 118, 119, 120, 121, 122, 123, 124, 125, 126, 127, 128, 129, 130] (by decide +kernel) (by decide +kernel)
set_option maxRecDepth 20000 in
theorem gX8_carryOut_X8_carries : GoodIn wsX8_carryOut (wsV RX8 165 RX8 yX8_carries wsX8_carries) := goodIn_app (goodIn_of _ (by decide +kernel)) ggX8_carryOut_X8_carries
set_option maxRecDepth 20000 in
theorem ggX8_carryOut_X8_orderEnd : GoodIn wsX8_carryOut wsX8_orderEnd := goodIn_r _ [10, 11, 12, 13, 5, 14, 1, 15, 16, 17, 18, 19, 20, 21, 22, 23, 24, 25, 26, 27, 28, 29, 30, 31, 32, 33, 34, 35, 36, 37, 38, 39, 40, 41, 42, 124, 125, 126, 127, 128, 129, 130] (by decide +kernel) (by decide +kernel)
set_option maxRecDepth 20000 in
theorem gX8_carryOut_X8_orderEnd : GoodIn wsX8_carryOut (wsV RX8 153 RX8 yX8_orderEnd wsX8_orderEnd) := goodIn_app (goodIn_of _ (by decide +kernel)) ggX8_carryOut_X8_orderEnd
theorem dX8_carryOut_0 : decode cX8_carryOut 0 = .ok (.aload_n 0, 1) := by decide +kernel
theorem dX8_carryOut_1 : decode cX8_carryOut 1 = .ok (.invokevirtual 162, 3) := by decide +kernel
theorem dX8_carryOut_4 : decode cX8_carryOut 4 = .ok (.bipush (-6), 2) := by decide +kernel
theorem dX8_carryOut_6 : decode cX8_carryOut 6 = .ok (.if_icmp .eq 6, 3) := by decide +kernel
theorem dX8_carryOut_9 : decode cX8_carryOut 9 = .ok (.bipush (-3), 2) := by decide +kernel
theorem dX8_carryOut_11 : decode cX8_carryOut 11 = .ok (.ireturn, 1) := by decide +kernel
theorem dX8_carryOut_12 : decode cX8_carryOut 12 = .ok (.aload_n 0, 1) := by decide +kernel
theorem dX8_carryOut_13 : decode cX8_carryOut 13 = .ok (.invokevirtual 60, 3) := by decide +kernel
theorem dX8_carryOut_16 : decode cX8_carryOut 16 = .ok (.iconst 0, 1) := by decide +kernel
theorem dX8_carryOut_17 : decode cX8_carryOut 17 = .ok (.istore_n 1, 1) := by decide +kernel
theorem dX8_carryOut_18 : decode cX8_carryOut 18 = .ok (.iconst 0, 1) := by decide +kernel
theorem dX8_carryOut_19 : decode cX8_carryOut 19 = .ok (.istore_n 2, 1) := by decide +kernel
theorem dX8_carryOut_20 : decode cX8_carryOut 20 = .ok (.iload_n 2, 1) := by decide +kernel
theorem dX8_carryOut_21 : decode cX8_carryOut 21 = .ok (.aload_n 0, 1) := by decide +kernel
theorem dX8_carryOut_22 : decode cX8_carryOut 22 = .ok (.getfield 121, 3) := by decide +kernel
theorem dX8_carryOut_25 : decode cX8_carryOut 25 = .ok (.if_icmp .ge 25, 3) := by decide +kernel
theorem dX8_carryOut_28 : decode cX8_carryOut 28 = .ok (.aload_n 0, 1) := by decide +kernel
theorem dX8_carryOut_29 : decode cX8_carryOut 29 = .ok (.iload_n 2, 1) := by decide +kernel
theorem dX8_carryOut_30 : decode cX8_carryOut 30 = .ok (.invokevirtual 165, 3) := by decide +kernel
theorem dX8_carryOut_33 : decode cX8_carryOut 33 = .ok (.ifCond .ne 17, 3) := by decide +kernel
theorem dX8_carryOut_36 : decode cX8_carryOut 36 = .ok (.iinc 1 1, 3) := by decide +kernel
theorem dX8_carryOut_39 : decode cX8_carryOut 39 = .ok (.aload_n 0, 1) := by decide +kernel
theorem dX8_carryOut_40 : decode cX8_carryOut 40 = .ok (.iload_n 2, 1) := by decide +kernel
theorem dX8_carryOut_41 : decode cX8_carryOut 41 = .ok (.invokevirtual 153, 3) := by decide +kernel
theorem dX8_carryOut_44 : decode cX8_carryOut 44 = .ok (.iconst 1, 1) := by decide +kernel
theorem dX8_carryOut_45 : decode cX8_carryOut 45 = .ok (.iadd, 1) := by decide +kernel
theorem dX8_carryOut_46 : decode cX8_carryOut 46 = .ok (.istore_n 2, 1) := by decide +kernel
theorem dX8_carryOut_47 : decode cX8_carryOut 47 = .ok (.goto (-27), 3) := by decide +kernel
theorem dX8_carryOut_50 : decode cX8_carryOut 50 = .ok (.aload_n 0, 1) := by decide +kernel
theorem dX8_carryOut_51 : decode cX8_carryOut 51 = .ok (.iconst 0, 1) := by decide +kernel
theorem dX8_carryOut_52 : decode cX8_carryOut 52 = .ok (.putfield 121, 3) := by decide +kernel
theorem dX8_carryOut_55 : decode cX8_carryOut 55 = .ok (.iload_n 1, 1) := by decide +kernel
theorem dX8_carryOut_56 : decode cX8_carryOut 56 = .ok (.ireturn, 1) := by decide +kernel
theorem dX8_undo_0 : decode cX8_undo 0 = .ok (.aload_n 0, 1) := by decide +kernel
theorem dX8_undo_1 : decode cX8_undo 1 = .ok (.getfield 26, 3) := by decide +kernel
theorem dX8_undo_4 : decode cX8_undo 4 = .ok (.ifCond .ne 6, 3) := by decide +kernel
theorem dX8_undo_7 : decode cX8_undo 7 = .ok (.bipush (-5), 2) := by decide +kernel
theorem dX8_undo_9 : decode cX8_undo 9 = .ok (.ireturn, 1) := by decide +kernel
theorem dX8_undo_10 : decode cX8_undo 10 = .ok (.aload_n 0, 1) := by decide +kernel
theorem dX8_undo_11 : decode cX8_undo 11 = .ok (.dup, 1) := by decide +kernel
theorem dX8_undo_12 : decode cX8_undo 12 = .ok (.getfield 26, 3) := by decide +kernel
theorem dX8_undo_15 : decode cX8_undo 15 = .ok (.iconst 1, 1) := by decide +kernel
theorem dX8_undo_16 : decode cX8_undo 16 = .ok (.isub, 1) := by decide +kernel
theorem dX8_undo_17 : decode cX8_undo 17 = .ok (.putfield 26, 3) := by decide +kernel
theorem dX8_undo_20 : decode cX8_undo 20 = .ok (.iconst 0, 1) := by decide +kernel
theorem dX8_undo_21 : decode cX8_undo 21 = .ok (.istore_n 1, 1) := by decide +kernel
theorem dX8_undo_22 : decode cX8_undo 22 = .ok (.iload_n 1, 1) := by decide +kernel
theorem dX8_undo_23 : decode cX8_undo 23 = .ok (.sipush 465, 3) := by decide +kernel
theorem dX8_undo_26 : decode cX8_undo 26 = .ok (.if_icmp .ge 30, 3) := by decide +kernel
theorem dX8_undo_29 : decode cX8_undo 29 = .ok (.aload_n 0, 1) := by decide +kernel
theorem dX8_undo_30 : decode cX8_undo 30 = .ok (.getfield 7, 3) := by decide +kernel
theorem dX8_undo_33 : decode cX8_undo 33 = .ok (.iload_n 1, 1) := by decide +kernel
theorem dX8_undo_34 : decode cX8_undo 34 = .ok (.aload_n 0, 1) := by decide +kernel
theorem dX8_undo_35 : decode cX8_undo 35 = .ok (.getfield 13, 3) := by decide +kernel
theorem dX8_undo_38 : decode cX8_undo 38 = .ok (.sipush 465, 3) := by decide +kernel
theorem dX8_undo_41 : decode cX8_undo 41 = .ok (.aload_n 0, 1) := by decide +kernel
theorem dX8_undo_42 : decode cX8_undo 42 = .ok (.getfield 26, 3) := by decide +kernel
theorem dX8_undo_45 : decode cX8_undo 45 = .ok (.imul, 1) := by decide +kernel
theorem dX8_undo_46 : decode cX8_undo 46 = .ok (.iload_n 1, 1) := by decide +kernel
theorem dX8_undo_47 : decode cX8_undo 47 = .ok (.iadd, 1) := by decide +kernel
theorem dX8_undo_48 : decode cX8_undo 48 = .ok (.iaload, 1) := by decide +kernel
theorem dX8_undo_49 : decode cX8_undo 49 = .ok (.iastore, 1) := by decide +kernel
theorem dX8_undo_50 : decode cX8_undo 50 = .ok (.iinc 1 1, 3) := by decide +kernel
theorem dX8_undo_53 : decode cX8_undo 53 = .ok (.goto (-31), 3) := by decide +kernel
theorem dX8_undo_56 : decode cX8_undo 56 = .ok (.aload_n 0, 1) := by decide +kernel
theorem dX8_undo_57 : decode cX8_undo 57 = .ok (.getfield 26, 3) := by decide +kernel
theorem dX8_undo_60 : decode cX8_undo 60 = .ok (.ireturn, 1) := by decide +kernel
set_option maxRecDepth 20000 in
theorem ggX8_save_X8_in : GoodIn wsX8_save wsX8_in := goodIn_r _ [7] (by decide +kernel) (by decide +kernel)
set_option maxRecDepth 20000 in
theorem gX8_save_X8_in : GoodIn wsX8_save (va_wsS RX8 30 yX8_in wsX8_in) := goodIn_app (goodIn_of _ (by decide +kernel)) ggX8_save_X8_in
theorem dX8_save_0 : decode cX8_save 0 = .ok (.iload_n 1, 1) := by decide +kernel
theorem dX8_save_1 : decode cX8_save 1 = .ok (.iconst 0, 1) := by decide +kernel
theorem dX8_save_2 : decode cX8_save 2 = .ok (.iconst 1, 1) := by decide +kernel
theorem dX8_save_3 : decode cX8_save 3 = .ok (.invokestatic 30, 3) := by decide +kernel
theorem dX8_save_6 : decode cX8_save 6 = .ok (.ifCond .ne 6, 3) := by decide +kernel
theorem dX8_save_9 : decode cX8_save 9 = .ok (.bipush (-2), 2) := by decide +kernel
theorem dX8_save_11 : decode cX8_save 11 = .ok (.ireturn, 1) := by decide +kernel
theorem dX8_save_12 : decode cX8_save 12 = .ok (.iconst 0, 1) := by decide +kernel
theorem dX8_save_13 : decode cX8_save 13 = .ok (.istore_n 2, 1) := by decide +kernel
theorem dX8_save_14 : decode cX8_save 14 = .ok (.iload_n 2, 1) := by decide +kernel
theorem dX8_save_15 : decode cX8_save 15 = .ok (.sipush 465, 3) := by decide +kernel
theorem dX8_save_18 : decode cX8_save 18 = .ok (.if_icmp .ge 27, 3) := by decide +kernel
theorem dX8_save_21 : decode cX8_save 21 = .ok (.aload_n 0, 1) := by decide +kernel
theorem dX8_save_22 : decode cX8_save 22 = .ok (.getfield 16, 3) := by decide +kernel
theorem dX8_save_25 : decode cX8_save 25 = .ok (.sipush 465, 3) := by decide +kernel
theorem dX8_save_28 : decode cX8_save 28 = .ok (.iload_n 1, 1) := by decide +kernel
theorem dX8_save_29 : decode cX8_save 29 = .ok (.imul, 1) := by decide +kernel
theorem dX8_save_30 : decode cX8_save 30 = .ok (.iload_n 2, 1) := by decide +kernel
theorem dX8_save_31 : decode cX8_save 31 = .ok (.iadd, 1) := by decide +kernel
theorem dX8_save_32 : decode cX8_save 32 = .ok (.aload_n 0, 1) := by decide +kernel
theorem dX8_save_33 : decode cX8_save 33 = .ok (.getfield 7, 3) := by decide +kernel
theorem dX8_save_36 : decode cX8_save 36 = .ok (.iload_n 2, 1) := by decide +kernel
theorem dX8_save_37 : decode cX8_save 37 = .ok (.iaload, 1) := by decide +kernel
theorem dX8_save_38 : decode cX8_save 38 = .ok (.iastore, 1) := by decide +kernel
theorem dX8_save_39 : decode cX8_save 39 = .ok (.iinc 2 1, 3) := by decide +kernel
theorem dX8_save_42 : decode cX8_save 42 = .ok (.goto (-28), 3) := by decide +kernel
theorem dX8_save_45 : decode cX8_save 45 = .ok (.aload_n 0, 1) := by decide +kernel
theorem dX8_save_46 : decode cX8_save 46 = .ok (.getfield 19, 3) := by decide +kernel
theorem dX8_save_49 : decode cX8_save 49 = .ok (.iload_n 1, 1) := by decide +kernel
theorem dX8_save_50 : decode cX8_save 50 = .ok (.iconst 1, 1) := by decide +kernel
theorem dX8_save_51 : decode cX8_save 51 = .ok (.bastore, 1) := by decide +kernel
theorem dX8_save_52 : decode cX8_save 52 = .ok (.aload_n 0, 1) := by decide +kernel
theorem dX8_save_53 : decode cX8_save 53 = .ok (.getfield 7, 3) := by decide +kernel
theorem dX8_save_56 : decode cX8_save 56 = .ok (.iconst 5, 1) := by decide +kernel
theorem dX8_save_57 : decode cX8_save 57 = .ok (.iaload, 1) := by decide +kernel
theorem dX8_save_58 : decode cX8_save 58 = .ok (.ireturn, 1) := by decide +kernel
set_option maxRecDepth 20000 in
theorem ggX8_restore_X8_in : GoodIn wsX8_restore wsX8_in := goodIn_r _ [7] (by decide +kernel) (by decide +kernel)
set_option maxRecDepth 20000 in
theorem gX8_restore_X8_in : GoodIn wsX8_restore (va_wsS RX8 30 yX8_in wsX8_in) := goodIn_app (goodIn_of _ (by decide +kernel)) ggX8_restore_X8_in
set_option maxRecDepth 20000 in
theorem ggX8_restore_X8_remembers : GoodIn wsX8_restore wsX8_remembers := goodIn_r _ [11, 12, 13, 2, 14, 15, 16, 17, 18, 19, 20] (by decide +kernel) (by decide +kernel)
set_option maxRecDepth 20000 in
theorem gX8_restore_X8_remembers : GoodIn wsX8_restore (wsV RX8 60 RX8 yX8_remembers wsX8_remembers) := goodIn_app (goodIn_of _ (by decide +kernel)) ggX8_restore_X8_remembers
theorem dX8_restore_0 : decode cX8_restore 0 = .ok (.iload_n 1, 1) := by decide +kernel
theorem dX8_restore_1 : decode cX8_restore 1 = .ok (.iconst 0, 1) := by decide +kernel
theorem dX8_restore_2 : decode cX8_restore 2 = .ok (.iconst 1, 1) := by decide +kernel
theorem dX8_restore_3 : decode cX8_restore 3 = .ok (.invokestatic 30, 3) := by decide +kernel
theorem dX8_restore_6 : decode cX8_restore 6 = .ok (.ifCond .ne 6, 3) := by decide +kernel
theorem dX8_restore_9 : decode cX8_restore 9 = .ok (.bipush (-2), 2) := by decide +kernel
theorem dX8_restore_11 : decode cX8_restore 11 = .ok (.ireturn, 1) := by decide +kernel
theorem dX8_restore_12 : decode cX8_restore 12 = .ok (.aload_n 0, 1) := by decide +kernel
theorem dX8_restore_13 : decode cX8_restore 13 = .ok (.getfield 19, 3) := by decide +kernel
theorem dX8_restore_16 : decode cX8_restore 16 = .ok (.iload_n 1, 1) := by decide +kernel
theorem dX8_restore_17 : decode cX8_restore 17 = .ok (.baload, 1) := by decide +kernel
theorem dX8_restore_18 : decode cX8_restore 18 = .ok (.ifCond .ne 6, 3) := by decide +kernel
theorem dX8_restore_21 : decode cX8_restore 21 = .ok (.bipush (-5), 2) := by decide +kernel
theorem dX8_restore_23 : decode cX8_restore 23 = .ok (.ireturn, 1) := by decide +kernel
theorem dX8_restore_24 : decode cX8_restore 24 = .ok (.aload_n 0, 1) := by decide +kernel
theorem dX8_restore_25 : decode cX8_restore 25 = .ok (.invokevirtual 60, 3) := by decide +kernel
theorem dX8_restore_28 : decode cX8_restore 28 = .ok (.iconst 0, 1) := by decide +kernel
theorem dX8_restore_29 : decode cX8_restore 29 = .ok (.istore_n 2, 1) := by decide +kernel
theorem dX8_restore_30 : decode cX8_restore 30 = .ok (.iload_n 2, 1) := by decide +kernel
theorem dX8_restore_31 : decode cX8_restore 31 = .ok (.sipush 465, 3) := by decide +kernel
theorem dX8_restore_34 : decode cX8_restore 34 = .ok (.if_icmp .ge 27, 3) := by decide +kernel
theorem dX8_restore_37 : decode cX8_restore 37 = .ok (.aload_n 0, 1) := by decide +kernel
theorem dX8_restore_38 : decode cX8_restore 38 = .ok (.getfield 7, 3) := by decide +kernel
theorem dX8_restore_41 : decode cX8_restore 41 = .ok (.iload_n 2, 1) := by decide +kernel
theorem dX8_restore_42 : decode cX8_restore 42 = .ok (.aload_n 0, 1) := by decide +kernel
theorem dX8_restore_43 : decode cX8_restore 43 = .ok (.getfield 16, 3) := by decide +kernel
theorem dX8_restore_46 : decode cX8_restore 46 = .ok (.sipush 465, 3) := by decide +kernel
theorem dX8_restore_49 : decode cX8_restore 49 = .ok (.iload_n 1, 1) := by decide +kernel
theorem dX8_restore_50 : decode cX8_restore 50 = .ok (.imul, 1) := by decide +kernel
theorem dX8_restore_51 : decode cX8_restore 51 = .ok (.iload_n 2, 1) := by decide +kernel
theorem dX8_restore_52 : decode cX8_restore 52 = .ok (.iadd, 1) := by decide +kernel
theorem dX8_restore_53 : decode cX8_restore 53 = .ok (.iaload, 1) := by decide +kernel
theorem dX8_restore_54 : decode cX8_restore 54 = .ok (.iastore, 1) := by decide +kernel
theorem dX8_restore_55 : decode cX8_restore 55 = .ok (.iinc 2 1, 3) := by decide +kernel
theorem dX8_restore_58 : decode cX8_restore 58 = .ok (.goto (-28), 3) := by decide +kernel
theorem dX8_restore_61 : decode cX8_restore 61 = .ok (.aload_n 0, 1) := by decide +kernel
theorem dX8_restore_62 : decode cX8_restore 62 = .ok (.getfield 7, 3) := by decide +kernel
theorem dX8_restore_65 : decode cX8_restore 65 = .ok (.iconst 5, 1) := by decide +kernel
theorem dX8_restore_66 : decode cX8_restore 66 = .ok (.iaload, 1) := by decide +kernel
theorem dX8_restore_67 : decode cX8_restore 67 = .ok (.ireturn, 1) := by decide +kernel
theorem dJ6_bitCount_0f7a4_0 : decode cJ6_bitCount_0f7a4 0 = .ok (.iload_n 0, 1) := by decide +kernel
theorem dJ6_bitCount_0f7a4_1 : decode cJ6_bitCount_0f7a4 1 = .ok (.iload_n 0, 1) := by decide +kernel
theorem dJ6_bitCount_0f7a4_2 : decode cJ6_bitCount_0f7a4 2 = .ok (.iconst 1, 1) := by decide +kernel
theorem dJ6_bitCount_0f7a4_3 : decode cJ6_bitCount_0f7a4 3 = .ok (.iushr, 1) := by decide +kernel
theorem dJ6_bitCount_0f7a4_4 : decode cJ6_bitCount_0f7a4 4 = .ok (.ldc_w 265, 3) := by decide +kernel
theorem dJ6_bitCount_0f7a4_7 : decode cJ6_bitCount_0f7a4 7 = .ok (.iand, 1) := by decide +kernel
theorem dJ6_bitCount_0f7a4_8 : decode cJ6_bitCount_0f7a4 8 = .ok (.isub, 1) := by decide +kernel
theorem dJ6_bitCount_0f7a4_9 : decode cJ6_bitCount_0f7a4 9 = .ok (.istore_n 0, 1) := by decide +kernel
theorem dJ6_bitCount_0f7a4_10 : decode cJ6_bitCount_0f7a4 10 = .ok (.iload_n 0, 1) := by decide +kernel
theorem dJ6_bitCount_0f7a4_11 : decode cJ6_bitCount_0f7a4 11 = .ok (.ldc_w 266, 3) := by decide +kernel
theorem dJ6_bitCount_0f7a4_14 : decode cJ6_bitCount_0f7a4 14 = .ok (.iand, 1) := by decide +kernel
theorem dJ6_bitCount_0f7a4_15 : decode cJ6_bitCount_0f7a4 15 = .ok (.iload_n 0, 1) := by decide +kernel
theorem dJ6_bitCount_0f7a4_16 : decode cJ6_bitCount_0f7a4 16 = .ok (.iconst 2, 1) := by decide +kernel
theorem dJ6_bitCount_0f7a4_17 : decode cJ6_bitCount_0f7a4 17 = .ok (.iushr, 1) := by decide +kernel
theorem dJ6_bitCount_0f7a4_18 : decode cJ6_bitCount_0f7a4 18 = .ok (.ldc_w 266, 3) := by decide +kernel
theorem dJ6_bitCount_0f7a4_21 : decode cJ6_bitCount_0f7a4 21 = .ok (.iand, 1) := by decide +kernel
theorem dJ6_bitCount_0f7a4_22 : decode cJ6_bitCount_0f7a4 22 = .ok (.iadd, 1) := by decide +kernel
theorem dJ6_bitCount_0f7a4_23 : decode cJ6_bitCount_0f7a4 23 = .ok (.istore_n 0, 1) := by decide +kernel
theorem dJ6_bitCount_0f7a4_24 : decode cJ6_bitCount_0f7a4 24 = .ok (.iload_n 0, 1) := by decide +kernel
theorem dJ6_bitCount_0f7a4_25 : decode cJ6_bitCount_0f7a4 25 = .ok (.iload_n 0, 1) := by decide +kernel
theorem dJ6_bitCount_0f7a4_26 : decode cJ6_bitCount_0f7a4 26 = .ok (.iconst 4, 1) := by decide +kernel
theorem dJ6_bitCount_0f7a4_27 : decode cJ6_bitCount_0f7a4 27 = .ok (.iushr, 1) := by decide +kernel
theorem dJ6_bitCount_0f7a4_28 : decode cJ6_bitCount_0f7a4 28 = .ok (.iadd, 1) := by decide +kernel
theorem dJ6_bitCount_0f7a4_29 : decode cJ6_bitCount_0f7a4 29 = .ok (.ldc_w 267, 3) := by decide +kernel
theorem dJ6_bitCount_0f7a4_32 : decode cJ6_bitCount_0f7a4 32 = .ok (.iand, 1) := by decide +kernel
theorem dJ6_bitCount_0f7a4_33 : decode cJ6_bitCount_0f7a4 33 = .ok (.istore_n 0, 1) := by decide +kernel
theorem dJ6_bitCount_0f7a4_34 : decode cJ6_bitCount_0f7a4 34 = .ok (.iload_n 0, 1) := by decide +kernel
theorem dJ6_bitCount_0f7a4_35 : decode cJ6_bitCount_0f7a4 35 = .ok (.iload_n 0, 1) := by decide +kernel
theorem dJ6_bitCount_0f7a4_36 : decode cJ6_bitCount_0f7a4 36 = .ok (.bipush 8, 2) := by decide +kernel
theorem dJ6_bitCount_0f7a4_38 : decode cJ6_bitCount_0f7a4 38 = .ok (.iushr, 1) := by decide +kernel
theorem dJ6_bitCount_0f7a4_39 : decode cJ6_bitCount_0f7a4 39 = .ok (.iadd, 1) := by decide +kernel
theorem dJ6_bitCount_0f7a4_40 : decode cJ6_bitCount_0f7a4 40 = .ok (.istore_n 0, 1) := by decide +kernel
theorem dJ6_bitCount_0f7a4_41 : decode cJ6_bitCount_0f7a4 41 = .ok (.iload_n 0, 1) := by decide +kernel
theorem dJ6_bitCount_0f7a4_42 : decode cJ6_bitCount_0f7a4 42 = .ok (.iload_n 0, 1) := by decide +kernel
theorem dJ6_bitCount_0f7a4_43 : decode cJ6_bitCount_0f7a4 43 = .ok (.bipush 16, 2) := by decide +kernel
theorem dJ6_bitCount_0f7a4_45 : decode cJ6_bitCount_0f7a4 45 = .ok (.iushr, 1) := by decide +kernel
theorem dJ6_bitCount_0f7a4_46 : decode cJ6_bitCount_0f7a4 46 = .ok (.iadd, 1) := by decide +kernel
theorem dJ6_bitCount_0f7a4_47 : decode cJ6_bitCount_0f7a4 47 = .ok (.istore_n 0, 1) := by decide +kernel
theorem dJ6_bitCount_0f7a4_48 : decode cJ6_bitCount_0f7a4 48 = .ok (.iload_n 0, 1) := by decide +kernel
theorem dJ6_bitCount_0f7a4_49 : decode cJ6_bitCount_0f7a4 49 = .ok (.bipush 63, 2) := by decide +kernel
theorem dJ6_bitCount_0f7a4_51 : decode cJ6_bitCount_0f7a4 51 = .ok (.iand, 1) := by decide +kernel
theorem dJ6_bitCount_0f7a4_52 : decode cJ6_bitCount_0f7a4 52 = .ok (.ireturn, 1) := by decide +kernel
theorem dJ9_floorDiv_7cf53_0 : decode cJ9_floorDiv_7cf53 0 = .ok (.iload_n 0, 1) := by decide +kernel
theorem dJ9_floorDiv_7cf53_1 : decode cJ9_floorDiv_7cf53 1 = .ok (.iload_n 1, 1) := by decide +kernel
theorem dJ9_floorDiv_7cf53_2 : decode cJ9_floorDiv_7cf53 2 = .ok (.idiv, 1) := by decide +kernel
theorem dJ9_floorDiv_7cf53_3 : decode cJ9_floorDiv_7cf53 3 = .ok (.istore_n 2, 1) := by decide +kernel
theorem dJ9_floorDiv_7cf53_4 : decode cJ9_floorDiv_7cf53 4 = .ok (.iload_n 0, 1) := by decide +kernel
theorem dJ9_floorDiv_7cf53_5 : decode cJ9_floorDiv_7cf53 5 = .ok (.iload_n 1, 1) := by decide +kernel
theorem dJ9_floorDiv_7cf53_6 : decode cJ9_floorDiv_7cf53 6 = .ok (.ixor, 1) := by decide +kernel
theorem dJ9_floorDiv_7cf53_7 : decode cJ9_floorDiv_7cf53 7 = .ok (.ifCond .ge 14, 3) := by decide +kernel
theorem dJ9_floorDiv_7cf53_10 : decode cJ9_floorDiv_7cf53 10 = .ok (.iload_n 2, 1) := by decide +kernel
theorem dJ9_floorDiv_7cf53_11 : decode cJ9_floorDiv_7cf53 11 = .ok (.iload_n 1, 1) := by decide +kernel
theorem dJ9_floorDiv_7cf53_12 : decode cJ9_floorDiv_7cf53 12 = .ok (.imul, 1) := by decide +kernel
theorem dJ9_floorDiv_7cf53_13 : decode cJ9_floorDiv_7cf53 13 = .ok (.iload_n 0, 1) := by decide +kernel
theorem dJ9_floorDiv_7cf53_14 : decode cJ9_floorDiv_7cf53 14 = .ok (.if_icmp .eq 7, 3) := by decide +kernel
theorem dJ9_floorDiv_7cf53_17 : decode cJ9_floorDiv_7cf53 17 = .ok (.iload_n 2, 1) := by decide +kernel
theorem dJ9_floorDiv_7cf53_18 : decode cJ9_floorDiv_7cf53 18 = .ok (.iconst 1, 1) := by decide +kernel
theorem dJ9_floorDiv_7cf53_19 : decode cJ9_floorDiv_7cf53 19 = .ok (.isub, 1) := by decide +kernel
theorem dJ9_floorDiv_7cf53_20 : decode cJ9_floorDiv_7cf53 20 = .ok (.ireturn, 1) := by decide +kernel
theorem dJ9_floorDiv_7cf53_21 : decode cJ9_floorDiv_7cf53 21 = .ok (.iload_n 2, 1) := by decide +kernel
theorem dJ9_floorDiv_7cf53_22 : decode cJ9_floorDiv_7cf53 22 = .ok (.ireturn, 1) := by decide +kernel
theorem dJ9_max_7cf53_0 : decode cJ9_max_7cf53 0 = .ok (.iload_n 0, 1) := by decide +kernel
theorem dJ9_max_7cf53_1 : decode cJ9_max_7cf53 1 = .ok (.iload_n 1, 1) := by decide +kernel
theorem dJ9_max_7cf53_2 : decode cJ9_max_7cf53 2 = .ok (.if_icmp .lt 7, 3) := by decide +kernel
theorem dJ9_max_7cf53_5 : decode cJ9_max_7cf53 5 = .ok (.iload_n 0, 1) := by decide +kernel
theorem dJ9_max_7cf53_6 : decode cJ9_max_7cf53 6 = .ok (.goto 4, 3) := by decide +kernel
theorem dJ9_max_7cf53_9 : decode cJ9_max_7cf53 9 = .ok (.iload_n 1, 1) := by decide +kernel
theorem dJ9_max_7cf53_10 : decode cJ9_max_7cf53 10 = .ok (.ireturn, 1) := by decide +kernel
theorem dJ9_min_7cf53_0 : decode cJ9_min_7cf53 0 = .ok (.iload_n 0, 1) := by decide +kernel
theorem dJ9_min_7cf53_1 : decode cJ9_min_7cf53 1 = .ok (.iload_n 1, 1) := by decide +kernel
theorem dJ9_min_7cf53_2 : decode cJ9_min_7cf53 2 = .ok (.if_icmp .gt 7, 3) := by decide +kernel
theorem dJ9_min_7cf53_5 : decode cJ9_min_7cf53 5 = .ok (.iload_n 0, 1) := by decide +kernel
theorem dJ9_min_7cf53_6 : decode cJ9_min_7cf53 6 = .ok (.goto 4, 3) := by decide +kernel
theorem dJ9_min_7cf53_9 : decode cJ9_min_7cf53 9 = .ok (.iload_n 1, 1) := by decide +kernel
theorem dJ9_min_7cf53_10 : decode cJ9_min_7cf53 10 = .ok (.ireturn, 1) := by decide +kernel
theorem dJ7_fill_53178_0 : decode cJ7_fill_53178 0 = .ok (.iconst 0, 1) := by decide +kernel
theorem dJ7_fill_53178_1 : decode cJ7_fill_53178 1 = .ok (.istore_n 2, 1) := by decide +kernel
theorem dJ7_fill_53178_2 : decode cJ7_fill_53178 2 = .ok (.aload_n 0, 1) := by decide +kernel
theorem dJ7_fill_53178_3 : decode cJ7_fill_53178 3 = .ok (.arraylength, 1) := by decide +kernel
theorem dJ7_fill_53178_4 : decode cJ7_fill_53178 4 = .ok (.istore_n 3, 1) := by decide +kernel
theorem dJ7_fill_53178_5 : decode cJ7_fill_53178 5 = .ok (.iload_n 2, 1) := by decide +kernel
theorem dJ7_fill_53178_6 : decode cJ7_fill_53178 6 = .ok (.iload_n 3, 1) := by decide +kernel
theorem dJ7_fill_53178_7 : decode cJ7_fill_53178 7 = .ok (.if_icmp .ge 13, 3) := by decide +kernel
theorem dJ7_fill_53178_10 : decode cJ7_fill_53178 10 = .ok (.aload_n 0, 1) := by decide +kernel
theorem dJ7_fill_53178_11 : decode cJ7_fill_53178 11 = .ok (.iload_n 2, 1) := by decide +kernel
theorem dJ7_fill_53178_12 : decode cJ7_fill_53178 12 = .ok (.iload_n 1, 1) := by decide +kernel
theorem dJ7_fill_53178_13 : decode cJ7_fill_53178 13 = .ok (.iastore, 1) := by decide +kernel
theorem dJ7_fill_53178_14 : decode cJ7_fill_53178 14 = .ok (.iinc 2 1, 3) := by decide +kernel
theorem dJ7_fill_53178_17 : decode cJ7_fill_53178 17 = .ok (.goto (-12), 3) := by decide +kernel
theorem dJ7_fill_53178_20 : decode cJ7_fill_53178 20 = .ok (.return_, 1) := by decide +kernel
