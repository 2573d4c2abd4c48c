theorem dX4_take_8 : decode cX4_take 8 = .ok (.invokevirtual 40, 3) := by decide +kernel
theorem dX4_take_11 : decode cX4_take 11 = .ok (.iload_n 1, 1) := by decide +kernel
theorem dX4_take_12 : decode cX4_take 12 = .ok (.if_icmp .eq 5, 3) := by decide +kernel
theorem dX4_take_15 : decode cX4_take 15 = .ok (.iconst 0, 1) := by decide +kernel
theorem dX4_take_16 : decode cX4_take 16 = .ok (.ireturn, 1) := by decide +kernel
theorem dX4_take_17 : decode cX4_take 17 = .ok (.aload_n 0, 1) := by decide +kernel
theorem dX4_take_18 : decode cX4_take 18 = .ok (.dup, 1) := by decide +kernel
theorem dX4_take_19 : decode cX4_take 19 = .ok (.getfield 9, 3) := by decide +kernel
theorem dX4_take_22 : decode cX4_take 22 = .ok (.iconst 1, 1) := by decide +kernel
theorem dX4_take_23 : decode cX4_take 23 = .ok (.iadd, 1) := by decide +kernel
theorem dX4_take_24 : decode cX4_take 24 = .ok (.putfield 9, 3) := by decide +kernel
theorem dX4_take_27 : decode cX4_take 27 = .ok (.iconst 1, 1) := by decide +kernel
theorem dX4_take_28 : decode cX4_take 28 = .ok (.ireturn, 1) := by decide +kernel
set_option maxRecDepth 20000 in
theorem ggX4_readThing_X4_readNumber : GoodIn wsX4_readThing wsX4_readNumber := goodIn_r _ [6, 7, 8, 1, 9, 10, 11, 5, 12, 13, 14, 15, 16, 17, 18, 19, 20, 21, 22, 27, 28, 29, 30, 31, 32] (by decide +kernel) (by decide +kernel)
set_option maxRecDepth 20000 in
theorem gX4_readThing_X4_readNumber : GoodIn wsX4_readThing (wsV RX4 47 RX4 yX4_readNumber wsX4_readNumber) := goodIn_app (goodIn_of _ (by decide +kernel)) ggX4_readThing_X4_readNumber
set_option maxRecDepth 20000 in
theorem ggX4_readThing_X4_take : GoodIn wsX4_readThing wsX4_take := goodIn_r _ [26, 7, 8, 13, 14, 15, 16, 17, 18, 19, 27, 28, 29, 30, 31, 32] (by decide +kernel) (by decide +kernel)
set_option maxRecDepth 20000 in
theorem gX4_readThing_X4_take : GoodIn wsX4_readThing (wsV RX4 31 RX4 yX4_take wsX4_take) := goodIn_app (goodIn_of _ (by decide +kernel)) ggX4_readThing_X4_take
set_option maxRecDepth 20000 in
theorem ggX4_readThing_X4_readDigit : GoodIn wsX4_readThing wsX4_readDigit := goodIn_r _ [12, 7, 8, 1, 13, 14, 15, 16, 17, 18, 19, 20, 21, 5, 22, 27, 28, 29, 30, 31, 32] (by decide +kernel) (by decide +kernel)
set_option maxRecDepth 20000 in
theorem gX4_readThing_X4_readDigit : GoodIn wsX4_readThing (wsV RX4 51 RX4 yX4_readDigit wsX4_readDigit) := goodIn_app (goodIn_of _ (by decide +kernel)) ggX4_readThing_X4_readDigit
theorem dX4_readThing_0 : decode cX4_readThing 0 = .ok (.aload_n 0, 1) := by decide +kernel
theorem dX4_readThing_1 : decode cX4_readThing 1 = .ok (.getfield 19, 3) := by decide +kernel
theorem dX4_readThing_4 : decode cX4_readThing 4 = .ok (.iconst 5, 1) := by decide +kernel
theorem dX4_readThing_5 : decode cX4_readThing 5 = .ok (.iconst 0, 1) := by decide +kernel
theorem dX4_readThing_6 : decode cX4_readThing 6 = .ok (.iastore, 1) := by decide +kernel
theorem dX4_readThing_7 : decode cX4_readThing 7 = .ok (.aload_n 0, 1) := by decide +kernel
theorem dX4_readThing_8 : decode cX4_readThing 8 = .ok (.getfield 19, 3) := by decide +kernel
theorem dX4_readThing_11 : decode cX4_readThing 11 = .ok (.bipush 6, 2) := by decide +kernel
theorem dX4_readThing_13 : decode cX4_readThing 13 = .ok (.bipush (-6), 2) := by decide +kernel
theorem dX4_readThing_15 : decode cX4_readThing 15 = .ok (.iastore, 1) := by decide +kernel
theorem dX4_readThing_16 : decode cX4_readThing 16 = .ok (.aload_n 0, 1) := by decide +kernel
theorem dX4_readThing_17 : decode cX4_readThing 17 = .ok (.iconst 0, 1) := by decide +kernel
theorem dX4_readThing_18 : decode cX4_readThing 18 = .ok (.invokevirtual 47, 3) := by decide +kernel
theorem dX4_readThing_21 : decode cX4_readThing 21 = .ok (.ifCond .eq 75, 3) := by decide +kernel
theorem dX4_readThing_24 : decode cX4_readThing 24 = .ok (.aload_n 0, 1) := by decide +kernel
theorem dX4_readThing_25 : decode cX4_readThing 25 = .ok (.bipush 44, 2) := by decide +kernel
theorem dX4_readThing_27 : decode cX4_readThing 27 = .ok (.invokevirtual 31, 3) := by decide +kernel
theorem dX4_readThing_30 : decode cX4_readThing 30 = .ok (.ifCond .eq 66, 3) := by decide +kernel
theorem dX4_readThing_33 : decode cX4_readThing 33 = .ok (.aload_n 0, 1) := by decide +kernel
theorem dX4_readThing_34 : decode cX4_readThing 34 = .ok (.iconst 1, 1) := by decide +kernel
theorem dX4_readThing_35 : decode cX4_readThing 35 = .ok (.invokevirtual 47, 3) := by decide +kernel
theorem dX4_readThing_38 : decode cX4_readThing 38 = .ok (.ifCond .eq 58, 3) := by decide +kernel
theorem dX4_readThing_41 : decode cX4_readThing 41 = .ok (.aload_n 0, 1) := by decide +kernel
theorem dX4_readThing_42 : decode cX4_readThing 42 = .ok (.bipush 44, 2) := by decide +kernel
theorem dX4_readThing_44 : decode cX4_readThing 44 = .ok (.invokevirtual 31, 3) := by decide +kernel
theorem dX4_readThing_47 : decode cX4_readThing 47 = .ok (.ifCond .eq 49, 3) := by decide +kernel
theorem dX4_readThing_50 : decode cX4_readThing 50 = .ok (.aload_n 0, 1) := by decide +kernel
theorem dX4_readThing_51 : decode cX4_readThing 51 = .ok (.iconst 2, 1) := by decide +kernel
theorem dX4_readThing_52 : decode cX4_readThing 52 = .ok (.invokevirtual 47, 3) := by decide +kernel
theorem dX4_readThing_55 : decode cX4_readThing 55 = .ok (.ifCond .eq 41, 3) := by decide +kernel
theorem dX4_readThing_58 : decode cX4_readThing 58 = .ok (.aload_n 0, 1) := by decide +kernel
theorem dX4_readThing_59 : decode cX4_readThing 59 = .ok (.bipush 44, 2) := by decide +kernel
theorem dX4_readThing_61 : decode cX4_readThing 61 = .ok (.invokevirtual 31, 3) := by decide +kernel
theorem dX4_readThing_64 : decode cX4_readThing 64 = .ok (.ifCond .eq 32, 3) := by decide +kernel
theorem dX4_readThing_67 : decode cX4_readThing 67 = .ok (.aload_n 0, 1) := by decide +kernel
theorem dX4_readThing_68 : decode cX4_readThing 68 = .ok (.iconst 3, 1) := by decide +kernel
theorem dX4_readThing_69 : decode cX4_readThing 69 = .ok (.invokevirtual 47, 3) := by decide +kernel
theorem dX4_readThing_72 : decode cX4_readThing 72 = .ok (.ifCond .eq 24, 3) := by decide +kernel
theorem dX4_readThing_75 : decode cX4_readThing 75 = .ok (.aload_n 0, 1) := by decide +kernel
theorem dX4_readThing_76 : decode cX4_readThing 76 = .ok (.bipush 42, 2) := by decide +kernel
theorem dX4_readThing_78 : decode cX4_readThing 78 = .ok (.invokevirtual 31, 3) := by decide +kernel
theorem dX4_readThing_81 : decode cX4_readThing 81 = .ok (.ifCond .eq 15, 3) := by decide +kernel
theorem dX4_readThing_84 : decode cX4_readThing 84 = .ok (.aload_n 0, 1) := by decide +kernel
theorem dX4_readThing_85 : decode cX4_readThing 85 = .ok (.iconst 4, 1) := by decide +kernel
theorem dX4_readThing_86 : decode cX4_readThing 86 = .ok (.invokevirtual 51, 3) := by decide +kernel
theorem dX4_readThing_89 : decode cX4_readThing 89 = .ok (.ifCond .eq 7, 3) := by decide +kernel
theorem dX4_readThing_92 : decode cX4_readThing 92 = .ok (.iconst 1, 1) := by decide +kernel
theorem dX4_readThing_93 : decode cX4_readThing 93 = .ok (.goto 4, 3) := by decide +kernel
theorem dX4_readThing_96 : decode cX4_readThing 96 = .ok (.iconst 0, 1) := by decide +kernel
theorem dX4_readThing_97 : decode cX4_readThing 97 = .ok (.istore_n 1, 1) := by decide +kernel
theorem dX4_readThing_98 : decode cX4_readThing 98 = .ok (.iload_n 1, 1) := by decide +kernel
theorem dX4_readThing_99 : decode cX4_readThing 99 = .ok (.ifCond .eq 16, 3) := by decide +kernel
theorem dX4_readThing_102 : decode cX4_readThing 102 = .ok (.aload_n 0, 1) := by decide +kernel
theorem dX4_readThing_103 : decode cX4_readThing 103 = .ok (.bipush 45, 2) := by decide +kernel
theorem dX4_readThing_105 : decode cX4_readThing 105 = .ok (.invokevirtual 31, 3) := by decide +kernel
theorem dX4_readThing_108 : decode cX4_readThing 108 = .ok (.ifCond .eq 7, 3) := by decide +kernel
theorem dX4_readThing_111 : decode cX4_readThing 111 = .ok (.iconst 1, 1) := by decide +kernel
theorem dX4_readThing_112 : decode cX4_readThing 112 = .ok (.goto 4, 3) := by decide +kernel
theorem dX4_readThing_115 : decode cX4_readThing 115 = .ok (.iconst 0, 1) := by decide +kernel
theorem dX4_readThing_116 : decode cX4_readThing 116 = .ok (.istore_n 2, 1) := by decide +kernel
theorem dX4_readThing_117 : decode cX4_readThing 117 = .ok (.iload_n 2, 1) := by decide +kernel
theorem dX4_readThing_118 : decode cX4_readThing 118 = .ok (.ifCond .ne 16, 3) := by decide +kernel
theorem dX4_readThing_121 : decode cX4_readThing 121 = .ok (.iload_n 1, 1) := by decide +kernel
theorem dX4_readThing_122 : decode cX4_readThing 122 = .ok (.ifCond .eq 18, 3) := by decide +kernel
theorem dX4_readThing_125 : decode cX4_readThing 125 = .ok (.aload_n 0, 1) := by decide +kernel
theorem dX4_readThing_126 : decode cX4_readThing 126 = .ok (.bipush 43, 2) := by decide +kernel
theorem dX4_readThing_128 : decode cX4_readThing 128 = .ok (.invokevirtual 31, 3) := by decide +kernel
theorem dX4_readThing_131 : decode cX4_readThing 131 = .ok (.ifCond .eq 9, 3) := by decide +kernel
theorem dX4_readThing_134 : decode cX4_readThing 134 = .ok (.aload_n 0, 1) := by decide +kernel
theorem dX4_readThing_135 : decode cX4_readThing 135 = .ok (.iconst 5, 1) := by decide +kernel
theorem dX4_readThing_136 : decode cX4_readThing 136 = .ok (.invokevirtual 47, 3) := by decide +kernel
theorem dX4_readThing_139 : decode cX4_readThing 139 = .ok (.istore_n 1, 1) := by decide +kernel
theorem dX4_readThing_140 : decode cX4_readThing 140 = .ok (.iload_n 2, 1) := by decide +kernel
theorem dX4_readThing_141 : decode cX4_readThing 141 = .ok (.ifCond .eq 16, 3) := by decide +kernel
theorem dX4_readThing_144 : decode cX4_readThing 144 = .ok (.aload_n 0, 1) := by decide +kernel
theorem dX4_readThing_145 : decode cX4_readThing 145 = .ok (.getfield 19, 3) := by decide +kernel
theorem dX4_readThing_148 : decode cX4_readThing 148 = .ok (.iconst 5, 1) := by decide +kernel
theorem dX4_readThing_149 : decode cX4_readThing 149 = .ok (.aload_n 0, 1) := by decide +kernel
theorem dX4_readThing_150 : decode cX4_readThing 150 = .ok (.getfield 19, 3) := by decide +kernel
theorem dX4_readThing_153 : decode cX4_readThing 153 = .ok (.iconst 5, 1) := by decide +kernel
theorem dX4_readThing_154 : decode cX4_readThing 154 = .ok (.iaload, 1) := by decide +kernel
theorem dX4_readThing_155 : decode cX4_readThing 155 = .ok (.ineg, 1) := by decide +kernel
theorem dX4_readThing_156 : decode cX4_readThing 156 = .ok (.iastore, 1) := by decide +kernel
theorem dX4_readThing_157 : decode cX4_readThing 157 = .ok (.iload_n 1, 1) := by decide +kernel
theorem dX4_readThing_158 : decode cX4_readThing 158 = .ok (.ifCond .eq 25, 3) := by decide +kernel
theorem dX4_readThing_161 : decode cX4_readThing 161 = .ok (.aload_n 0, 1) := by decide +kernel
theorem dX4_readThing_162 : decode cX4_readThing 162 = .ok (.bipush 64, 2) := by decide +kernel
theorem dX4_readThing_164 : decode cX4_readThing 164 = .ok (.invokevirtual 31, 3) := by decide +kernel
theorem dX4_readThing_167 : decode cX4_readThing 167 = .ok (.ifCond .eq 12, 3) := by decide +kernel
theorem dX4_readThing_170 : decode cX4_readThing 170 = .ok (.aload_n 0, 1) := by decide +kernel
theorem dX4_readThing_171 : decode cX4_readThing 171 = .ok (.bipush 6, 2) := by decide +kernel
theorem dX4_readThing_173 : decode cX4_readThing 173 = .ok (.invokevirtual 51, 3) := by decide +kernel
theorem dX4_readThing_176 : decode cX4_readThing 176 = .ok (.ifCond .eq 7, 3) := by decide +kernel
theorem dX4_readThing_179 : decode cX4_readThing 179 = .ok (.iconst 1, 1) := by decide +kernel
theorem dX4_readThing_180 : decode cX4_readThing 180 = .ok (.goto 4, 3) := by decide +kernel
theorem dX4_readThing_183 : decode cX4_readThing 183 = .ok (.iconst 0, 1) := by decide +kernel
theorem dX4_readThing_184 : decode cX4_readThing 184 = .ok (.ireturn, 1) := by decide +kernel
set_option maxRecDepth 20000 in
theorem ggX4_readDigit_X2_characterAt : GoodIn wsX4_readDigit wsX2_characterAt := goodIn_r _ [8, 9, 10, 19, 20] (by decide +kernel) (by decide +kernel)
set_option maxRecDepth 20000 in
theorem gX4_readDigit_X2_characterAt : GoodIn wsX4_readDigit (wsV RX4 40 RX2 yX2_characterAt wsX2_characterAt) := goodIn_app (goodIn_of _ (by decide +kernel)) ggX4_readDigit_X2_characterAt
set_option maxRecDepth 20000 in
theorem ggX4_readDigit_X4_isDigit : GoodIn wsX4_readDigit wsX4_isDigit := goodIn_r _ [14] (by decide +kernel) (by decide +kernel)
set_option maxRecDepth 20000 in
theorem gX4_readDigit_X4_isDigit : GoodIn wsX4_readDigit (va_wsS RX4 54 yX4_isDigit wsX4_isDigit) := goodIn_app (goodIn_of _ (by decide +kernel)) ggX4_readDigit_X4_isDigit
theorem dX4_readDigit_0 : decode cX4_readDigit 0 = .ok (.aload_n 0, 1) := by decide +kernel
theorem dX4_readDigit_1 : decode cX4_readDigit 1 = .ok (.getfield 23, 3) := by decide +kernel
theorem dX4_readDigit_4 : decode cX4_readDigit 4 = .ok (.aload_n 0, 1) := by decide +kernel
theorem dX4_readDigit_5 : decode cX4_readDigit 5 = .ok (.getfield 9, 3) := by decide +kernel
theorem dX4_readDigit_8 : decode cX4_readDigit 8 = .ok (.invokevirtual 40, 3) := by decide +kernel
theorem dX4_readDigit_11 : decode cX4_readDigit 11 = .ok (.istore_n 2, 1) := by decide +kernel
theorem dX4_readDigit_12 : decode cX4_readDigit 12 = .ok (.iload_n 2, 1) := by decide +kernel
theorem dX4_readDigit_13 : decode cX4_readDigit 13 = .ok (.invokestatic 54, 3) := by decide +kernel
theorem dX4_readDigit_16 : decode cX4_readDigit 16 = .ok (.ifCond .ne 5, 3) := by decide +kernel
theorem dX4_readDigit_19 : decode cX4_readDigit 19 = .ok (.iconst 0, 1) := by decide +kernel
theorem dX4_readDigit_20 : decode cX4_readDigit 20 = .ok (.ireturn, 1) := by decide +kernel
theorem dX4_readDigit_21 : decode cX4_readDigit 21 = .ok (.aload_n 0, 1) := by decide +kernel
theorem dX4_readDigit_22 : decode cX4_readDigit 22 = .ok (.getfield 19, 3) := by decide +kernel
theorem dX4_readDigit_25 : decode cX4_readDigit 25 = .ok (.iload_n 1, 1) := by decide +kernel
theorem dX4_readDigit_26 : decode cX4_readDigit 26 = .ok (.iload_n 2, 1) := by decide +kernel
theorem dX4_readDigit_27 : decode cX4_readDigit 27 = .ok (.bipush 48, 2) := by decide +kernel
theorem dX4_readDigit_29 : decode cX4_readDigit 29 = .ok (.isub, 1) := by decide +kernel
theorem dX4_readDigit_30 : decode cX4_readDigit 30 = .ok (.iastore, 1) := by decide +kernel
theorem dX4_readDigit_31 : decode cX4_readDigit 31 = .ok (.aload_n 0, 1) := by decide +kernel
theorem dX4_readDigit_32 : decode cX4_readDigit 32 = .ok (.dup, 1) := by decide +kernel
theorem dX4_readDigit_33 : decode cX4_readDigit 33 = .ok (.getfield 9, 3) := by decide +kernel
theorem dX4_readDigit_36 : decode cX4_readDigit 36 = .ok (.iconst 1, 1) := by decide +kernel
theorem dX4_readDigit_37 : decode cX4_readDigit 37 = .ok (.iadd, 1) := by decide +kernel
theorem dX4_readDigit_38 : decode cX4_readDigit 38 = .ok (.putfield 9, 3) := by decide +kernel
theorem dX4_readDigit_41 : decode cX4_readDigit 41 = .ok (.iconst 1, 1) := by decide +kernel
theorem dX4_readDigit_42 : decode cX4_readDigit 42 = .ok (.ireturn, 1) := by decide +kernel
set_option maxRecDepth 20000 in
theorem ggX4_readNumber_X4_readDigit : GoodIn wsX4_readNumber wsX4_readDigit := goodIn_r _ [8, 1, 2, 3, 9, 10, 11, 12, 13, 14, 15, 16, 17, 7, 18, 19, 20, 21, 22, 23, 24] (by decide +kernel) (by decide +kernel)
set_option maxRecDepth 20000 in
theorem gX4_readNumber_X4_readDigit : GoodIn wsX4_readNumber (wsV RX4 51 RX4 yX4_readDigit wsX4_readDigit) := goodIn_app (goodIn_of _ (by decide +kernel)) ggX4_readNumber_X4_readDigit
set_option maxRecDepth 20000 in
theorem ggX4_readNumber_X2_characterAt : GoodIn wsX4_readNumber wsX2_characterAt := goodIn_r _ [13, 14, 15, 23, 24] (by decide +kernel) (by decide +kernel)
set_option maxRecDepth 20000 in
theorem gX4_readNumber_X2_characterAt : GoodIn wsX4_readNumber (wsV RX4 40 RX2 yX2_characterAt wsX2_characterAt) := goodIn_app (goodIn_of _ (by decide +kernel)) ggX4_readNumber_X2_characterAt
set_option maxRecDepth 20000 in
theorem ggX4_readNumber_X4_isDigit : GoodIn wsX4_readNumber wsX4_isDigit := goodIn_r _ [18] (by decide +kernel) (by decide +kernel)
set_option maxRecDepth 20000 in
theorem gX4_readNumber_X4_isDigit : GoodIn wsX4_readNumber (va_wsS RX4 54 yX4_isDigit wsX4_isDigit) := goodIn_app (goodIn_of _ (by decide +kernel)) ggX4_readNumber_X4_isDigit
theorem dX4_readNumber_0 : decode cX4_readNumber 0 = .ok (.aload_n 0, 1) := by decide +kernel
theorem dX4_readNumber_1 : decode cX4_readNumber 1 = .ok (.iload_n 1, 1) := by decide +kernel
theorem dX4_readNumber_2 : decode cX4_readNumber 2 = .ok (.invokevirtual 51, 3) := by decide +kernel
theorem dX4_readNumber_5 : decode cX4_readNumber 5 = .ok (.ifCond .ne 5, 3) := by decide +kernel
theorem dX4_readNumber_8 : decode cX4_readNumber 8 = .ok (.iconst 0, 1) := by decide +kernel
theorem dX4_readNumber_9 : decode cX4_readNumber 9 = .ok (.ireturn, 1) := by decide +kernel
theorem dX4_readNumber_10 : decode cX4_readNumber 10 = .ok (.aload_n 0, 1) := by decide +kernel
theorem dX4_readNumber_11 : decode cX4_readNumber 11 = .ok (.getfield 23, 3) := by decide +kernel
theorem dX4_readNumber_14 : decode cX4_readNumber 14 = .ok (.aload_n 0, 1) := by decide +kernel
theorem dX4_readNumber_15 : decode cX4_readNumber 15 = .ok (.getfield 9, 3) := by decide +kernel
theorem dX4_readNumber_18 : decode cX4_readNumber 18 = .ok (.invokevirtual 40, 3) := by decide +kernel
theorem dX4_readNumber_21 : decode cX4_readNumber 21 = .ok (.istore_n 2, 1) := by decide +kernel
theorem dX4_readNumber_22 : decode cX4_readNumber 22 = .ok (.aload_n 0, 1) := by decide +kernel
theorem dX4_readNumber_23 : decode cX4_readNumber 23 = .ok (.getfield 19, 3) := by decide +kernel
theorem dX4_readNumber_26 : decode cX4_readNumber 26 = .ok (.iload_n 1, 1) := by decide +kernel
theorem dX4_readNumber_27 : decode cX4_readNumber 27 = .ok (.iaload, 1) := by decide +kernel
theorem dX4_readNumber_28 : decode cX4_readNumber 28 = .ok (.ifCond .eq 40, 3) := by decide +kernel
theorem dX4_readNumber_31 : decode cX4_readNumber 31 = .ok (.iload_n 2, 1) := by decide +kernel
theorem dX4_readNumber_32 : decode cX4_readNumber 32 = .ok (.invokestatic 54, 3) := by decide +kernel
theorem dX4_readNumber_35 : decode cX4_readNumber 35 = .ok (.ifCond .eq 33, 3) := by decide +kernel
theorem dX4_readNumber_38 : decode cX4_readNumber 38 = .ok (.aload_n 0, 1) := by decide +kernel
theorem dX4_readNumber_39 : decode cX4_readNumber 39 = .ok (.getfield 19, 3) := by decide +kernel
theorem dX4_readNumber_42 : decode cX4_readNumber 42 = .ok (.iload_n 1, 1) := by decide +kernel
theorem dX4_readNumber_43 : decode cX4_readNumber 43 = .ok (.aload_n 0, 1) := by decide +kernel
theorem dX4_readNumber_44 : decode cX4_readNumber 44 = .ok (.getfield 19, 3) := by decide +kernel
theorem dX4_readNumber_47 : decode cX4_readNumber 47 = .ok (.iload_n 1, 1) := by decide +kernel
theorem dX4_readNumber_48 : decode cX4_readNumber 48 = .ok (.iaload, 1) := by decide +kernel
theorem dX4_readNumber_49 : decode cX4_readNumber 49 = .ok (.bipush 10, 2) := by decide +kernel
theorem dX4_readNumber_51 : decode cX4_readNumber 51 = .ok (.imul, 1) := by decide +kernel
theorem dX4_readNumber_52 : decode cX4_readNumber 52 = .ok (.iload_n 2, 1) := by decide +kernel
theorem dX4_readNumber_53 : decode cX4_readNumber 53 = .ok (.bipush 48, 2) := by decide +kernel
theorem dX4_readNumber_55 : decode cX4_readNumber 55 = .ok (.isub, 1) := by decide +kernel
theorem dX4_readNumber_56 : decode cX4_readNumber 56 = .ok (.iadd, 1) := by decide +kernel
theorem dX4_readNumber_57 : decode cX4_readNumber 57 = .ok (.iastore, 1) := by decide +kernel
theorem dX4_readNumber_58 : decode cX4_readNumber 58 = .ok (.aload_n 0, 1) := by decide +kernel
theorem dX4_readNumber_59 : decode cX4_readNumber 59 = .ok (.dup, 1) := by decide +kernel
theorem dX4_readNumber_60 : decode cX4_readNumber 60 = .ok (.getfield 9, 3) := by decide +kernel
theorem dX4_readNumber_63 : decode cX4_readNumber 63 = .ok (.iconst 1, 1) := by decide +kernel
theorem dX4_readNumber_64 : decode cX4_readNumber 64 = .ok (.iadd, 1) := by decide +kernel
theorem dX4_readNumber_65 : decode cX4_readNumber 65 = .ok (.putfield 9, 3) := by decide +kernel
theorem dX4_readNumber_68 : decode cX4_readNumber 68 = .ok (.iconst 1, 1) := by decide +kernel
theorem dX4_readNumber_69 : decode cX4_readNumber 69 = .ok (.ireturn, 1) := by decide +kernel
theorem dX4_isDigit_0 : decode cX4_isDigit 0 = .ok (.iload_n 0, 1) := by decide +kernel
theorem dX4_isDigit_1 : decode cX4_isDigit 1 = .ok (.bipush 48, 2) := by decide +kernel
theorem dX4_isDigit_3 : decode cX4_isDigit 3 = .ok (.if_icmp .lt 13, 3) := by decide +kernel
theorem dX4_isDigit_6 : decode cX4_isDigit 6 = .ok (.iload_n 0, 1) := by decide +kernel
theorem dX4_isDigit_7 : decode cX4_isDigit 7 = .ok (.bipush 57, 2) := by decide +kernel
theorem dX4_isDigit_9 : decode cX4_isDigit 9 = .ok (.if_icmp .gt 7, 3) := by decide +kernel
theorem dX4_isDigit_12 : decode cX4_isDigit 12 = .ok (.iconst 1, 1) := by decide +kernel
theorem dX4_isDigit_13 : decode cX4_isDigit 13 = .ok (.goto 4, 3) := by decide +kernel
theorem dX4_isDigit_16 : decode cX4_isDigit 16 = .ok (.iconst 0, 1) := by decide +kernel
theorem dX4_isDigit_17 : decode cX4_isDigit 17 = .ok (.ireturn, 1) := by decide +kernel
set_option maxRecDepth 20000 in
theorem ggX5_init_X6_init : GoodIn wsX5_init wsX6_init := goodIn_r _ [24, 25, 2, 3, 26, 27, 28, 29, 30, 31, 32, 33, 34, 35, 47, 48, 49, 50, 51, 52, 53, 54, 55, 56] (by decide +kernel) (by decide +kernel)
set_option maxRecDepth 20000 in
theorem gX5_init_X6_init_n25 : GoodIn wsX5_init (wsX6_init) := ggX5_init_X6_init
set_option maxRecDepth 20000 in
theorem ggX5_init_X3_init : GoodIn wsX5_init wsX3_init := goodIn_r _ [37, 38, 2, 3, 26, 39, 57] (by decide +kernel) (by decide +kernel)
set_option maxRecDepth 20000 in
theorem gX5_init_X3_init_n32 : GoodIn wsX5_init (wsX3_init) := ggX5_init_X3_init
theorem dX5_init_0 : decode cX5_init 0 = .ok (.aload_n 0, 1) := by decide +kernel
theorem dX5_init_1 : decode cX5_init 1 = .ok (.invokespecial 3, 3) := by decide +kernel
theorem dX5_init_4 : decode cX5_init 4 = .ok (.aload_n 0, 1) := by decide +kernel
theorem dX5_init_5 : decode cX5_init 5 = .ok (.getstatic 9, 3) := by decide +kernel
theorem dX5_init_8 : decode cX5_init 8 = .ok (.invokevirtual 13, 3) := by decide +kernel
theorem dX5_init_11 : decode cX5_init 11 = .ok (.checkcast 14, 3) := by decide +kernel
theorem dX5_init_14 : decode cX5_init 14 = .ok (.putfield 18, 3) := by decide +kernel
theorem dX5_init_17 : decode cX5_init 17 = .ok (.aload_n 0, 1) := by decide +kernel
theorem dX5_init_18 : decode cX5_init 18 = .ok (.new 23, 3) := by decide +kernel
theorem dX5_init_21 : decode cX5_init 21 = .ok (.dup, 1) := by decide +kernel
theorem dX5_init_22 : decode cX5_init 22 = .ok (.invokespecial 25, 3) := by decide +kernel
theorem dX5_init_25 : decode cX5_init 25 = .ok (.putfield 26, 3) := by decide +kernel
theorem dX5_init_28 : decode cX5_init 28 = .ok (.aload_n 0, 1) := by decide +kernel
theorem dX5_init_29 : decode cX5_init 29 = .ok (.new 30, 3) := by decide +kernel
theorem dX5_init_32 : decode cX5_init 32 = .ok (.dup, 1) := by decide +kernel
theorem dX5_init_33 : decode cX5_init 33 = .ok (.invokespecial 32, 3) := by decide +kernel
theorem dX5_init_36 : decode cX5_init 36 = .ok (.putfield 33, 3) := by decide +kernel
theorem dX5_init_39 : decode cX5_init 39 = .ok (.aload_n 0, 1) := by decide +kernel
theorem dX5_init_40 : decode cX5_init 40 = .ok (.iconst 0, 1) := by decide +kernel
theorem dX5_init_41 : decode cX5_init 41 = .ok (.putfield 37, 3) := by decide +kernel
theorem dX5_init_44 : decode cX5_init 44 = .ok (.aload_n 0, 1) := by decide +kernel
theorem dX5_init_45 : decode cX5_init 45 = .ok (.iconst 0, 1) := by decide +kernel
theorem dX5_init_46 : decode cX5_init 46 = .ok (.putfield 41, 3) := by decide +kernel
theorem dX5_init_49 : decode cX5_init 49 = .ok (.aload_n 0, 1) := by decide +kernel
theorem dX5_init_50 : decode cX5_init 50 = .ok (.bipush (-6), 2) := by decide +kernel
theorem dX5_init_52 : decode cX5_init 52 = .ok (.putfield 44, 3) := by decide +kernel
theorem dX5_init_55 : decode cX5_init 55 = .ok (.aload_n 0, 1) := by decide +kernel
theorem dX5_init_56 : decode cX5_init 56 = .ok (.iconst 0, 1) := by decide +kernel
theorem dX5_init_57 : decode cX5_init 57 = .ok (.putfield 47, 3) := by decide +kernel
theorem dX5_init_60 : decode cX5_init 60 = .ok (.return_, 1) := by decide +kernel
theorem dX5_beginOf_0 : decode cX5_beginOf 0 = .ok (.aload_n 0, 1) := by decide +kernel
theorem dX5_beginOf_1 : decode cX5_beginOf 1 = .ok (.getfield 37, 3) := by decide +kernel
theorem dX5_beginOf_4 : decode cX5_beginOf 4 = .ok (.iload_n 1, 1) := by decide +kernel
theorem dX5_beginOf_5 : decode cX5_beginOf 5 = .ok (.aload_n 0, 1) := by decide +kernel
theorem dX5_beginOf_6 : decode cX5_beginOf 6 = .ok (.getfield 18, 3) := by decide +kernel
theorem dX5_beginOf_9 : decode cX5_beginOf 9 = .ok (.iconst 0, 1) := by decide +kernel
theorem dX5_beginOf_10 : decode cX5_beginOf 10 = .ok (.iaload, 1) := by decide +kernel
theorem dX5_beginOf_11 : decode cX5_beginOf 11 = .ok (.imul, 1) := by decide +kernel
theorem dX5_beginOf_12 : decode cX5_beginOf 12 = .ok (.iadd, 1) := by decide +kernel
theorem dX5_beginOf_13 : decode cX5_beginOf 13 = .ok (.ireturn, 1) := by decide +kernel
set_option maxRecDepth 20000 in
theorem ggX5_endOfPicture_X5_beginOf : GoodIn wsX5_endOfPicture wsX5_beginOf := goodIn_r _ [6, 7, 1, 8, 9, 10, 11, 12, 13, 14] (by decide +kernel) (by decide +kernel)
set_option maxRecDepth 20000 in
theorem gX5_endOfPicture_X5_beginOf : GoodIn wsX5_endOfPicture (wsV RX5 50 RX5 yX5_beginOf wsX5_beginOf) := goodIn_app (goodIn_of _ (by decide +kernel)) ggX5_endOfPicture_X5_beginOf
theorem dX5_endOfPicture_0 : decode cX5_endOfPicture 0 = .ok (.aload_n 0, 1) := by decide +kernel
theorem dX5_endOfPicture_1 : decode cX5_endOfPicture 1 = .ok (.bipush 15, 2) := by decide +kernel
theorem dX5_endOfPicture_3 : decode cX5_endOfPicture 3 = .ok (.invokevirtual 50, 3) := by decide +kernel
theorem dX5_endOfPicture_6 : decode cX5_endOfPicture 6 = .ok (.aload_n 0, 1) := by decide +kernel
theorem dX5_endOfPicture_7 : decode cX5_endOfPicture 7 = .ok (.getfield 18, 3) := by decide +kernel
theorem dX5_endOfPicture_10 : decode cX5_endOfPicture 10 = .ok (.iconst 1, 1) := by decide +kernel
theorem dX5_endOfPicture_11 : decode cX5_endOfPicture 11 = .ok (.iaload, 1) := by decide +kernel
theorem dX5_endOfPicture_12 : decode cX5_endOfPicture 12 = .ok (.iadd, 1) := by decide +kernel
theorem dX5_endOfPicture_13 : decode cX5_endOfPicture 13 = .ok (.ireturn, 1) := by decide +kernel
theorem dX5_setFlash_0 : decode cX5_setFlash 0 = .ok (.aload_n 0, 1) := by decide +kernel
theorem dX5_setFlash_1 : decode cX5_setFlash 1 = .ok (.aload_n 0, 1) := by decide +kernel
theorem dX5_setFlash_2 : decode cX5_setFlash 2 = .ok (.getfield 37, 3) := by decide +kernel
theorem dX5_setFlash_5 : decode cX5_setFlash 5 = .ok (.iload_n 1, 1) := by decide +kernel
theorem dX5_setFlash_6 : decode cX5_setFlash 6 = .ok (.iadd, 1) := by decide +kernel
theorem dX5_setFlash_7 : decode cX5_setFlash 7 = .ok (.putfield 44, 3) := by decide +kernel
theorem dX5_setFlash_10 : decode cX5_setFlash 10 = .ok (.aload_n 0, 1) := by decide +kernel
theorem dX5_setFlash_11 : decode cX5_setFlash 11 = .ok (.iload_n 2, 1) := by decide +kernel
theorem dX5_setFlash_12 : decode cX5_setFlash 12 = .ok (.putfield 47, 3) := by decide +kernel
theorem dX5_setFlash_15 : decode cX5_setFlash 15 = .ok (.return_, 1) := by decide +kernel
set_option maxRecDepth 20000 in
theorem ggX5_lightAt_X7_within : GoodIn wsX5_lightAt wsX7_within := goodIn_r _ [6] (by decide +kernel) (by decide +kernel)
set_option maxRecDepth 20000 in
theorem gX5_lightAt_X7_within_n54 : GoodIn wsX5_lightAt (wsX7_within) := ggX5_lightAt_X7_within
theorem dX5_lightAt_0 : decode cX5_lightAt 0 = .ok (.iload_n 1, 1) := by decide +kernel
theorem dX5_lightAt_1 : decode cX5_lightAt 1 = .ok (.aload_n 0, 1) := by decide +kernel
theorem dX5_lightAt_2 : decode cX5_lightAt 2 = .ok (.getfield 44, 3) := by decide +kernel
theorem dX5_lightAt_5 : decode cX5_lightAt 5 = .ok (.aload_n 0, 1) := by decide +kernel
theorem dX5_lightAt_6 : decode cX5_lightAt 6 = .ok (.getfield 44, 3) := by decide +kernel
theorem dX5_lightAt_9 : decode cX5_lightAt 9 = .ok (.aload_n 0, 1) := by decide +kernel
theorem dX5_lightAt_10 : decode cX5_lightAt 10 = .ok (.getfield 47, 3) := by decide +kernel
theorem dX5_lightAt_13 : decode cX5_lightAt 13 = .ok (.iadd, 1) := by decide +kernel
theorem dX5_lightAt_14 : decode cX5_lightAt 14 = .ok (.iconst 1, 1) := by decide +kernel
theorem dX5_lightAt_15 : decode cX5_lightAt 15 = .ok (.isub, 1) := by decide +kernel
theorem dX5_lightAt_16 : decode cX5_lightAt 16 = .ok (.invokestatic 54, 3) := by decide +kernel
theorem dX5_lightAt_19 : decode cX5_lightAt 19 = .ok (.ifCond .eq 5, 3) := by decide +kernel
theorem dX5_lightAt_22 : decode cX5_lightAt 22 = .ok (.iconst 3, 1) := by decide +kernel
theorem dX5_lightAt_23 : decode cX5_lightAt 23 = .ok (.ireturn, 1) := by decide +kernel
theorem dX5_lightAt_24 : decode cX5_lightAt 24 = .ok (.aload_n 0, 1) := by decide +kernel
theorem dX5_lightAt_25 : decode cX5_lightAt 25 = .ok (.getfield 18, 3) := by decide +kernel
theorem dX5_lightAt_28 : decode cX5_lightAt 28 = .ok (.iconst 2, 1) := by decide +kernel
theorem dX5_lightAt_29 : decode cX5_lightAt 29 = .ok (.iaload, 1) := by decide +kernel
theorem dX5_lightAt_30 : decode cX5_lightAt 30 = .ok (.istore_n 2, 1) := by decide +kernel
theorem dX5_lightAt_31 : decode cX5_lightAt 31 = .ok (.iload_n 2, 1) := by decide +kernel
theorem dX5_lightAt_32 : decode cX5_lightAt 32 = .ok (.ifCond .le 14, 3) := by decide +kernel
theorem dX5_lightAt_35 : decode cX5_lightAt 35 = .ok (.iload_n 1, 1) := by decide +kernel
theorem dX5_lightAt_36 : decode cX5_lightAt 36 = .ok (.iload_n 2, 1) := by decide +kernel
theorem dX5_lightAt_37 : decode cX5_lightAt 37 = .ok (.irem, 1) := by decide +kernel
theorem dX5_lightAt_38 : decode cX5_lightAt 38 = .ok (.iload_n 2, 1) := by decide +kernel
theorem dX5_lightAt_39 : decode cX5_lightAt 39 = .ok (.iconst 2, 1) := by decide +kernel
theorem dX5_lightAt_40 : decode cX5_lightAt 40 = .ok (.idiv, 1) := by decide +kernel
theorem dX5_lightAt_41 : decode cX5_lightAt 41 = .ok (.if_icmp .lt 5, 3) := by decide +kernel
theorem dX5_lightAt_44 : decode cX5_lightAt 44 = .ok (.iconst 0, 1) := by decide +kernel
theorem dX5_lightAt_45 : decode cX5_lightAt 45 = .ok (.ireturn, 1) := by decide +kernel
theorem dX5_lightAt_46 : decode cX5_lightAt 46 = .ok (.iconst 1, 1) := by decide +kernel
theorem dX5_lightAt_47 : decode cX5_lightAt 47 = .ok (.ireturn, 1) := by decide +kernel
set_option maxRecDepth 20000 in
theorem ggX5_linesFlashed_X5_beginOf : GoodIn wsX5_linesFlashed wsX5_beginOf := goodIn_r _ [6, 7, 1, 8, 9, 10, 11, 12, 13, 14] (by decide +kernel) (by decide +kernel)
set_option maxRecDepth 20000 in
theorem gX5_linesFlashed_X5_beginOf : GoodIn wsX5_linesFlashed (wsV RX5 50 RX5 yX5_beginOf wsX5_beginOf) := goodIn_app (goodIn_of _ (by decide +kernel)) ggX5_linesFlashed_X5_beginOf
theorem dX5_linesFlashed_0 : decode cX5_linesFlashed 0 = .ok (.iconst 0, 1) := by decide +kernel
theorem dX5_linesFlashed_1 : decode cX5_linesFlashed 1 = .ok (.istore_n 3, 1) := by decide +kernel
theorem dX5_linesFlashed_2 : decode cX5_linesFlashed 2 = .ok (.iconst 0, 1) := by decide +kernel
theorem dX5_linesFlashed_3 : decode cX5_linesFlashed 3 = .ok (.istore 4, 2) := by decide +kernel
theorem dX5_linesFlashed_5 : decode cX5_linesFlashed 5 = .ok (.iload 4, 2) := by decide +kernel
theorem dX5_linesFlashed_7 : decode cX5_linesFlashed 7 = .ok (.bipush 16, 2) := by decide +kernel
theorem dX5_linesFlashed_9 : decode cX5_linesFlashed 9 = .ok (.if_icmp .ge 45, 3) := by decide +kernel
theorem dX5_linesFlashed_12 : decode cX5_linesFlashed 12 = .ok (.aload_n 0, 1) := by decide +kernel
theorem dX5_linesFlashed_13 : decode cX5_linesFlashed 13 = .ok (.iload 4, 2) := by decide +kernel
theorem dX5_linesFlashed_15 : decode cX5_linesFlashed 15 = .ok (.invokevirtual 50, 3) := by decide +kernel
theorem dX5_linesFlashed_18 : decode cX5_linesFlashed 18 = .ok (.istore 5, 2) := by decide +kernel
theorem dX5_linesFlashed_20 : decode cX5_linesFlashed 20 = .ok (.iload 5, 2) := by decide +kernel
theorem dX5_linesFlashed_22 : decode cX5_linesFlashed 22 = .ok (.iload_n 1, 1) := by decide +kernel
theorem dX5_linesFlashed_23 : decode cX5_linesFlashed 23 = .ok (.iload_n 2, 1) := by decide +kernel
theorem dX5_linesFlashed_24 : decode cX5_linesFlashed 24 = .ok (.iadd, 1) := by decide +kernel
theorem dX5_linesFlashed_25 : decode cX5_linesFlashed 25 = .ok (.if_icmp .ge 23, 3) := by decide +kernel
theorem dX5_linesFlashed_28 : decode cX5_linesFlashed 28 = .ok (.iload_n 1, 1) := by decide +kernel
theorem dX5_linesFlashed_29 : decode cX5_linesFlashed 29 = .ok (.iload 5, 2) := by decide +kernel
theorem dX5_linesFlashed_31 : decode cX5_linesFlashed 31 = .ok (.aload_n 0, 1) := by decide +kernel
theorem dX5_linesFlashed_32 : decode cX5_linesFlashed 32 = .ok (.getfield 18, 3) := by decide +kernel
theorem dX5_linesFlashed_35 : decode cX5_linesFlashed 35 = .ok (.iconst 1, 1) := by decide +kernel
theorem dX5_linesFlashed_36 : decode cX5_linesFlashed 36 = .ok (.iaload, 1) := by decide +kernel
theorem dX5_linesFlashed_37 : decode cX5_linesFlashed 37 = .ok (.iadd, 1) := by decide +kernel
theorem dX5_linesFlashed_38 : decode cX5_linesFlashed 38 = .ok (.if_icmp .ge 10, 3) := by decide +kernel
theorem dX5_linesFlashed_41 : decode cX5_linesFlashed 41 = .ok (.iload_n 3, 1) := by decide +kernel
theorem dX5_linesFlashed_42 : decode cX5_linesFlashed 42 = .ok (.iconst 1, 1) := by decide +kernel
theorem dX5_linesFlashed_43 : decode cX5_linesFlashed 43 = .ok (.iload 4, 2) := by decide +kernel
theorem dX5_linesFlashed_45 : decode cX5_linesFlashed 45 = .ok (.ishl, 1) := by decide +kernel
theorem dX5_linesFlashed_46 : decode cX5_linesFlashed 46 = .ok (.ior, 1) := by decide +kernel
theorem dX5_linesFlashed_47 : decode cX5_linesFlashed 47 = .ok (.istore_n 3, 1) := by decide +kernel
theorem dX5_linesFlashed_48 : decode cX5_linesFlashed 48 = .ok (.iinc 4 1, 3) := by decide +kernel
theorem dX5_linesFlashed_51 : decode cX5_linesFlashed 51 = .ok (.goto (-46), 3) := by decide +kernel
theorem dX5_linesFlashed_54 : decode cX5_linesFlashed 54 = .ok (.iload_n 3, 1) := by decide +kernel
theorem dX5_linesFlashed_55 : decode cX5_linesFlashed 55 = .ok (.ireturn, 1) := by decide +kernel
set_option maxRecDepth 20000 in
theorem ggX5_copyFrom_X6_copyFrom : GoodIn wsX5_copyFrom wsX6_copyFrom := goodIn_r _ [16, 17, 18, 19, 3, 4, 5, 20, 21, 22, 23, 24, 25, 26, 27, 42, 43, 44, 45, 46, 47, 48, 49, 50, 51] (by decide +kernel) (by decide +kernel)
set_option maxRecDepth 20000 in
theorem gX5_copyFrom_X6_copyFrom : GoodIn wsX5_copyFrom (wsV RX5 64 RX6 yX6_copyFrom wsX6_copyFrom) := goodIn_app (goodIn_of _ (by decide +kernel)) ggX5_copyFrom_X6_copyFrom
set_option maxRecDepth 20000 in
theorem ggX5_copyFrom_X3_copyFrom : GoodIn wsX5_copyFrom wsX3_copyFrom := goodIn_r _ [32, 33, 34, 3, 4, 5, 52] (by decide +kernel) (by decide +kernel)
set_option maxRecDepth 20000 in
theorem gX5_copyFrom_X3_copyFrom : GoodIn wsX5_copyFrom (wsV RX5 68 RX3 yX3_copyFrom wsX3_copyFrom) := goodIn_app (goodIn_of _ (by decide +kernel)) ggX5_copyFrom_X3_copyFrom
theorem dX5_copyFrom_0 : decode cX5_copyFrom 0 = .ok (.aload_n 1, 1) := by decide +kernel
theorem dX5_copyFrom_1 : decode cX5_copyFrom 1 = .ok (.getfield 18, 3) := by decide +kernel
theorem dX5_copyFrom_4 : decode cX5_copyFrom 4 = .ok (.iconst 0, 1) := by decide +kernel
theorem dX5_copyFrom_5 : decode cX5_copyFrom 5 = .ok (.aload_n 0, 1) := by decide +kernel
theorem dX5_copyFrom_6 : decode cX5_copyFrom 6 = .ok (.getfield 18, 3) := by decide +kernel
theorem dX5_copyFrom_9 : decode cX5_copyFrom 9 = .ok (.iconst 0, 1) := by decide +kernel
theorem dX5_copyFrom_10 : decode cX5_copyFrom 10 = .ok (.iconst 4, 1) := by decide +kernel
theorem dX5_copyFrom_11 : decode cX5_copyFrom 11 = .ok (.invokestatic 58, 3) := by decide +kernel
theorem dX5_copyFrom_14 : decode cX5_copyFrom 14 = .ok (.aload_n 0, 1) := by decide +kernel
theorem dX5_copyFrom_15 : decode cX5_copyFrom 15 = .ok (.getfield 26, 3) := by decide +kernel
theorem dX5_copyFrom_18 : decode cX5_copyFrom 18 = .ok (.aload_n 1, 1) := by decide +kernel
theorem dX5_copyFrom_19 : decode cX5_copyFrom 19 = .ok (.getfield 26, 3) := by decide +kernel
theorem dX5_copyFrom_22 : decode cX5_copyFrom 22 = .ok (.invokevirtual 64, 3) := by decide +kernel
theorem dX5_copyFrom_25 : decode cX5_copyFrom 25 = .ok (.aload_n 0, 1) := by decide +kernel
theorem dX5_copyFrom_26 : decode cX5_copyFrom 26 = .ok (.getfield 33, 3) := by decide +kernel
theorem dX5_copyFrom_29 : decode cX5_copyFrom 29 = .ok (.aload_n 1, 1) := by decide +kernel
theorem dX5_copyFrom_30 : decode cX5_copyFrom 30 = .ok (.getfield 33, 3) := by decide +kernel
theorem dX5_copyFrom_33 : decode cX5_copyFrom 33 = .ok (.invokevirtual 68, 3) := by decide +kernel
theorem dX5_copyFrom_36 : decode cX5_copyFrom 36 = .ok (.aload_n 0, 1) := by decide +kernel
theorem dX5_copyFrom_37 : decode cX5_copyFrom 37 = .ok (.aload_n 1, 1) := by decide +kernel
theorem dX5_copyFrom_38 : decode cX5_copyFrom 38 = .ok (.getfield 37, 3) := by decide +kernel
theorem dX5_copyFrom_41 : decode cX5_copyFrom 41 = .ok (.putfield 37, 3) := by decide +kernel
theorem dX5_copyFrom_44 : decode cX5_copyFrom 44 = .ok (.aload_n 0, 1) := by decide +kernel
theorem dX5_copyFrom_45 : decode cX5_copyFrom 45 = .ok (.aload_n 1, 1) := by decide +kernel
theorem dX5_copyFrom_46 : decode cX5_copyFrom 46 = .ok (.getfield 41, 3) := by decide +kernel
theorem dX5_copyFrom_49 : decode cX5_copyFrom 49 = .ok (.putfield 41, 3) := by decide +kernel
theorem dX5_copyFrom_52 : decode cX5_copyFrom 52 = .ok (.aload_n 0, 1) := by decide +kernel
theorem dX5_copyFrom_53 : decode cX5_copyFrom 53 = .ok (.aload_n 1, 1) := by decide +kernel
theorem dX5_copyFrom_54 : decode cX5_copyFrom 54 = .ok (.getfield 44, 3) := by decide +kernel
theorem dX5_copyFrom_57 : decode cX5_copyFrom 57 = .ok (.putfield 44, 3) := by decide +kernel
theorem dX5_copyFrom_60 : decode cX5_copyFrom 60 = .ok (.aload_n 0, 1) := by decide +kernel
theorem dX5_copyFrom_61 : decode cX5_copyFrom 61 = .ok (.aload_n 1, 1) := by decide +kernel
theorem dX5_copyFrom_62 : decode cX5_copyFrom 62 = .ok (.getfield 47, 3) := by decide +kernel
theorem dX5_copyFrom_65 : decode cX5_copyFrom 65 = .ok (.putfield 47, 3) := by decide +kernel
theorem dX5_copyFrom_68 : decode cX5_copyFrom 68 = .ok (.return_, 1) := by decide +kernel
theorem dX6_init_0 : decode cX6_init 0 = .ok (.aload_n 0, 1) := by decide +kernel
theorem dX6_init_1 : decode cX6_init 1 = .ok (.invokespecial 3, 3) := by decide +kernel
theorem dX6_init_4 : decode cX6_init 4 = .ok (.aload_n 0, 1) := by decide +kernel
theorem dX6_init_5 : decode cX6_init 5 = .ok (.bipush 8, 2) := by decide +kernel
theorem dX6_init_7 : decode cX6_init 7 = .ok (.newarray .int, 2) := by decide +kernel
theorem dX6_init_9 : decode cX6_init 9 = .ok (.putfield 9, 3) := by decide +kernel
theorem dX6_init_12 : decode cX6_init 12 = .ok (.aload_n 0, 1) := by decide +kernel
theorem dX6_init_13 : decode cX6_init 13 = .ok (.bipush 8, 2) := by decide +kernel
theorem dX6_init_15 : decode cX6_init 15 = .ok (.newarray .int, 2) := by decide +kernel
theorem dX6_init_17 : decode cX6_init 17 = .ok (.putfield 15, 3) := by decide +kernel
theorem dX6_init_20 : decode cX6_init 20 = .ok (.aload_n 0, 1) := by decide +kernel
theorem dX6_init_21 : decode cX6_init 21 = .ok (.bipush 8, 2) := by decide +kernel
theorem dX6_init_23 : decode cX6_init 23 = .ok (.newarray .int, 2) := by decide +kernel
theorem dX6_init_25 : decode cX6_init 25 = .ok (.putfield 18, 3) := by decide +kernel
theorem dX6_init_28 : decode cX6_init 28 = .ok (.aload_n 0, 1) := by decide +kernel
theorem dX6_init_29 : decode cX6_init 29 = .ok (.bipush 8, 2) := by decide +kernel
theorem dX6_init_31 : decode cX6_init 31 = .ok (.newarray .int, 2) := by decide +kernel
theorem dX6_init_33 : decode cX6_init 33 = .ok (.putfield 21, 3) := by decide +kernel
theorem dX6_init_36 : decode cX6_init 36 = .ok (.aload_n 0, 1) := by decide +kernel
theorem dX6_init_37 : decode cX6_init 37 = .ok (.bipush 8, 2) := by decide +kernel
theorem dX6_init_39 : decode cX6_init 39 = .ok (.newarray .int, 2) := by decide +kernel
theorem dX6_init_41 : decode cX6_init 41 = .ok (.putfield 24, 3) := by decide +kernel
theorem dX6_init_44 : decode cX6_init 44 = .ok (.aload_n 0, 1) := by decide +kernel
theorem dX6_init_45 : decode cX6_init 45 = .ok (.bipush 8, 2) := by decide +kernel
theorem dX6_init_47 : decode cX6_init 47 = .ok (.newarray .int, 2) := by decide +kernel
theorem dX6_init_49 : decode cX6_init 49 = .ok (.putfield 27, 3) := by decide +kernel
theorem dX6_init_52 : decode cX6_init 52 = .ok (.aload_n 0, 1) := by decide +kernel
theorem dX6_init_53 : decode cX6_init 53 = .ok (.bipush 8, 2) := by decide +kernel
theorem dX6_init_55 : decode cX6_init 55 = .ok (.newarray .int, 2) := by decide +kernel
theorem dX6_init_57 : decode cX6_init 57 = .ok (.putfield 30, 3) := by decide +kernel
theorem dX6_init_60 : decode cX6_init 60 = .ok (.aload_n 0, 1) := by decide +kernel
theorem dX6_init_61 : decode cX6_init 61 = .ok (.bipush 8, 2) := by decide +kernel
theorem dX6_init_63 : decode cX6_init 63 = .ok (.newarray .int, 2) := by decide +kernel
theorem dX6_init_65 : decode cX6_init 65 = .ok (.putfield 33, 3) := by decide +kernel
theorem dX6_init_68 : decode cX6_init 68 = .ok (.aload_n 0, 1) := by decide +kernel
theorem dX6_init_69 : decode cX6_init 69 = .ok (.bipush 8, 2) := by decide +kernel
theorem dX6_init_71 : decode cX6_init 71 = .ok (.newarray .int, 2) := by decide +kernel
theorem dX6_init_73 : decode cX6_init 73 = .ok (.putfield 36, 3) := by decide +kernel
theorem dX6_init_76 : decode cX6_init 76 = .ok (.return_, 1) := by decide +kernel
theorem dX6_add_0 : decode cX6_add 0 = .ok (.aload_n 0, 1) := by decide +kernel
theorem dX6_add_1 : decode cX6_add 1 = .ok (.getfield 39, 3) := by decide +kernel
theorem dX6_add_4 : decode cX6_add 4 = .ok (.istore 7, 2) := by decide +kernel
theorem dX6_add_6 : decode cX6_add 6 = .ok (.aload_n 0, 1) := by decide +kernel
theorem dX6_add_7 : decode cX6_add 7 = .ok (.getfield 9, 3) := by decide +kernel
theorem dX6_add_10 : decode cX6_add 10 = .ok (.iload 7, 2) := by decide +kernel
theorem dX6_add_12 : decode cX6_add 12 = .ok (.iload_n 1, 1) := by decide +kernel
theorem dX6_add_13 : decode cX6_add 13 = .ok (.iastore, 1) := by decide +kernel
theorem dX6_add_14 : decode cX6_add 14 = .ok (.aload_n 0, 1) := by decide +kernel
theorem dX6_add_15 : decode cX6_add 15 = .ok (.getfield 15, 3) := by decide +kernel
theorem dX6_add_18 : decode cX6_add 18 = .ok (.iload 7, 2) := by decide +kernel
theorem dX6_add_20 : decode cX6_add 20 = .ok (.iload_n 3, 1) := by decide +kernel
theorem dX6_add_21 : decode cX6_add 21 = .ok (.iastore, 1) := by decide +kernel
theorem dX6_add_22 : decode cX6_add 22 = .ok (.aload_n 0, 1) := by decide +kernel
theorem dX6_add_23 : decode cX6_add 23 = .ok (.getfield 18, 3) := by decide +kernel
theorem dX6_add_26 : decode cX6_add 26 = .ok (.iload 7, 2) := by decide +kernel
theorem dX6_add_28 : decode cX6_add 28 = .ok (.iload 4, 2) := by decide +kernel
theorem dX6_add_30 : decode cX6_add 30 = .ok (.iastore, 1) := by decide +kernel
theorem dX6_add_31 : decode cX6_add 31 = .ok (.aload_n 0, 1) := by decide +kernel
theorem dX6_add_32 : decode cX6_add 32 = .ok (.getfield 21, 3) := by decide +kernel
theorem dX6_add_35 : decode cX6_add 35 = .ok (.iload 7, 2) := by decide +kernel
theorem dX6_add_37 : decode cX6_add 37 = .ok (.iload 5, 2) := by decide +kernel
theorem dX6_add_39 : decode cX6_add 39 = .ok (.iastore, 1) := by decide +kernel
theorem dX6_add_40 : decode cX6_add 40 = .ok (.aload_n 0, 1) := by decide +kernel
theorem dX6_add_41 : decode cX6_add 41 = .ok (.getfield 24, 3) := by decide +kernel
theorem dX6_add_44 : decode cX6_add 44 = .ok (.iload 7, 2) := by decide +kernel
theorem dX6_add_46 : decode cX6_add 46 = .ok (.iconst 0, 1) := by decide +kernel
theorem dX6_add_47 : decode cX6_add 47 = .ok (.iastore, 1) := by decide +kernel
theorem dX6_add_48 : decode cX6_add 48 = .ok (.aload_n 0, 1) := by decide +kernel
theorem dX6_add_49 : decode cX6_add 49 = .ok (.getfield 27, 3) := by decide +kernel
theorem dX6_add_52 : decode cX6_add 52 = .ok (.iload 7, 2) := by decide +kernel
theorem dX6_add_54 : decode cX6_add 54 = .ok (.iload 6, 2) := by decide +kernel
theorem dX6_add_56 : decode cX6_add 56 = .ok (.iastore, 1) := by decide +kernel
theorem dX6_add_57 : decode cX6_add 57 = .ok (.aload_n 0, 1) := by decide +kernel
theorem dX6_add_58 : decode cX6_add 58 = .ok (.getfield 30, 3) := by decide +kernel
theorem dX6_add_61 : decode cX6_add 61 = .ok (.iload 7, 2) := by decide +kernel
theorem dX6_add_63 : decode cX6_add 63 = .ok (.iload_n 2, 1) := by decide +kernel
theorem dX6_add_64 : decode cX6_add 64 = .ok (.iastore, 1) := by decide +kernel
theorem dX6_add_65 : decode cX6_add 65 = .ok (.aload_n 0, 1) := by decide +kernel
theorem dX6_add_66 : decode cX6_add 66 = .ok (.getfield 33, 3) := by decide +kernel
theorem dX6_add_69 : decode cX6_add 69 = .ok (.iload 7, 2) := by decide +kernel
theorem dX6_add_71 : decode cX6_add 71 = .ok (.bipush (-6), 2) := by decide +kernel
theorem dX6_add_73 : decode cX6_add 73 = .ok (.iastore, 1) := by decide +kernel
theorem dX6_add_74 : decode cX6_add 74 = .ok (.aload_n 0, 1) := by decide +kernel
theorem dX6_add_75 : decode cX6_add 75 = .ok (.getfield 36, 3) := by decide +kernel
theorem dX6_add_78 : decode cX6_add 78 = .ok (.iload 7, 2) := by decide +kernel
theorem dX6_add_80 : decode cX6_add 80 = .ok (.iconst 0, 1) := by decide +kernel
theorem dX6_add_81 : decode cX6_add 81 = .ok (.iastore, 1) := by decide +kernel
theorem dX6_add_82 : decode cX6_add 82 = .ok (.aload_n 0, 1) := by decide +kernel
theorem dX6_add_83 : decode cX6_add 83 = .ok (.dup, 1) := by decide +kernel
theorem dX6_add_84 : decode cX6_add 84 = .ok (.getfield 39, 3) := by decide +kernel
theorem dX6_add_87 : decode cX6_add 87 = .ok (.iconst 1, 1) := by decide +kernel
theorem dX6_add_88 : decode cX6_add 88 = .ok (.iadd, 1) := by decide +kernel
theorem dX6_add_89 : decode cX6_add 89 = .ok (.putfield 39, 3) := by decide +kernel
theorem dX6_add_92 : decode cX6_add 92 = .ok (.iload 7, 2) := by decide +kernel
theorem dX6_add_94 : decode cX6_add 94 = .ok (.ireturn, 1) := by decide +kernel
set_option maxRecDepth 20000 in
theorem ggX6_comeAnew_X6_leftAt : GoodIn wsX6_comeAnew wsX6_leftAt := goodIn_r _ [10, 11, 1, 3, 2, 5, 4, 12, 13, 14, 15, 16, 17, 18, 19, 20, 21, 22, 23, 24, 25] (by decide +kernel) (by decide +kernel)
set_option maxRecDepth 20000 in
theorem gX6_comeAnew_X6_leftAt : GoodIn wsX6_comeAnew (wsV RX6 43 RX6 yX6_leftAt wsX6_leftAt) := goodIn_app (goodIn_of _ (by decide +kernel)) ggX6_comeAnew_X6_leftAt
theorem dX6_comeAnew_0 : decode cX6_comeAnew 0 = .ok (.aload_n 0, 1) := by decide +kernel
theorem dX6_comeAnew_1 : decode cX6_comeAnew 1 = .ok (.getfield 30, 3) := by decide +kernel
theorem dX6_comeAnew_4 : decode cX6_comeAnew 4 = .ok (.iload_n 1, 1) := by decide +kernel
theorem dX6_comeAnew_5 : decode cX6_comeAnew 5 = .ok (.aload_n 0, 1) := by decide +kernel
theorem dX6_comeAnew_6 : decode cX6_comeAnew 6 = .ok (.iload_n 1, 1) := by decide +kernel
theorem dX6_comeAnew_7 : decode cX6_comeAnew 7 = .ok (.iload 4, 2) := by decide +kernel
theorem dX6_comeAnew_9 : decode cX6_comeAnew 9 = .ok (.invokevirtual 43, 3) := by decide +kernel
theorem dX6_comeAnew_12 : decode cX6_comeAnew 12 = .ok (.iastore, 1) := by decide +kernel
theorem dX6_comeAnew_13 : decode cX6_comeAnew 13 = .ok (.aload_n 0, 1) := by decide +kernel
theorem dX6_comeAnew_14 : decode cX6_comeAnew 14 = .ok (.getfield 27, 3) := by decide +kernel
theorem dX6_comeAnew_17 : decode cX6_comeAnew 17 = .ok (.iload_n 1, 1) := by decide +kernel
theorem dX6_comeAnew_18 : decode cX6_comeAnew 18 = .ok (.iload 4, 2) := by decide +kernel
theorem dX6_comeAnew_20 : decode cX6_comeAnew 20 = .ok (.iastore, 1) := by decide +kernel
theorem dX6_comeAnew_21 : decode cX6_comeAnew 21 = .ok (.aload_n 0, 1) := by decide +kernel
theorem dX6_comeAnew_22 : decode cX6_comeAnew 22 = .ok (.getfield 24, 3) := by decide +kernel
theorem dX6_comeAnew_25 : decode cX6_comeAnew 25 = .ok (.iload_n 1, 1) := by decide +kernel
theorem dX6_comeAnew_26 : decode cX6_comeAnew 26 = .ok (.iload_n 2, 1) := by decide +kernel
theorem dX6_comeAnew_27 : decode cX6_comeAnew 27 = .ok (.iastore, 1) := by decide +kernel
theorem dX6_comeAnew_28 : decode cX6_comeAnew 28 = .ok (.aload_n 0, 1) := by decide +kernel
theorem dX6_comeAnew_29 : decode cX6_comeAnew 29 = .ok (.getfield 33, 3) := by decide +kernel
theorem dX6_comeAnew_32 : decode cX6_comeAnew 32 = .ok (.iload_n 1, 1) := by decide +kernel
theorem dX6_comeAnew_33 : decode cX6_comeAnew 33 = .ok (.iload_n 3, 1) := by decide +kernel
theorem dX6_comeAnew_34 : decode cX6_comeAnew 34 = .ok (.iastore, 1) := by decide +kernel
theorem dX6_comeAnew_35 : decode cX6_comeAnew 35 = .ok (.aload_n 0, 1) := by decide +kernel
theorem dX6_comeAnew_36 : decode cX6_comeAnew 36 = .ok (.getfield 36, 3) := by decide +kernel
theorem dX6_comeAnew_39 : decode cX6_comeAnew 39 = .ok (.iload_n 1, 1) := by decide +kernel
theorem dX6_comeAnew_40 : decode cX6_comeAnew 40 = .ok (.aload_n 0, 1) := by decide +kernel
theorem dX6_comeAnew_41 : decode cX6_comeAnew 41 = .ok (.iload_n 3, 1) := by decide +kernel
theorem dX6_comeAnew_42 : decode cX6_comeAnew 42 = .ok (.iload 4, 2) := by decide +kernel
theorem dX6_comeAnew_44 : decode cX6_comeAnew 44 = .ok (.invokevirtual 43, 3) := by decide +kernel
theorem dX6_comeAnew_47 : decode cX6_comeAnew 47 = .ok (.iastore, 1) := by decide +kernel
theorem dX6_comeAnew_48 : decode cX6_comeAnew 48 = .ok (.return_, 1) := by decide +kernel
set_option maxRecDepth 20000 in
theorem ggX6_leftAt_J9_floorDiv_7cf53 : GoodIn wsX6_leftAt wsJ9_floorDiv_7cf53 := goodIn_r _ [10] (by decide +kernel) (by decide +kernel)
set_option maxRecDepth 20000 in
theorem gX6_leftAt_J9_floorDiv_7cf53 : GoodIn wsX6_leftAt (va_wsS RX6 47 yJ9_floorDiv_7cf53 wsJ9_floorDiv_7cf53) := goodIn_app (goodIn_of _ (by decide +kernel)) ggX6_leftAt_J9_floorDiv_7cf53
theorem dX6_leftAt_0 : decode cX6_leftAt 0 = .ok (.iconst 0, 1) := by decide +kernel
theorem dX6_leftAt_1 : decode cX6_leftAt 1 = .ok (.istore_n 3, 1) := by decide +kernel
theorem dX6_leftAt_2 : decode cX6_leftAt 2 = .ok (.iload_n 1, 1) := by decide +kernel
theorem dX6_leftAt_3 : decode cX6_leftAt 3 = .ok (.istore 4, 2) := by decide +kernel
theorem dX6_leftAt_5 : decode cX6_leftAt 5 = .ok (.iconst 0, 1) := by decide +kernel
theorem dX6_leftAt_6 : decode cX6_leftAt 6 = .ok (.istore 5, 2) := by decide +kernel
theorem dX6_leftAt_8 : decode cX6_leftAt 8 = .ok (.iload 5, 2) := by decide +kernel
theorem dX6_leftAt_10 : decode cX6_leftAt 10 = .ok (.bipush 8, 2) := by decide +kernel
theorem dX6_leftAt_12 : decode cX6_leftAt 12 = .ok (.if_icmp .ge 73, 3) := by decide +kernel
theorem dX6_leftAt_15 : decode cX6_leftAt 15 = .ok (.iload 4, 2) := by decide +kernel
theorem dX6_leftAt_17 : decode cX6_leftAt 17 = .ok (.ifCond .lt 68, 3) := by decide +kernel
theorem dX6_leftAt_20 : decode cX6_leftAt 20 = .ok (.iload 4, 2) := by decide +kernel
theorem dX6_leftAt_22 : decode cX6_leftAt 22 = .ok (.aload_n 0, 1) := by decide +kernel
theorem dX6_leftAt_23 : decode cX6_leftAt 23 = .ok (.getfield 39, 3) := by decide +kernel
theorem dX6_leftAt_26 : decode cX6_leftAt 26 = .ok (.if_icmp .ge 59, 3) := by decide +kernel
theorem dX6_leftAt_29 : decode cX6_leftAt 29 = .ok (.iload_n 3, 1) := by decide +kernel
theorem dX6_leftAt_30 : decode cX6_leftAt 30 = .ok (.aload_n 0, 1) := by decide +kernel
theorem dX6_leftAt_31 : decode cX6_leftAt 31 = .ok (.getfield 30, 3) := by decide +kernel
theorem dX6_leftAt_34 : decode cX6_leftAt 34 = .ok (.iload 4, 2) := by decide +kernel
theorem dX6_leftAt_36 : decode cX6_leftAt 36 = .ok (.iaload, 1) := by decide +kernel
theorem dX6_leftAt_37 : decode cX6_leftAt 37 = .ok (.aload_n 0, 1) := by decide +kernel
theorem dX6_leftAt_38 : decode cX6_leftAt 38 = .ok (.getfield 24, 3) := by decide +kernel
theorem dX6_leftAt_41 : decode cX6_leftAt 41 = .ok (.iload 4, 2) := by decide +kernel
theorem dX6_leftAt_43 : decode cX6_leftAt 43 = .ok (.iaload, 1) := by decide +kernel
theorem dX6_leftAt_44 : decode cX6_leftAt 44 = .ok (.iload_n 2, 1) := by decide +kernel
theorem dX6_leftAt_45 : decode cX6_leftAt 45 = .ok (.aload_n 0, 1) := by decide +kernel
theorem dX6_leftAt_46 : decode cX6_leftAt 46 = .ok (.getfield 27, 3) := by decide +kernel
theorem dX6_leftAt_49 : decode cX6_leftAt 49 = .ok (.iload 4, 2) := by decide +kernel
theorem dX6_leftAt_51 : decode cX6_leftAt 51 = .ok (.iaload, 1) := by decide +kernel
theorem dX6_leftAt_52 : decode cX6_leftAt 52 = .ok (.isub, 1) := by decide +kernel
theorem dX6_leftAt_53 : decode cX6_leftAt 53 = .ok (.imul, 1) := by decide +kernel
theorem dX6_leftAt_54 : decode cX6_leftAt 54 = .ok (.bipush 10, 2) := by decide +kernel
theorem dX6_leftAt_56 : decode cX6_leftAt 56 = .ok (.invokestatic 47, 3) := by decide +kernel
theorem dX6_leftAt_59 : decode cX6_leftAt 59 = .ok (.iadd, 1) := by decide +kernel
theorem dX6_leftAt_60 : decode cX6_leftAt 60 = .ok (.aload_n 0, 1) := by decide +kernel
theorem dX6_leftAt_61 : decode cX6_leftAt 61 = .ok (.getfield 36, 3) := by decide +kernel
theorem dX6_leftAt_64 : decode cX6_leftAt 64 = .ok (.iload 4, 2) := by decide +kernel
theorem dX6_leftAt_66 : decode cX6_leftAt 66 = .ok (.iaload, 1) := by decide +kernel
theorem dX6_leftAt_67 : decode cX6_leftAt 67 = .ok (.isub, 1) := by decide +kernel
theorem dX6_leftAt_68 : decode cX6_leftAt 68 = .ok (.iadd, 1) := by decide +kernel
theorem dX6_leftAt_69 : decode cX6_leftAt 69 = .ok (.istore_n 3, 1) := by decide +kernel
theorem dX6_leftAt_70 : decode cX6_leftAt 70 = .ok (.aload_n 0, 1) := by decide +kernel
theorem dX6_leftAt_71 : decode cX6_leftAt 71 = .ok (.getfield 33, 3) := by decide +kernel
theorem dX6_leftAt_74 : decode cX6_leftAt 74 = .ok (.iload 4, 2) := by decide +kernel
theorem dX6_leftAt_76 : decode cX6_leftAt 76 = .ok (.iaload, 1) := by decide +kernel
theorem dX6_leftAt_77 : decode cX6_leftAt 77 = .ok (.istore 4, 2) := by decide +kernel
theorem dX6_leftAt_79 : decode cX6_leftAt 79 = .ok (.iinc 5 1, 3) := by decide +kernel
theorem dX6_leftAt_82 : decode cX6_leftAt 82 = .ok (.goto (-74), 3) := by decide +kernel
theorem dX6_leftAt_85 : decode cX6_leftAt 85 = .ok (.iload_n 3, 1) := by decide +kernel
theorem dX6_leftAt_86 : decode cX6_leftAt 86 = .ok (.ireturn, 1) := by decide +kernel
theorem dX6_speedWithAllUnder_0 : decode cX6_speedWithAllUnder 0 = .ok (.iconst 0, 1) := by decide +kernel
theorem dX6_speedWithAllUnder_1 : decode cX6_speedWithAllUnder 1 = .ok (.istore_n 2, 1) := by decide +kernel
theorem dX6_speedWithAllUnder_2 : decode cX6_speedWithAllUnder 2 = .ok (.iload_n 1, 1) := by decide +kernel
theorem dX6_speedWithAllUnder_3 : decode cX6_speedWithAllUnder 3 = .ok (.istore_n 3, 1) := by decide +kernel
theorem dX6_speedWithAllUnder_4 : decode cX6_speedWithAllUnder 4 = .ok (.iconst 0, 1) := by decide +kernel
theorem dX6_speedWithAllUnder_5 : decode cX6_speedWithAllUnder 5 = .ok (.istore 4, 2) := by decide +kernel
theorem dX6_speedWithAllUnder_7 : decode cX6_speedWithAllUnder 7 = .ok (.iload 4, 2) := by decide +kernel
theorem dX6_speedWithAllUnder_9 : decode cX6_speedWithAllUnder 9 = .ok (.bipush 8, 2) := by decide +kernel
theorem dX6_speedWithAllUnder_11 : decode cX6_speedWithAllUnder 11 = .ok (.if_icmp .ge 37, 3) := by decide +kernel
theorem dX6_speedWithAllUnder_14 : decode cX6_speedWithAllUnder 14 = .ok (.iload_n 3, 1) := by decide +kernel
theorem dX6_speedWithAllUnder_15 : decode cX6_speedWithAllUnder 15 = .ok (.ifCond .lt 33, 3) := by decide +kernel
theorem dX6_speedWithAllUnder_18 : decode cX6_speedWithAllUnder 18 = .ok (.iload_n 3, 1) := by decide +kernel
theorem dX6_speedWithAllUnder_19 : decode cX6_speedWithAllUnder 19 = .ok (.aload_n 0, 1) := by decide +kernel
theorem dX6_speedWithAllUnder_20 : decode cX6_speedWithAllUnder 20 = .ok (.getfield 39, 3) := by decide +kernel
theorem dX6_speedWithAllUnder_23 : decode cX6_speedWithAllUnder 23 = .ok (.if_icmp .ge 25, 3) := by decide +kernel
theorem dX6_speedWithAllUnder_26 : decode cX6_speedWithAllUnder 26 = .ok (.iload_n 2, 1) := by decide +kernel
theorem dX6_speedWithAllUnder_27 : decode cX6_speedWithAllUnder 27 = .ok (.aload_n 0, 1) := by decide +kernel
theorem dX6_speedWithAllUnder_28 : decode cX6_speedWithAllUnder 28 = .ok (.getfield 24, 3) := by decide +kernel
theorem dX6_speedWithAllUnder_31 : decode cX6_speedWithAllUnder 31 = .ok (.iload_n 3, 1) := by decide +kernel
theorem dX6_speedWithAllUnder_32 : decode cX6_speedWithAllUnder 32 = .ok (.iaload, 1) := by decide +kernel
theorem dX6_speedWithAllUnder_33 : decode cX6_speedWithAllUnder 33 = .ok (.iadd, 1) := by decide +kernel
theorem dX6_speedWithAllUnder_34 : decode cX6_speedWithAllUnder 34 = .ok (.istore_n 2, 1) := by decide +kernel
theorem dX6_speedWithAllUnder_35 : decode cX6_speedWithAllUnder 35 = .ok (.aload_n 0, 1) := by decide +kernel
theorem dX6_speedWithAllUnder_36 : decode cX6_speedWithAllUnder 36 = .ok (.getfield 33, 3) := by decide +kernel
theorem dX6_speedWithAllUnder_39 : decode cX6_speedWithAllUnder 39 = .ok (.iload_n 3, 1) := by decide +kernel
theorem dX6_speedWithAllUnder_40 : decode cX6_speedWithAllUnder 40 = .ok (.iaload, 1) := by decide +kernel
theorem dX6_speedWithAllUnder_41 : decode cX6_speedWithAllUnder 41 = .ok (.istore_n 3, 1) := by decide +kernel
theorem dX6_speedWithAllUnder_42 : decode cX6_speedWithAllUnder 42 = .ok (.iinc 4 1, 3) := by decide +kernel
theorem dX6_speedWithAllUnder_45 : decode cX6_speedWithAllUnder 45 = .ok (.goto (-38), 3) := by decide +kernel
theorem dX6_speedWithAllUnder_48 : decode cX6_speedWithAllUnder 48 = .ok (.iload_n 2, 1) := by decide +kernel
theorem dX6_speedWithAllUnder_49 : decode cX6_speedWithAllUnder 49 = .ok (.ireturn, 1) := by decide +kernel
set_option maxRecDepth 20000 in
theorem ggX6_isInLine_X7_within : GoodIn wsX6_isInLine wsX7_within := goodIn_r _ [5] (by decide +kernel) (by decide +kernel)
set_option maxRecDepth 20000 in
theorem gX6_isInLine_X7_within_n52 : GoodIn wsX6_isInLine (wsX7_within) := ggX6_isInLine_X7_within
theorem dX6_isInLine_0 : decode cX6_isInLine 0 = .ok (.iload_n 2, 1) := by decide +kernel
theorem dX6_isInLine_1 : decode cX6_isInLine 1 = .ok (.aload_n 0, 1) := by decide +kernel
theorem dX6_isInLine_2 : decode cX6_isInLine 2 = .ok (.getfield 9, 3) := by decide +kernel
theorem dX6_isInLine_5 : decode cX6_isInLine 5 = .ok (.iload_n 1, 1) := by decide +kernel
theorem dX6_isInLine_6 : decode cX6_isInLine 6 = .ok (.iaload, 1) := by decide +kernel
theorem dX6_isInLine_7 : decode cX6_isInLine 7 = .ok (.aload_n 0, 1) := by decide +kernel
theorem dX6_isInLine_8 : decode cX6_isInLine 8 = .ok (.getfield 9, 3) := by decide +kernel
theorem dX6_isInLine_11 : decode cX6_isInLine 11 = .ok (.iload_n 1, 1) := by decide +kernel
theorem dX6_isInLine_12 : decode cX6_isInLine 12 = .ok (.iaload, 1) := by decide +kernel
theorem dX6_isInLine_13 : decode cX6_isInLine 13 = .ok (.aload_n 0, 1) := by decide +kernel
theorem dX6_isInLine_14 : decode cX6_isInLine 14 = .ok (.getfield 15, 3) := by decide +kernel
theorem dX6_isInLine_17 : decode cX6_isInLine 17 = .ok (.iload_n 1, 1) := by decide +kernel
theorem dX6_isInLine_18 : decode cX6_isInLine 18 = .ok (.iaload, 1) := by decide +kernel
theorem dX6_isInLine_19 : decode cX6_isInLine 19 = .ok (.iadd, 1) := by decide +kernel
theorem dX6_isInLine_20 : decode cX6_isInLine 20 = .ok (.iconst 1, 1) := by decide +kernel
theorem dX6_isInLine_21 : decode cX6_isInLine 21 = .ok (.isub, 1) := by decide +kernel
theorem dX6_isInLine_22 : decode cX6_isInLine 22 = .ok (.invokestatic 52, 3) := by decide +kernel
theorem dX6_isInLine_25 : decode cX6_isInLine 25 = .ok (.ireturn, 1) := by decide +kernel
theorem dX6_copyFrom_0 : decode cX6_copyFrom 0 = .ok (.aload_n 0, 1) := by decide +kernel
theorem dX6_copyFrom_1 : decode cX6_copyFrom 1 = .ok (.aload_n 1, 1) := by decide +kernel
theorem dX6_copyFrom_2 : decode cX6_copyFrom 2 = .ok (.getfield 39, 3) := by decide +kernel
theorem dX6_copyFrom_5 : decode cX6_copyFrom 5 = .ok (.putfield 39, 3) := by decide +kernel
theorem dX6_copyFrom_8 : decode cX6_copyFrom 8 = .ok (.aload_n 1, 1) := by decide +kernel
theorem dX6_copyFrom_9 : decode cX6_copyFrom 9 = .ok (.getfield 9, 3) := by decide +kernel
theorem dX6_copyFrom_12 : decode cX6_copyFrom 12 = .ok (.iconst 0, 1) := by decide +kernel
theorem dX6_copyFrom_13 : decode cX6_copyFrom 13 = .ok (.aload_n 0, 1) := by decide +kernel
theorem dX6_copyFrom_14 : decode cX6_copyFrom 14 = .ok (.getfield 9, 3) := by decide +kernel
theorem dX6_copyFrom_17 : decode cX6_copyFrom 17 = .ok (.iconst 0, 1) := by decide +kernel
theorem dX6_copyFrom_18 : decode cX6_copyFrom 18 = .ok (.bipush 8, 2) := by decide +kernel
theorem dX6_copyFrom_20 : decode cX6_copyFrom 20 = .ok (.invokestatic 56, 3) := by decide +kernel
theorem dX6_copyFrom_23 : decode cX6_copyFrom 23 = .ok (.aload_n 1, 1) := by decide +kernel
theorem dX6_copyFrom_24 : decode cX6_copyFrom 24 = .ok (.getfield 15, 3) := by decide +kernel
theorem dX6_copyFrom_27 : decode cX6_copyFrom 27 = .ok (.iconst 0, 1) := by decide +kernel
theorem dX6_copyFrom_28 : decode cX6_copyFrom 28 = .ok (.aload_n 0, 1) := by decide +kernel
theorem dX6_copyFrom_29 : decode cX6_copyFrom 29 = .ok (.getfield 15, 3) := by decide +kernel
theorem dX6_copyFrom_32 : decode cX6_copyFrom 32 = .ok (.iconst 0, 1) := by decide +kernel
theorem dX6_copyFrom_33 : decode cX6_copyFrom 33 = .ok (.bipush 8, 2) := by decide +kernel
theorem dX6_copyFrom_35 : decode cX6_copyFrom 35 = .ok (.invokestatic 56, 3) := by decide +kernel
theorem dX6_copyFrom_38 : decode cX6_copyFrom 38 = .ok (.aload_n 1, 1) := by decide +kernel
theorem dX6_copyFrom_39 : decode cX6_copyFrom 39 = .ok (.getfield 18, 3) := by decide +kernel
theorem dX6_copyFrom_42 : decode cX6_copyFrom 42 = .ok (.iconst 0, 1) := by decide +kernel
theorem dX6_copyFrom_43 : decode cX6_copyFrom 43 = .ok (.aload_n 0, 1) := by decide +kernel
theorem dX6_copyFrom_44 : decode cX6_copyFrom 44 = .ok (.getfield 18, 3) := by decide +kernel
theorem dX6_copyFrom_47 : decode cX6_copyFrom 47 = .ok (.iconst 0, 1) := by decide +kernel
theorem dX6_copyFrom_48 : decode cX6_copyFrom 48 = .ok (.bipush 8, 2) := by decide +kernel
theorem dX6_copyFrom_50 : decode cX6_copyFrom 50 = .ok (.invokestatic 56, 3) := by decide +kernel
theorem dX6_copyFrom_53 : decode cX6_copyFrom 53 = .ok (.aload_n 1, 1) := by decide +kernel
theorem dX6_copyFrom_54 : decode cX6_copyFrom 54 = .ok (.getfield 21, 3) := by decide +kernel
theorem dX6_copyFrom_57 : decode cX6_copyFrom 57 = .ok (.iconst 0, 1) := by decide +kernel
theorem dX6_copyFrom_58 : decode cX6_copyFrom 58 = .ok (.aload_n 0, 1) := by decide +kernel
theorem dX6_copyFrom_59 : decode cX6_copyFrom 59 = .ok (.getfield 21, 3) := by decide +kernel
theorem dX6_copyFrom_62 : decode cX6_copyFrom 62 = .ok (.iconst 0, 1) := by decide +kernel
theorem dX6_copyFrom_63 : decode cX6_copyFrom 63 = .ok (.bipush 8, 2) := by decide +kernel
theorem dX6_copyFrom_65 : decode cX6_copyFrom 65 = .ok (.invokestatic 56, 3) := by decide +kernel
theorem dX6_copyFrom_68 : decode cX6_copyFrom 68 = .ok (.aload_n 1, 1) := by decide +kernel
theorem dX6_copyFrom_69 : decode cX6_copyFrom 69 = .ok (.getfield 24, 3) := by decide +kernel
theorem dX6_copyFrom_72 : decode cX6_copyFrom 72 = .ok (.iconst 0, 1) := by decide +kernel
theorem dX6_copyFrom_73 : decode cX6_copyFrom 73 = .ok (.aload_n 0, 1) := by decide +kernel
theorem dX6_copyFrom_74 : decode cX6_copyFrom 74 = .ok (.getfield 24, 3) := by decide +kernel
theorem dX6_copyFrom_77 : decode cX6_copyFrom 77 = .ok (.iconst 0, 1) := by decide +kernel
theorem dX6_copyFrom_78 : decode cX6_copyFrom 78 = .ok (.bipush 8, 2) := by decide +kernel
theorem dX6_copyFrom_80 : decode cX6_copyFrom 80 = .ok (.invokestatic 56, 3) := by decide +kernel
theorem dX6_copyFrom_83 : decode cX6_copyFrom 83 = .ok (.aload_n 1, 1) := by decide +kernel
theorem dX6_copyFrom_84 : decode cX6_copyFrom 84 = .ok (.getfield 27, 3) := by decide +kernel
theorem dX6_copyFrom_87 : decode cX6_copyFrom 87 = .ok (.iconst 0, 1) := by decide +kernel
theorem dX6_copyFrom_88 : decode cX6_copyFrom 88 = .ok (.aload_n 0, 1) := by decide +kernel
theorem dX6_copyFrom_89 : decode cX6_copyFrom 89 = .ok (.getfield 27, 3) := by decide +kernel
theorem dX6_copyFrom_92 : decode cX6_copyFrom 92 = .ok (.iconst 0, 1) := by decide +kernel
theorem dX6_copyFrom_93 : decode cX6_copyFrom 93 = .ok (.bipush 8, 2) := by decide +kernel
theorem dX6_copyFrom_95 : decode cX6_copyFrom 95 = .ok (.invokestatic 56, 3) := by decide +kernel
theorem dX6_copyFrom_98 : decode cX6_copyFrom 98 = .ok (.aload_n 1, 1) := by decide +kernel
theorem dX6_copyFrom_99 : decode cX6_copyFrom 99 = .ok (.getfield 30, 3) := by decide +kernel
theorem dX6_copyFrom_102 : decode cX6_copyFrom 102 = .ok (.iconst 0, 1) := by decide +kernel
theorem dX6_copyFrom_103 : decode cX6_copyFrom 103 = .ok (.aload_n 0, 1) := by decide +kernel
theorem dX6_copyFrom_104 : decode cX6_copyFrom 104 = .ok (.getfield 30, 3) := by decide +kernel
theorem dX6_copyFrom_107 : decode cX6_copyFrom 107 = .ok (.iconst 0, 1) := by decide +kernel
theorem dX6_copyFrom_108 : decode cX6_copyFrom 108 = .ok (.bipush 8, 2) := by decide +kernel
theorem dX6_copyFrom_110 : decode cX6_copyFrom 110 = .ok (.invokestatic 56, 3) := by decide +kernel
theorem dX6_copyFrom_113 : decode cX6_copyFrom 113 = .ok (.aload_n 1, 1) := by decide +kernel
theorem dX6_copyFrom_114 : decode cX6_copyFrom 114 = .ok (.getfield 33, 3) := by decide +kernel
theorem dX6_copyFrom_117 : decode cX6_copyFrom 117 = .ok (.iconst 0, 1) := by decide +kernel
theorem dX6_copyFrom_118 : decode cX6_copyFrom 118 = .ok (.aload_n 0, 1) := by decide +kernel
theorem dX6_copyFrom_119 : decode cX6_copyFrom 119 = .ok (.getfield 33, 3) := by decide +kernel
theorem dX6_copyFrom_122 : decode cX6_copyFrom 122 = .ok (.iconst 0, 1) := by decide +kernel
theorem dX6_copyFrom_123 : decode cX6_copyFrom 123 = .ok (.bipush 8, 2) := by decide +kernel
theorem dX6_copyFrom_125 : decode cX6_copyFrom 125 = .ok (.invokestatic 56, 3) := by decide +kernel
theorem dX6_copyFrom_128 : decode cX6_copyFrom 128 = .ok (.aload_n 1, 1) := by decide +kernel
theorem dX6_copyFrom_129 : decode cX6_copyFrom 129 = .ok (.getfield 36, 3) := by decide +kernel
theorem dX6_copyFrom_132 : decode cX6_copyFrom 132 = .ok (.iconst 0, 1) := by decide +kernel
theorem dX6_copyFrom_133 : decode cX6_copyFrom 133 = .ok (.aload_n 0, 1) := by decide +kernel
theorem dX6_copyFrom_134 : decode cX6_copyFrom 134 = .ok (.getfield 36, 3) := by decide +kernel
theorem dX6_copyFrom_137 : decode cX6_copyFrom 137 = .ok (.iconst 0, 1) := by decide +kernel
theorem dX6_copyFrom_138 : decode cX6_copyFrom 138 = .ok (.bipush 8, 2) := by decide +kernel
theorem dX6_copyFrom_140 : decode cX6_copyFrom 140 = .ok (.invokestatic 56, 3) := by decide +kernel
theorem dX6_copyFrom_143 : decode cX6_copyFrom 143 = .ok (.return_, 1) := by decide +kernel
set_option maxRecDepth 20000 in
theorem ggX7_init_X5_init : GoodIn wsX7_init wsX5_init := goodIn_r _ [26, 27, 2, 3, 28, 29, 30, 31, 32, 33, 34, 35, 36, 37, 38, 39, 40, 41, 42, 43, 44, 45, 46, 47, 48, 49, 50, 51, 52, 53, 54, 55, 56, 57, 58, 59, 60, 61, 62, 63, 91, 92, 93, 94, 95, 96, 97, 116, 117, 118, 119, 120, 121, 122, 123, 124, 125, 126] (by decide +kernel) (by decide +kernel)
set_option maxRecDepth 20000 in
theorem gX7_init_X5_init_n9 : GoodIn wsX7_init (wsX5_init) := ggX7_init_X5_init
set_option maxRecDepth 20000 in
theorem ggX7_init_X0_init : GoodIn wsX7_init wsX0_init := goodIn_r _ [65, 66, 2, 3, 50, 67, 68, 69, 104, 105, 106] (by decide +kernel) (by decide +kernel)
set_option maxRecDepth 20000 in
theorem gX7_init_X0_init_n18 : GoodIn wsX7_init (wsX0_init) := ggX7_init_X0_init
set_option maxRecDepth 20000 in
theorem ggX7_init_X1_init : GoodIn wsX7_init wsX1_init := goodIn_r _ [71, 72, 2, 3, 73, 74, 75, 76, 107, 108, 109] (by decide +kernel) (by decide +kernel)
set_option maxRecDepth 20000 in
theorem gX7_init_X1_init_n25 : GoodIn wsX7_init (wsX1_init) := ggX7_init_X1_init
set_option maxRecDepth 20000 in
theorem ggX7_init_X2_init : GoodIn wsX7_init wsX2_init := goodIn_r _ [78, 79, 2, 3, 80, 81, 82, 110, 111] (by decide +kernel) (by decide +kernel)
set_option maxRecDepth 20000 in
theorem gX7_init_X2_init_n36 : GoodIn wsX7_init (wsX2_init) := ggX7_init_X2_init
set_option maxRecDepth 20000 in
theorem ggX7_init_X4_init : GoodIn wsX7_init wsX4_init := goodIn_r _ [85, 86, 2, 3, 87, 88, 50, 89, 90, 112, 113, 114, 115] (by decide +kernel) (by decide +kernel)
set_option maxRecDepth 20000 in
theorem gX7_init_X4_init : GoodIn wsX7_init (wsX4_init) := ggX7_init_X4_init
theorem dX7_init_0 : decode cX7_init 0 = .ok (.aload_n 0, 1) := by decide +kernel
theorem dX7_init_1 : decode cX7_init 1 = .ok (.invokespecial 1, 3) := by decide +kernel
theorem dX7_init_4 : decode cX7_init 4 = .ok (.aload_n 0, 1) := by decide +kernel
theorem dX7_init_5 : decode cX7_init 5 = .ok (.new 7, 3) := by decide +kernel
theorem dX7_init_8 : decode cX7_init 8 = .ok (.dup, 1) := by decide +kernel
theorem dX7_init_9 : decode cX7_init 9 = .ok (.invokespecial 9, 3) := by decide +kernel
theorem dX7_init_12 : decode cX7_init 12 = .ok (.putfield 10, 3) := by decide +kernel
theorem dX7_init_15 : decode cX7_init 15 = .ok (.aload_n 0, 1) := by decide +kernel
theorem dX7_init_16 : decode cX7_init 16 = .ok (.new 16, 3) := by decide +kernel
theorem dX7_init_19 : decode cX7_init 19 = .ok (.dup, 1) := by decide +kernel
theorem dX7_init_20 : decode cX7_init 20 = .ok (.invokespecial 18, 3) := by decide +kernel
theorem dX7_init_23 : decode cX7_init 23 = .ok (.putfield 19, 3) := by decide +kernel
theorem dX7_init_26 : decode cX7_init 26 = .ok (.aload_n 0, 1) := by decide +kernel
theorem dX7_init_27 : decode cX7_init 27 = .ok (.new 23, 3) := by decide +kernel
theorem dX7_init_30 : decode cX7_init 30 = .ok (.dup, 1) := by decide +kernel
theorem dX7_init_31 : decode cX7_init 31 = .ok (.invokespecial 25, 3) := by decide +kernel
theorem dX7_init_34 : decode cX7_init 34 = .ok (.putfield 26, 3) := by decide +kernel
theorem dX7_init_37 : decode cX7_init 37 = .ok (.aload_n 0, 1) := by decide +kernel
theorem dX7_init_38 : decode cX7_init 38 = .ok (.iconst 2, 1) := by decide +kernel
theorem dX7_init_39 : decode cX7_init 39 = .ok (.anewarray 7, 3) := by decide +kernel
theorem dX7_init_42 : decode cX7_init 42 = .ok (.putfield 30, 3) := by decide +kernel
theorem dX7_init_45 : decode cX7_init 45 = .ok (.aload_n 0, 1) := by decide +kernel
theorem dX7_init_46 : decode cX7_init 46 = .ok (.new 34, 3) := by decide +kernel
theorem dX7_init_49 : decode cX7_init 49 = .ok (.dup, 1) := by decide +kernel
theorem dX7_init_50 : decode cX7_init 50 = .ok (.invokespecial 36, 3) := by decide +kernel
theorem dX7_init_53 : decode cX7_init 53 = .ok (.putfield 37, 3) := by decide +kernel
theorem dX7_init_56 : decode cX7_init 56 = .ok (.aload_n 0, 1) := by decide +kernel
theorem dX7_init_57 : decode cX7_init 57 = .ok (.new 41, 3) := by decide +kernel
theorem dX7_init_60 : decode cX7_init 60 = .ok (.dup, 1) := by decide +kernel
theorem dX7_init_61 : decode cX7_init 61 = .ok (.aload_n 0, 1) := by decide +kernel
theorem dX7_init_62 : decode cX7_init 62 = .ok (.getfield 37, 3) := by decide +kernel
theorem dX7_init_65 : decode cX7_init 65 = .ok (.invokespecial 43, 3) := by decide +kernel
theorem dX7_init_68 : decode cX7_init 68 = .ok (.putfield 46, 3) := by decide +kernel
theorem dX7_init_71 : decode cX7_init 71 = .ok (.return_, 1) := by decide +kernel
set_option maxRecDepth 20000 in
theorem ggX7_set_X7_within : GoodIn wsX7_set wsX7_within := goodIn_r _ [9] (by decide +kernel) (by decide +kernel)
set_option maxRecDepth 20000 in
theorem gX7_set_X7_within : GoodIn wsX7_set (va_wsS RX7 50 yX7_within wsX7_within) := goodIn_app (goodIn_of _ (by decide +kernel)) ggX7_set_X7_within
set_option maxRecDepth 20000 in
theorem ggX7_set_X1_record : GoodIn wsX7_set wsX1_record := goodIn_r _ [14, 15, 16, 17, 18, 19, 20, 21, 22, 23, 24, 25, 26, 27, 28, 29, 30, 31, 32, 33, 34, 35, 36, 37, 38, 39, 40, 41, 42, 43, 44, 45, 46, 47, 48, 49, 50, 51, 52, 53, 54, 55, 56, 57, 58, 59, 60, 61, 62, 63, 64, 65, 66, 67, 68, 69, 70, 71, 72, 73, 74, 75, 76, 77, 78, 79, 80, 81, 82, 83, 84, 98, 99, 100, 91, 92, 93, 94, 95, 96, 97, 101, 102, 103, 104, 105, 106, 107, 108, 109, 110, 111] (by decide +kernel) (by decide +kernel)
set_option maxRecDepth 20000 in
theorem gX7_set_X1_record : GoodIn wsX7_set (wsV RX7 61 RX1 yX1_record wsX1_record) := goodIn_app (goodIn_of _ (by decide +kernel)) ggX7_set_X1_record
theorem dX7_set_0 : decode cX7_set 0 = .ok (.iload_n 1, 1) := by decide +kernel
theorem dX7_set_1 : decode cX7_set 1 = .ok (.iconst 0, 1) := by decide +kernel
theorem dX7_set_2 : decode cX7_set 2 = .ok (.iconst 3, 1) := by decide +kernel
theorem dX7_set_3 : decode cX7_set 3 = .ok (.invokestatic 50, 3) := by decide +kernel
theorem dX7_set_6 : decode cX7_set 6 = .ok (.ifCond .eq 20, 3) := by decide +kernel
theorem dX7_set_9 : decode cX7_set 9 = .ok (.iload_n 2, 1) := by decide +kernel
theorem dX7_set_10 : decode cX7_set 10 = .ok (.getstatic 54, 3) := by decide +kernel
theorem dX7_set_13 : decode cX7_set 13 = .ok (.iload_n 1, 1) := by decide +kernel
theorem dX7_set_14 : decode cX7_set 14 = .ok (.iaload, 1) := by decide +kernel
theorem dX7_set_15 : decode cX7_set 15 = .ok (.getstatic 58, 3) := by decide +kernel
theorem dX7_set_18 : decode cX7_set 18 = .ok (.iload_n 1, 1) := by decide +kernel
theorem dX7_set_19 : decode cX7_set 19 = .ok (.iaload, 1) := by decide +kernel
theorem dX7_set_20 : decode cX7_set 20 = .ok (.invokestatic 50, 3) := by decide +kernel
theorem dX7_set_23 : decode cX7_set 23 = .ok (.ifCond .ne 6, 3) := by decide +kernel
theorem dX7_set_26 : decode cX7_set 26 = .ok (.bipush (-2), 2) := by decide +kernel
theorem dX7_set_28 : decode cX7_set 28 = .ok (.ireturn, 1) := by decide +kernel
theorem dX7_set_29 : decode cX7_set 29 = .ok (.aload_n 0, 1) := by decide +kernel
theorem dX7_set_30 : decode cX7_set 30 = .ok (.getfield 26, 3) := by decide +kernel
theorem dX7_set_33 : decode cX7_set 33 = .ok (.aload_n 0, 1) := by decide +kernel
theorem dX7_set_34 : decode cX7_set 34 = .ok (.getfield 10, 3) := by decide +kernel
theorem dX7_set_37 : decode cX7_set 37 = .ok (.invokevirtual 61, 3) := by decide +kernel
theorem dX7_set_40 : decode cX7_set 40 = .ok (.aload_n 0, 1) := by decide +kernel
theorem dX7_set_41 : decode cX7_set 41 = .ok (.getfield 10, 3) := by decide +kernel
theorem dX7_set_44 : decode cX7_set 44 = .ok (.getfield 65, 3) := by decide +kernel
theorem dX7_set_47 : decode cX7_set 47 = .ok (.iload_n 1, 1) := by decide +kernel
theorem dX7_set_48 : decode cX7_set 48 = .ok (.iaload, 1) := by decide +kernel
theorem dX7_set_49 : decode cX7_set 49 = .ok (.istore_n 3, 1) := by decide +kernel
theorem dX7_set_50 : decode cX7_set 50 = .ok (.aload_n 0, 1) := by decide +kernel
theorem dX7_set_51 : decode cX7_set 51 = .ok (.getfield 10, 3) := by decide +kernel
theorem dX7_set_54 : decode cX7_set 54 = .ok (.getfield 65, 3) := by decide +kernel
theorem dX7_set_57 : decode cX7_set 57 = .ok (.iload_n 1, 1) := by decide +kernel
theorem dX7_set_58 : decode cX7_set 58 = .ok (.iload_n 2, 1) := by decide +kernel
theorem dX7_set_59 : decode cX7_set 59 = .ok (.iastore, 1) := by decide +kernel
theorem dX7_set_60 : decode cX7_set 60 = .ok (.iload_n 3, 1) := by decide +kernel
theorem dX7_set_61 : decode cX7_set 61 = .ok (.ireturn, 1) := by decide +kernel
set_option maxRecDepth 20000 in
theorem ggX7_thing_X7_errorOfThing : GoodIn wsX7_thing wsX7_errorOfThing := goodIn_r _ [9, 2, 3, 10, 11, 12, 8, 13, 14, 15, 16, 96, 97, 98, 99, 100, 101, 102, 103, 104, 105, 106, 107, 108, 109, 110, 111, 112, 113, 114, 115, 116, 117, 118] (by decide +kernel) (by decide +kernel)
set_option maxRecDepth 20000 in
theorem gX7_thing_X7_errorOfThing : GoodIn wsX7_thing (wsV RX7 68 RX7 yX7_errorOfThing wsX7_errorOfThing) := goodIn_app (goodIn_of _ (by decide +kernel)) ggX7_thing_X7_errorOfThing
set_option maxRecDepth 20000 in
theorem ggX7_thing_X1_record : GoodIn wsX7_thing wsX1_record := goodIn_r _ [21, 22, 23, 24, 25, 26, 27, 28, 29, 30, 31, 32, 33, 34, 35, 36, 37, 38, 39, 40, 41, 42, 43, 44, 45, 46, 47, 48, 49, 50, 51, 52, 53, 54, 55, 56, 57, 58, 59, 60, 61, 62, 63, 64, 65, 66, 67, 68, 69, 70, 71, 72, 73, 74, 75, 76, 77, 78, 79, 80, 81, 82, 83, 84, 85, 86, 87, 88, 89, 90, 91, 119, 120, 121, 102, 103, 104, 105, 106, 107, 108, 109, 110, 111, 112, 113, 114, 115, 116, 117, 118, 122] (by decide +kernel) (by decide +kernel)
set_option maxRecDepth 20000 in
theorem gX7_thing_X1_record : GoodIn wsX7_thing (wsV RX7 61 RX1 yX1_record wsX1_record) := goodIn_app (goodIn_of _ (by decide +kernel)) ggX7_thing_X1_record
set_option maxRecDepth 20000 in
theorem ggX7_thing_X6_add : GoodIn wsX7_thing wsX6_add := goodIn_r _ [95, 85, 60, 61, 62, 63, 64, 65, 66, 67, 68, 109, 110, 111, 112, 113, 114, 115, 116, 117, 118] (by decide +kernel) (by decide +kernel)
set_option maxRecDepth 20000 in
theorem gX7_thing_X6_add : GoodIn wsX7_thing (wsV RX7 80 RX6 yX6_add wsX6_add) := goodIn_app (goodIn_of _ (by decide +kernel)) ggX7_thing_X6_add
theorem dX7_thing_0 : decode cX7_thing 0 = .ok (.aload_n 0, 1) := by decide +kernel
theorem dX7_thing_1 : decode cX7_thing 1 = .ok (.iload_n 1, 1) := by decide +kernel
theorem dX7_thing_2 : decode cX7_thing 2 = .ok (.iload_n 2, 1) := by decide +kernel
theorem dX7_thing_3 : decode cX7_thing 3 = .ok (.iload_n 3, 1) := by decide +kernel
theorem dX7_thing_4 : decode cX7_thing 4 = .ok (.iload 4, 2) := by decide +kernel
theorem dX7_thing_6 : decode cX7_thing 6 = .ok (.iload 5, 2) := by decide +kernel
theorem dX7_thing_8 : decode cX7_thing 8 = .ok (.invokevirtual 68, 3) := by decide +kernel
theorem dX7_thing_11 : decode cX7_thing 11 = .ok (.istore 6, 2) := by decide +kernel
theorem dX7_thing_13 : decode cX7_thing 13 = .ok (.iload 6, 2) := by decide +kernel
theorem dX7_thing_15 : decode cX7_thing 15 = .ok (.ifCond .eq 6, 3) := by decide +kernel
theorem dX7_thing_18 : decode cX7_thing 18 = .ok (.iload 6, 2) := by decide +kernel
theorem dX7_thing_20 : decode cX7_thing 20 = .ok (.ireturn, 1) := by decide +kernel
theorem dX7_thing_21 : decode cX7_thing 21 = .ok (.aload_n 0, 1) := by decide +kernel
theorem dX7_thing_22 : decode cX7_thing 22 = .ok (.getfield 26, 3) := by decide +kernel
theorem dX7_thing_25 : decode cX7_thing 25 = .ok (.aload_n 0, 1) := by decide +kernel
theorem dX7_thing_26 : decode cX7_thing 26 = .ok (.getfield 10, 3) := by decide +kernel
theorem dX7_thing_29 : decode cX7_thing 29 = .ok (.invokevirtual 61, 3) := by decide +kernel
theorem dX7_thing_32 : decode cX7_thing 32 = .ok (.aload_n 0, 1) := by decide +kernel
