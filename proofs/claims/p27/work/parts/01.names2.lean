theorem dX0_pixelsBent_25 : decode cX0_pixelsBent 25 = .ok (.getfield 9, 3) := by decide +kernel
theorem dX0_pixelsBent_28 : decode cX0_pixelsBent 28 = .ok (.invokevirtual 30, 3) := by decide +kernel
theorem dX0_pixelsBent_31 : decode cX0_pixelsBent 31 = .ok (.aload_n 0, 1) := by decide +kernel
theorem dX0_pixelsBent_32 : decode cX0_pixelsBent 32 = .ok (.aload_n 1, 1) := by decide +kernel
theorem dX0_pixelsBent_33 : decode cX0_pixelsBent 33 = .ok (.iload_n 3, 1) := by decide +kernel
theorem dX0_pixelsBent_34 : decode cX0_pixelsBent 34 = .ok (.aload_n 1, 1) := by decide +kernel
theorem dX0_pixelsBent_35 : decode cX0_pixelsBent 35 = .ok (.getfield 48, 3) := by decide +kernel
theorem dX0_pixelsBent_38 : decode cX0_pixelsBent 38 = .ok (.aload_n 1, 1) := by decide +kernel
theorem dX0_pixelsBent_39 : decode cX0_pixelsBent 39 = .ok (.getfield 27, 3) := by decide +kernel
theorem dX0_pixelsBent_42 : decode cX0_pixelsBent 42 = .ok (.iconst 1, 1) := by decide +kernel
theorem dX0_pixelsBent_43 : decode cX0_pixelsBent 43 = .ok (.iaload, 1) := by decide +kernel
theorem dX0_pixelsBent_44 : decode cX0_pixelsBent 44 = .ok (.aload_n 0, 1) := by decide +kernel
theorem dX0_pixelsBent_45 : decode cX0_pixelsBent 45 = .ok (.getfield 15, 3) := by decide +kernel
theorem dX0_pixelsBent_48 : decode cX0_pixelsBent 48 = .ok (.invokevirtual 30, 3) := by decide +kernel
theorem dX0_pixelsBent_51 : decode cX0_pixelsBent 51 = .ok (.iconst 0, 1) := by decide +kernel
theorem dX0_pixelsBent_52 : decode cX0_pixelsBent 52 = .ok (.istore 4, 2) := by decide +kernel
theorem dX0_pixelsBent_54 : decode cX0_pixelsBent 54 = .ok (.iload 4, 2) := by decide +kernel
theorem dX0_pixelsBent_56 : decode cX0_pixelsBent 56 = .ok (.bipush 24, 2) := by decide +kernel
theorem dX0_pixelsBent_58 : decode cX0_pixelsBent 58 = .ok (.if_icmp .ge 29, 3) := by decide +kernel
theorem dX0_pixelsBent_61 : decode cX0_pixelsBent 61 = .ok (.aload_n 0, 1) := by decide +kernel
theorem dX0_pixelsBent_62 : decode cX0_pixelsBent 62 = .ok (.getfield 9, 3) := by decide +kernel
theorem dX0_pixelsBent_65 : decode cX0_pixelsBent 65 = .ok (.iload 4, 2) := by decide +kernel
theorem dX0_pixelsBent_67 : decode cX0_pixelsBent 67 = .ok (.iaload, 1) := by decide +kernel
theorem dX0_pixelsBent_68 : decode cX0_pixelsBent 68 = .ok (.aload_n 0, 1) := by decide +kernel
theorem dX0_pixelsBent_69 : decode cX0_pixelsBent 69 = .ok (.getfield 15, 3) := by decide +kernel
theorem dX0_pixelsBent_72 : decode cX0_pixelsBent 72 = .ok (.iload 4, 2) := by decide +kernel
theorem dX0_pixelsBent_74 : decode cX0_pixelsBent 74 = .ok (.iaload, 1) := by decide +kernel
theorem dX0_pixelsBent_75 : decode cX0_pixelsBent 75 = .ok (.if_icmp .eq 6, 3) := by decide +kernel
theorem dX0_pixelsBent_78 : decode cX0_pixelsBent 78 = .ok (.iinc 2 1, 3) := by decide +kernel
theorem dX0_pixelsBent_81 : decode cX0_pixelsBent 81 = .ok (.iinc 4 1, 3) := by decide +kernel
theorem dX0_pixelsBent_84 : decode cX0_pixelsBent 84 = .ok (.goto (-30), 3) := by decide +kernel
theorem dX0_pixelsBent_87 : decode cX0_pixelsBent 87 = .ok (.iinc 3 1, 3) := by decide +kernel
theorem dX0_pixelsBent_90 : decode cX0_pixelsBent 90 = .ok (.goto (-86), 3) := by decide +kernel
theorem dX0_pixelsBent_93 : decode cX0_pixelsBent 93 = .ok (.iload_n 2, 1) := by decide +kernel
theorem dX0_pixelsBent_94 : decode cX0_pixelsBent 94 = .ok (.ireturn, 1) := by decide +kernel
set_option maxRecDepth 20000 in
theorem ggX0_brightnessAt_X0_exposeLine : GoodIn wsX0_brightnessAt wsX0_exposeLine := goodIn_r _ [6, 7, 8, 9, 10, 11, 12, 13, 14, 15, 16, 17, 18, 19, 20, 21, 22, 23, 24, 25, 5, 26, 27, 28, 29, 30, 31, 32, 33, 34, 35, 36, 37, 38, 39, 40, 41, 42, 43, 44, 45, 46, 47, 48, 49, 50, 51, 52, 53, 54, 55, 56, 57, 58, 59, 60, 61, 62, 63, 64, 65, 69, 70, 71, 72, 73, 74, 75, 66, 67, 68, 76, 77, 78, 79, 80, 81, 82, 83, 84, 85] (by decide +kernel) (by decide +kernel)
set_option maxRecDepth 20000 in
theorem gX0_brightnessAt_X0_exposeLine : GoodIn wsX0_brightnessAt (wsV RX0 30 RX0 yX0_exposeLine wsX0_exposeLine) := goodIn_app (goodIn_of _ (by decide +kernel)) ggX0_brightnessAt_X0_exposeLine
theorem dX0_brightnessAt_0 : decode cX0_brightnessAt 0 = .ok (.aload_n 0, 1) := by decide +kernel
theorem dX0_brightnessAt_1 : decode cX0_brightnessAt 1 = .ok (.aload_n 1, 1) := by decide +kernel
theorem dX0_brightnessAt_2 : decode cX0_brightnessAt 2 = .ok (.iload_n 2, 1) := by decide +kernel
theorem dX0_brightnessAt_3 : decode cX0_brightnessAt 3 = .ok (.iload 4, 2) := by decide +kernel
theorem dX0_brightnessAt_5 : decode cX0_brightnessAt 5 = .ok (.iconst 1, 1) := by decide +kernel
theorem dX0_brightnessAt_6 : decode cX0_brightnessAt 6 = .ok (.aload_n 0, 1) := by decide +kernel
theorem dX0_brightnessAt_7 : decode cX0_brightnessAt 7 = .ok (.getfield 15, 3) := by decide +kernel
theorem dX0_brightnessAt_10 : decode cX0_brightnessAt 10 = .ok (.invokevirtual 30, 3) := by decide +kernel
theorem dX0_brightnessAt_13 : decode cX0_brightnessAt 13 = .ok (.aload_n 0, 1) := by decide +kernel
theorem dX0_brightnessAt_14 : decode cX0_brightnessAt 14 = .ok (.getfield 15, 3) := by decide +kernel
theorem dX0_brightnessAt_17 : decode cX0_brightnessAt 17 = .ok (.iload_n 3, 1) := by decide +kernel
theorem dX0_brightnessAt_18 : decode cX0_brightnessAt 18 = .ok (.iaload, 1) := by decide +kernel
theorem dX0_brightnessAt_19 : decode cX0_brightnessAt 19 = .ok (.ireturn, 1) := by decide +kernel
set_option maxRecDepth 20000 in
theorem ggX0_exposeLine_J7_fill_53178 : GoodIn wsX0_exposeLine wsJ7_fill_53178 := goodIn_r _ [5] (by decide +kernel) (by decide +kernel)
set_option maxRecDepth 20000 in
theorem gX0_exposeLine_J7_fill_53178 : GoodIn wsX0_exposeLine (va_wsS RX0 55 yJ7_fill_53178 wsJ7_fill_53178) := goodIn_app (goodIn_of _ (by decide +kernel)) ggX0_exposeLine_J7_fill_53178
set_option maxRecDepth 20000 in
theorem ggX0_exposeLine_X5_lightAt : GoodIn wsX0_exposeLine wsX5_lightAt := goodIn_r _ [10, 11, 12, 13, 14, 15, 16, 61, 62, 63, 64, 65, 66, 67] (by decide +kernel) (by decide +kernel)
set_option maxRecDepth 20000 in
theorem gX0_exposeLine_X5_lightAt : GoodIn wsX0_exposeLine (wsV RX0 61 RX5 yX5_lightAt wsX5_lightAt) := goodIn_app (goodIn_of _ (by decide +kernel)) ggX0_exposeLine_X5_lightAt
set_option maxRecDepth 20000 in
theorem ggX0_exposeLine_X0_findRises : GoodIn wsX0_exposeLine wsX0_findRises := goodIn_r _ [21, 22, 23, 24, 25, 2, 3, 4, 5, 26, 27, 28, 29, 30, 31, 32, 14, 15, 16, 33, 34, 35, 36, 37, 38, 39, 40, 41, 42, 43, 44, 45, 46, 47, 48, 20, 49, 50, 51, 52, 53, 54, 55, 56, 68, 69, 70, 71, 72, 73, 74, 75, 76, 77, 78, 79, 80] (by decide +kernel) (by decide +kernel)
set_option maxRecDepth 20000 in
theorem gX0_exposeLine_X0_findRises : GoodIn wsX0_exposeLine (wsV RX0 68 RX0 yX0_findRises wsX0_findRises) := goodIn_app (goodIn_of _ (by decide +kernel)) ggX0_exposeLine_X0_findRises
set_option maxRecDepth 20000 in
theorem ggX0_exposeLine_X0_addLight : GoodIn wsX0_exposeLine wsX0_addLight := goodIn_r _ [60, 22, 50, 51, 52, 53, 68, 69, 70] (by decide +kernel) (by decide +kernel)
set_option maxRecDepth 20000 in
theorem gX0_exposeLine_X0_addLight : GoodIn wsX0_exposeLine (wsV RX0 72 RX0 yX0_addLight wsX0_addLight) := goodIn_app (goodIn_of _ (by decide +kernel)) ggX0_exposeLine_X0_addLight
theorem dX0_exposeLine_0 : decode cX0_exposeLine 0 = .ok (.aload 5, 2) := by decide +kernel
theorem dX0_exposeLine_2 : decode cX0_exposeLine 2 = .ok (.iconst 0, 1) := by decide +kernel
theorem dX0_exposeLine_3 : decode cX0_exposeLine 3 = .ok (.invokestatic 55, 3) := by decide +kernel
theorem dX0_exposeLine_6 : decode cX0_exposeLine 6 = .ok (.iload_n 3, 1) := by decide +kernel
theorem dX0_exposeLine_7 : decode cX0_exposeLine 7 = .ok (.istore 6, 2) := by decide +kernel
theorem dX0_exposeLine_9 : decode cX0_exposeLine 9 = .ok (.iload 6, 2) := by decide +kernel
theorem dX0_exposeLine_11 : decode cX0_exposeLine 11 = .ok (.iload_n 3, 1) := by decide +kernel
theorem dX0_exposeLine_12 : decode cX0_exposeLine 12 = .ok (.iload 4, 2) := by decide +kernel
theorem dX0_exposeLine_14 : decode cX0_exposeLine 14 = .ok (.iadd, 1) := by decide +kernel
theorem dX0_exposeLine_15 : decode cX0_exposeLine 15 = .ok (.if_icmp .ge 41, 3) := by decide +kernel
theorem dX0_exposeLine_18 : decode cX0_exposeLine 18 = .ok (.aload_n 1, 1) := by decide +kernel
theorem dX0_exposeLine_19 : decode cX0_exposeLine 19 = .ok (.iload 6, 2) := by decide +kernel
theorem dX0_exposeLine_21 : decode cX0_exposeLine 21 = .ok (.invokevirtual 61, 3) := by decide +kernel
theorem dX0_exposeLine_24 : decode cX0_exposeLine 24 = .ok (.istore 7, 2) := by decide +kernel
theorem dX0_exposeLine_26 : decode cX0_exposeLine 26 = .ok (.iload 7, 2) := by decide +kernel
theorem dX0_exposeLine_28 : decode cX0_exposeLine 28 = .ok (.ifCond .eq 22, 3) := by decide +kernel
theorem dX0_exposeLine_31 : decode cX0_exposeLine 31 = .ok (.aload_n 0, 1) := by decide +kernel
theorem dX0_exposeLine_32 : decode cX0_exposeLine 32 = .ok (.aload_n 1, 1) := by decide +kernel
theorem dX0_exposeLine_33 : decode cX0_exposeLine 33 = .ok (.getfield 64, 3) := by decide +kernel
theorem dX0_exposeLine_36 : decode cX0_exposeLine 36 = .ok (.iload_n 2, 1) := by decide +kernel
theorem dX0_exposeLine_37 : decode cX0_exposeLine 37 = .ok (.iload 6, 2) := by decide +kernel
theorem dX0_exposeLine_39 : decode cX0_exposeLine 39 = .ok (.invokevirtual 68, 3) := by decide +kernel
theorem dX0_exposeLine_42 : decode cX0_exposeLine 42 = .ok (.aload_n 0, 1) := by decide +kernel
theorem dX0_exposeLine_43 : decode cX0_exposeLine 43 = .ok (.iload 7, 2) := by decide +kernel
theorem dX0_exposeLine_45 : decode cX0_exposeLine 45 = .ok (.aload 5, 2) := by decide +kernel
theorem dX0_exposeLine_47 : decode cX0_exposeLine 47 = .ok (.invokevirtual 72, 3) := by decide +kernel
theorem dX0_exposeLine_50 : decode cX0_exposeLine 50 = .ok (.iinc 6 1, 3) := by decide +kernel
theorem dX0_exposeLine_53 : decode cX0_exposeLine 53 = .ok (.goto (-44), 3) := by decide +kernel
theorem dX0_exposeLine_56 : decode cX0_exposeLine 56 = .ok (.return_, 1) := by decide +kernel
theorem dX0_addLight_0 : decode cX0_addLight 0 = .ok (.iconst 0, 1) := by decide +kernel
theorem dX0_addLight_1 : decode cX0_addLight 1 = .ok (.istore_n 3, 1) := by decide +kernel
theorem dX0_addLight_2 : decode cX0_addLight 2 = .ok (.iconst 0, 1) := by decide +kernel
theorem dX0_addLight_3 : decode cX0_addLight 3 = .ok (.istore 4, 2) := by decide +kernel
theorem dX0_addLight_5 : decode cX0_addLight 5 = .ok (.iload 4, 2) := by decide +kernel
theorem dX0_addLight_7 : decode cX0_addLight 7 = .ok (.bipush 24, 2) := by decide +kernel
theorem dX0_addLight_9 : decode cX0_addLight 9 = .ok (.if_icmp .ge 34, 3) := by decide +kernel
theorem dX0_addLight_12 : decode cX0_addLight 12 = .ok (.iload_n 3, 1) := by decide +kernel
theorem dX0_addLight_13 : decode cX0_addLight 13 = .ok (.aload_n 0, 1) := by decide +kernel
theorem dX0_addLight_14 : decode cX0_addLight 14 = .ok (.getfield 18, 3) := by decide +kernel
theorem dX0_addLight_17 : decode cX0_addLight 17 = .ok (.iload 4, 2) := by decide +kernel
theorem dX0_addLight_19 : decode cX0_addLight 19 = .ok (.iaload, 1) := by decide +kernel
theorem dX0_addLight_20 : decode cX0_addLight 20 = .ok (.iadd, 1) := by decide +kernel
theorem dX0_addLight_21 : decode cX0_addLight 21 = .ok (.istore_n 3, 1) := by decide +kernel
theorem dX0_addLight_22 : decode cX0_addLight 22 = .ok (.aload_n 2, 1) := by decide +kernel
theorem dX0_addLight_23 : decode cX0_addLight 23 = .ok (.iload 4, 2) := by decide +kernel
theorem dX0_addLight_25 : decode cX0_addLight 25 = .ok (.dup2, 1) := by decide +kernel
theorem dX0_addLight_26 : decode cX0_addLight 26 = .ok (.iaload, 1) := by decide +kernel
theorem dX0_addLight_27 : decode cX0_addLight 27 = .ok (.bipush 30, 2) := by decide +kernel
theorem dX0_addLight_29 : decode cX0_addLight 29 = .ok (.iload_n 3, 1) := by decide +kernel
theorem dX0_addLight_30 : decode cX0_addLight 30 = .ok (.invokestatic 75, 3) := by decide +kernel
theorem dX0_addLight_33 : decode cX0_addLight 33 = .ok (.iload_n 1, 1) := by decide +kernel
theorem dX0_addLight_34 : decode cX0_addLight 34 = .ok (.imul, 1) := by decide +kernel
theorem dX0_addLight_35 : decode cX0_addLight 35 = .ok (.iadd, 1) := by decide +kernel
theorem dX0_addLight_36 : decode cX0_addLight 36 = .ok (.iastore, 1) := by decide +kernel
theorem dX0_addLight_37 : decode cX0_addLight 37 = .ok (.iinc 4 1, 3) := by decide +kernel
theorem dX0_addLight_40 : decode cX0_addLight 40 = .ok (.goto (-35), 3) := by decide +kernel
theorem dX0_addLight_43 : decode cX0_addLight 43 = .ok (.return_, 1) := by decide +kernel
set_option maxRecDepth 20000 in
theorem ggX0_findRises_J7_fill_53178 : GoodIn wsX0_findRises wsJ7_fill_53178 := goodIn_r _ [8] (by decide +kernel) (by decide +kernel)
set_option maxRecDepth 20000 in
theorem gX0_findRises_J7_fill_53178 : GoodIn wsX0_findRises (va_wsS RX0 55 yJ7_fill_53178 wsJ7_fill_53178) := goodIn_app (goodIn_of _ (by decide +kernel)) ggX0_findRises_J7_fill_53178
set_option maxRecDepth 20000 in
theorem ggX0_findRises_X6_isInLine : GoodIn wsX0_findRises wsX6_isInLine := goodIn_r _ [13, 14, 15, 16, 17, 18, 47, 48, 49, 50, 51, 52, 53, 54, 55, 56] (by decide +kernel) (by decide +kernel)
set_option maxRecDepth 20000 in
theorem gX0_findRises_X6_isInLine : GoodIn wsX0_findRises (wsV RX0 86 RX6 yX6_isInLine wsX6_isInLine) := goodIn_app (goodIn_of _ (by decide +kernel)) ggX0_findRises_X6_isInLine
set_option maxRecDepth 20000 in
theorem ggX0_findRises_X6_leftAt : GoodIn wsX0_findRises wsX6_leftAt := goodIn_r _ [22, 23, 24, 25, 26, 27, 28, 29, 30, 31, 32, 47, 48, 49, 50, 51, 52, 53, 54, 55, 56] (by decide +kernel) (by decide +kernel)
set_option maxRecDepth 20000 in
theorem gX0_findRises_X6_leftAt : GoodIn wsX0_findRises (wsV RX0 90 RX6 yX6_leftAt wsX6_leftAt) := goodIn_app (goodIn_of _ (by decide +kernel)) ggX0_findRises_X6_leftAt
set_option maxRecDepth 20000 in
theorem ggX0_findRises_X0_nearestEdge : GoodIn wsX0_findRises wsX0_nearestEdge := goodIn_r _ [36, 37, 38, 39, 40, 41, 42, 43] (by decide +kernel) (by decide +kernel)
set_option maxRecDepth 20000 in
theorem gX0_findRises_X0_nearestEdge : GoodIn wsX0_findRises (va_wsS RX0 93 yX0_nearestEdge wsX0_nearestEdge) := goodIn_app (goodIn_of _ (by decide +kernel)) ggX0_findRises_X0_nearestEdge
theorem dX0_findRises_0 : decode cX0_findRises 0 = .ok (.aload_n 0, 1) := by decide +kernel
theorem dX0_findRises_1 : decode cX0_findRises 1 = .ok (.getfield 18, 3) := by decide +kernel
theorem dX0_findRises_4 : decode cX0_findRises 4 = .ok (.iconst 0, 1) := by decide +kernel
theorem dX0_findRises_5 : decode cX0_findRises 5 = .ok (.invokestatic 55, 3) := by decide +kernel
theorem dX0_findRises_8 : decode cX0_findRises 8 = .ok (.iconst 0, 1) := by decide +kernel
theorem dX0_findRises_9 : decode cX0_findRises 9 = .ok (.istore 4, 2) := by decide +kernel
theorem dX0_findRises_11 : decode cX0_findRises 11 = .ok (.iload 4, 2) := by decide +kernel
theorem dX0_findRises_13 : decode cX0_findRises 13 = .ok (.aload_n 1, 1) := by decide +kernel
theorem dX0_findRises_14 : decode cX0_findRises 14 = .ok (.getfield 81, 3) := by decide +kernel
theorem dX0_findRises_17 : decode cX0_findRises 17 = .ok (.if_icmp .ge 76, 3) := by decide +kernel
theorem dX0_findRises_20 : decode cX0_findRises 20 = .ok (.aload_n 1, 1) := by decide +kernel
theorem dX0_findRises_21 : decode cX0_findRises 21 = .ok (.iload 4, 2) := by decide +kernel
theorem dX0_findRises_23 : decode cX0_findRises 23 = .ok (.iload_n 2, 1) := by decide +kernel
theorem dX0_findRises_24 : decode cX0_findRises 24 = .ok (.invokevirtual 86, 3) := by decide +kernel
theorem dX0_findRises_27 : decode cX0_findRises 27 = .ok (.ifCond .eq 60, 3) := by decide +kernel
theorem dX0_findRises_30 : decode cX0_findRises 30 = .ok (.aload_n 1, 1) := by decide +kernel
theorem dX0_findRises_31 : decode cX0_findRises 31 = .ok (.iload 4, 2) := by decide +kernel
theorem dX0_findRises_33 : decode cX0_findRises 33 = .ok (.iload_n 3, 1) := by decide +kernel
theorem dX0_findRises_34 : decode cX0_findRises 34 = .ok (.invokevirtual 90, 3) := by decide +kernel
theorem dX0_findRises_37 : decode cX0_findRises 37 = .ok (.istore 5, 2) := by decide +kernel
theorem dX0_findRises_39 : decode cX0_findRises 39 = .ok (.aload_n 0, 1) := by decide +kernel
theorem dX0_findRises_40 : decode cX0_findRises 40 = .ok (.getfield 18, 3) := by decide +kernel
theorem dX0_findRises_43 : decode cX0_findRises 43 = .ok (.iload 5, 2) := by decide +kernel
theorem dX0_findRises_45 : decode cX0_findRises 45 = .ok (.invokestatic 93, 3) := by decide +kernel
theorem dX0_findRises_48 : decode cX0_findRises 48 = .ok (.dup2, 1) := by decide +kernel
theorem dX0_findRises_49 : decode cX0_findRises 49 = .ok (.iaload, 1) := by decide +kernel
theorem dX0_findRises_50 : decode cX0_findRises 50 = .ok (.aload_n 1, 1) := by decide +kernel
theorem dX0_findRises_51 : decode cX0_findRises 51 = .ok (.getfield 96, 3) := by decide +kernel
theorem dX0_findRises_54 : decode cX0_findRises 54 = .ok (.iload 4, 2) := by decide +kernel
theorem dX0_findRises_56 : decode cX0_findRises 56 = .ok (.iaload, 1) := by decide +kernel
theorem dX0_findRises_57 : decode cX0_findRises 57 = .ok (.iadd, 1) := by decide +kernel
theorem dX0_findRises_58 : decode cX0_findRises 58 = .ok (.iastore, 1) := by decide +kernel
theorem dX0_findRises_59 : decode cX0_findRises 59 = .ok (.aload_n 0, 1) := by decide +kernel
theorem dX0_findRises_60 : decode cX0_findRises 60 = .ok (.getfield 18, 3) := by decide +kernel
theorem dX0_findRises_63 : decode cX0_findRises 63 = .ok (.iload 5, 2) := by decide +kernel
theorem dX0_findRises_65 : decode cX0_findRises 65 = .ok (.aload_n 1, 1) := by decide +kernel
theorem dX0_findRises_66 : decode cX0_findRises 66 = .ok (.getfield 99, 3) := by decide +kernel
theorem dX0_findRises_69 : decode cX0_findRises 69 = .ok (.iload 4, 2) := by decide +kernel
theorem dX0_findRises_71 : decode cX0_findRises 71 = .ok (.iaload, 1) := by decide +kernel
theorem dX0_findRises_72 : decode cX0_findRises 72 = .ok (.iadd, 1) := by decide +kernel
theorem dX0_findRises_73 : decode cX0_findRises 73 = .ok (.invokestatic 93, 3) := by decide +kernel
theorem dX0_findRises_76 : decode cX0_findRises 76 = .ok (.dup2, 1) := by decide +kernel
theorem dX0_findRises_77 : decode cX0_findRises 77 = .ok (.iaload, 1) := by decide +kernel
theorem dX0_findRises_78 : decode cX0_findRises 78 = .ok (.aload_n 1, 1) := by decide +kernel
theorem dX0_findRises_79 : decode cX0_findRises 79 = .ok (.getfield 96, 3) := by decide +kernel
theorem dX0_findRises_82 : decode cX0_findRises 82 = .ok (.iload 4, 2) := by decide +kernel
theorem dX0_findRises_84 : decode cX0_findRises 84 = .ok (.iaload, 1) := by decide +kernel
theorem dX0_findRises_85 : decode cX0_findRises 85 = .ok (.isub, 1) := by decide +kernel
theorem dX0_findRises_86 : decode cX0_findRises 86 = .ok (.iastore, 1) := by decide +kernel
theorem dX0_findRises_87 : decode cX0_findRises 87 = .ok (.iinc 4 1, 3) := by decide +kernel
theorem dX0_findRises_90 : decode cX0_findRises 90 = .ok (.goto (-79), 3) := by decide +kernel
theorem dX0_findRises_93 : decode cX0_findRises 93 = .ok (.return_, 1) := by decide +kernel
theorem dX0_nearestEdge_0 : decode cX0_nearestEdge 0 = .ok (.iconst 0, 1) := by decide +kernel
theorem dX0_nearestEdge_1 : decode cX0_nearestEdge 1 = .ok (.bipush 24, 2) := by decide +kernel
theorem dX0_nearestEdge_3 : decode cX0_nearestEdge 3 = .ok (.iload_n 0, 1) := by decide +kernel
theorem dX0_nearestEdge_4 : decode cX0_nearestEdge 4 = .ok (.invokestatic 75, 3) := by decide +kernel
theorem dX0_nearestEdge_7 : decode cX0_nearestEdge 7 = .ok (.invokestatic 102, 3) := by decide +kernel
theorem dX0_nearestEdge_10 : decode cX0_nearestEdge 10 = .ok (.ireturn, 1) := by decide +kernel
theorem dX1_init_0 : decode cX1_init 0 = .ok (.aload_n 0, 1) := by decide +kernel
theorem dX1_init_1 : decode cX1_init 1 = .ok (.invokespecial 3, 3) := by decide +kernel
theorem dX1_init_4 : decode cX1_init 4 = .ok (.aload_n 0, 1) := by decide +kernel
theorem dX1_init_5 : decode cX1_init 5 = .ok (.bipush 6, 2) := by decide +kernel
theorem dX1_init_7 : decode cX1_init 7 = .ok (.anewarray 9, 3) := by decide +kernel
theorem dX1_init_10 : decode cX1_init 10 = .ok (.putfield 11, 3) := by decide +kernel
theorem dX1_init_13 : decode cX1_init 13 = .ok (.aload_n 0, 1) := by decide +kernel
theorem dX1_init_14 : decode cX1_init 14 = .ok (.iconst 0, 1) := by decide +kernel
theorem dX1_init_15 : decode cX1_init 15 = .ok (.putfield 17, 3) := by decide +kernel
theorem dX1_init_18 : decode cX1_init 18 = .ok (.aload_n 0, 1) := by decide +kernel
theorem dX1_init_19 : decode cX1_init 19 = .ok (.iconst 0, 1) := by decide +kernel
theorem dX1_init_20 : decode cX1_init 20 = .ok (.putfield 21, 3) := by decide +kernel
theorem dX1_init_23 : decode cX1_init 23 = .ok (.return_, 1) := by decide +kernel
set_option maxRecDepth 20000 in
theorem ggX1_record_X5_init : GoodIn wsX1_record wsX5_init := goodIn_r _ [12, 13, 14, 15, 16, 17, 18, 19, 20, 21, 22, 23, 24, 25, 26, 27, 28, 29, 30, 31, 32, 33, 34, 35, 36, 37, 38, 39, 40, 41, 42, 43, 44, 45, 46, 47, 48, 49, 50, 51, 74, 75, 76, 77, 78, 79, 80, 81, 82, 83, 84, 85, 86, 87, 88, 89, 90, 91] (by decide +kernel) (by decide +kernel)
set_option maxRecDepth 20000 in
theorem gX1_record_X5_init_n24 : GoodIn wsX1_record (wsX5_init) := ggX1_record_X5_init
set_option maxRecDepth 20000 in
theorem ggX1_record_X5_copyFrom : GoodIn wsX1_record wsX5_copyFrom := goodIn_r _ [55, 22, 56, 57, 58, 59, 26, 30, 31, 32, 33, 34, 60, 61, 62, 25, 63, 64, 39, 65, 40, 41, 42, 43, 44, 45, 46, 47, 66, 67, 68, 29, 69, 51, 70, 74, 75, 76, 77, 78, 79, 80, 81, 82, 83, 84, 85, 86, 87, 88, 89, 90, 91] (by decide +kernel) (by decide +kernel)
set_option maxRecDepth 20000 in
theorem gX1_record_X5_copyFrom : GoodIn wsX1_record (wsV RX1 25 RX5 yX5_copyFrom wsX5_copyFrom) := goodIn_app (goodIn_of _ (by decide +kernel)) ggX1_record_X5_copyFrom
theorem dX1_record_0 : decode cX1_record 0 = .ok (.aload_n 0, 1) := by decide +kernel
theorem dX1_record_1 : decode cX1_record 1 = .ok (.getfield 11, 3) := by decide +kernel
theorem dX1_record_4 : decode cX1_record 4 = .ok (.aload_n 0, 1) := by decide +kernel
theorem dX1_record_5 : decode cX1_record 5 = .ok (.getfield 17, 3) := by decide +kernel
theorem dX1_record_8 : decode cX1_record 8 = .ok (.aaload, 1) := by decide +kernel
theorem dX1_record_9 : decode cX1_record 9 = .ok (.astore_n 2, 1) := by decide +kernel
theorem dX1_record_10 : decode cX1_record 10 = .ok (.aload_n 2, 1) := by decide +kernel
theorem dX1_record_11 : decode cX1_record 11 = .ok (.ifnonnull 21, 3) := by decide +kernel
theorem dX1_record_14 : decode cX1_record 14 = .ok (.new 9, 3) := by decide +kernel
theorem dX1_record_17 : decode cX1_record 17 = .ok (.dup, 1) := by decide +kernel
theorem dX1_record_18 : decode cX1_record 18 = .ok (.invokespecial 24, 3) := by decide +kernel
theorem dX1_record_21 : decode cX1_record 21 = .ok (.astore_n 2, 1) := by decide +kernel
theorem dX1_record_22 : decode cX1_record 22 = .ok (.aload_n 0, 1) := by decide +kernel
theorem dX1_record_23 : decode cX1_record 23 = .ok (.getfield 11, 3) := by decide +kernel
theorem dX1_record_26 : decode cX1_record 26 = .ok (.aload_n 0, 1) := by decide +kernel
theorem dX1_record_27 : decode cX1_record 27 = .ok (.getfield 17, 3) := by decide +kernel
theorem dX1_record_30 : decode cX1_record 30 = .ok (.aload_n 2, 1) := by decide +kernel
theorem dX1_record_31 : decode cX1_record 31 = .ok (.aastore, 1) := by decide +kernel
theorem dX1_record_32 : decode cX1_record 32 = .ok (.aload_n 2, 1) := by decide +kernel
theorem dX1_record_33 : decode cX1_record 33 = .ok (.aload_n 1, 1) := by decide +kernel
theorem dX1_record_34 : decode cX1_record 34 = .ok (.invokevirtual 25, 3) := by decide +kernel
theorem dX1_record_37 : decode cX1_record 37 = .ok (.aload_n 0, 1) := by decide +kernel
theorem dX1_record_38 : decode cX1_record 38 = .ok (.aload_n 0, 1) := by decide +kernel
theorem dX1_record_39 : decode cX1_record 39 = .ok (.getfield 17, 3) := by decide +kernel
theorem dX1_record_42 : decode cX1_record 42 = .ok (.iconst 5, 1) := by decide +kernel
theorem dX1_record_43 : decode cX1_record 43 = .ok (.if_icmp .ne 7, 3) := by decide +kernel
theorem dX1_record_46 : decode cX1_record 46 = .ok (.iconst 0, 1) := by decide +kernel
theorem dX1_record_47 : decode cX1_record 47 = .ok (.goto 9, 3) := by decide +kernel
theorem dX1_record_50 : decode cX1_record 50 = .ok (.aload_n 0, 1) := by decide +kernel
theorem dX1_record_51 : decode cX1_record 51 = .ok (.getfield 17, 3) := by decide +kernel
theorem dX1_record_54 : decode cX1_record 54 = .ok (.iconst 1, 1) := by decide +kernel
theorem dX1_record_55 : decode cX1_record 55 = .ok (.iadd, 1) := by decide +kernel
theorem dX1_record_56 : decode cX1_record 56 = .ok (.putfield 17, 3) := by decide +kernel
theorem dX1_record_59 : decode cX1_record 59 = .ok (.aload_n 0, 1) := by decide +kernel
theorem dX1_record_60 : decode cX1_record 60 = .ok (.bipush 6, 2) := by decide +kernel
theorem dX1_record_62 : decode cX1_record 62 = .ok (.aload_n 0, 1) := by decide +kernel
theorem dX1_record_63 : decode cX1_record 63 = .ok (.getfield 21, 3) := by decide +kernel
theorem dX1_record_66 : decode cX1_record 66 = .ok (.iconst 1, 1) := by decide +kernel
theorem dX1_record_67 : decode cX1_record 67 = .ok (.iadd, 1) := by decide +kernel
theorem dX1_record_68 : decode cX1_record 68 = .ok (.invokestatic 29, 3) := by decide +kernel
theorem dX1_record_71 : decode cX1_record 71 = .ok (.putfield 21, 3) := by decide +kernel
theorem dX1_record_74 : decode cX1_record 74 = .ok (.return_, 1) := by decide +kernel
set_option maxRecDepth 20000 in
theorem ggX1_takeBack_X5_copyFrom : GoodIn wsX1_takeBack wsX5_copyFrom := goodIn_r _ [8, 9, 10, 11, 12, 13, 14, 15, 16, 17, 18, 19, 20, 21, 22, 23, 24, 25, 26, 27, 28, 29, 30, 31, 32, 33, 34, 35, 36, 37, 38, 39, 40, 41, 42, 46, 47, 48, 49, 50, 51, 52, 53, 54, 55, 56, 57, 58, 59, 60, 61, 62, 63] (by decide +kernel) (by decide +kernel)
set_option maxRecDepth 20000 in
theorem gX1_takeBack_X5_copyFrom : GoodIn wsX1_takeBack (wsV RX1 25 RX5 yX5_copyFrom wsX5_copyFrom) := goodIn_app (goodIn_of _ (by decide +kernel)) ggX1_takeBack_X5_copyFrom
theorem dX1_takeBack_0 : decode cX1_takeBack 0 = .ok (.aload_n 0, 1) := by decide +kernel
theorem dX1_takeBack_1 : decode cX1_takeBack 1 = .ok (.getfield 17, 3) := by decide +kernel
theorem dX1_takeBack_4 : decode cX1_takeBack 4 = .ok (.ifCond .ne 7, 3) := by decide +kernel
theorem dX1_takeBack_7 : decode cX1_takeBack 7 = .ok (.iconst 5, 1) := by decide +kernel
theorem dX1_takeBack_8 : decode cX1_takeBack 8 = .ok (.goto 9, 3) := by decide +kernel
theorem dX1_takeBack_11 : decode cX1_takeBack 11 = .ok (.aload_n 0, 1) := by decide +kernel
theorem dX1_takeBack_12 : decode cX1_takeBack 12 = .ok (.getfield 17, 3) := by decide +kernel
theorem dX1_takeBack_15 : decode cX1_takeBack 15 = .ok (.iconst 1, 1) := by decide +kernel
theorem dX1_takeBack_16 : decode cX1_takeBack 16 = .ok (.isub, 1) := by decide +kernel
theorem dX1_takeBack_17 : decode cX1_takeBack 17 = .ok (.istore_n 2, 1) := by decide +kernel
theorem dX1_takeBack_18 : decode cX1_takeBack 18 = .ok (.aload_n 0, 1) := by decide +kernel
theorem dX1_takeBack_19 : decode cX1_takeBack 19 = .ok (.getfield 11, 3) := by decide +kernel
theorem dX1_takeBack_22 : decode cX1_takeBack 22 = .ok (.iload_n 2, 1) := by decide +kernel
theorem dX1_takeBack_23 : decode cX1_takeBack 23 = .ok (.aaload, 1) := by decide +kernel
theorem dX1_takeBack_24 : decode cX1_takeBack 24 = .ok (.astore_n 3, 1) := by decide +kernel
theorem dX1_takeBack_25 : decode cX1_takeBack 25 = .ok (.aload_n 0, 1) := by decide +kernel
theorem dX1_takeBack_26 : decode cX1_takeBack 26 = .ok (.getfield 21, 3) := by decide +kernel
theorem dX1_takeBack_29 : decode cX1_takeBack 29 = .ok (.ifCond .eq 7, 3) := by decide +kernel
theorem dX1_takeBack_32 : decode cX1_takeBack 32 = .ok (.aload_n 3, 1) := by decide +kernel
theorem dX1_takeBack_33 : decode cX1_takeBack 33 = .ok (.ifnonnull 5, 3) := by decide +kernel
theorem dX1_takeBack_36 : decode cX1_takeBack 36 = .ok (.iconst 0, 1) := by decide +kernel
theorem dX1_takeBack_37 : decode cX1_takeBack 37 = .ok (.ireturn, 1) := by decide +kernel
theorem dX1_takeBack_38 : decode cX1_takeBack 38 = .ok (.aload_n 1, 1) := by decide +kernel
theorem dX1_takeBack_39 : decode cX1_takeBack 39 = .ok (.aload_n 3, 1) := by decide +kernel
theorem dX1_takeBack_40 : decode cX1_takeBack 40 = .ok (.invokevirtual 25, 3) := by decide +kernel
theorem dX1_takeBack_43 : decode cX1_takeBack 43 = .ok (.aload_n 0, 1) := by decide +kernel
theorem dX1_takeBack_44 : decode cX1_takeBack 44 = .ok (.iload_n 2, 1) := by decide +kernel
theorem dX1_takeBack_45 : decode cX1_takeBack 45 = .ok (.putfield 17, 3) := by decide +kernel
theorem dX1_takeBack_48 : decode cX1_takeBack 48 = .ok (.aload_n 0, 1) := by decide +kernel
theorem dX1_takeBack_49 : decode cX1_takeBack 49 = .ok (.dup, 1) := by decide +kernel
theorem dX1_takeBack_50 : decode cX1_takeBack 50 = .ok (.getfield 21, 3) := by decide +kernel
theorem dX1_takeBack_53 : decode cX1_takeBack 53 = .ok (.iconst 1, 1) := by decide +kernel
theorem dX1_takeBack_54 : decode cX1_takeBack 54 = .ok (.isub, 1) := by decide +kernel
theorem dX1_takeBack_55 : decode cX1_takeBack 55 = .ok (.putfield 21, 3) := by decide +kernel
theorem dX1_takeBack_58 : decode cX1_takeBack 58 = .ok (.iconst 1, 1) := by decide +kernel
theorem dX1_takeBack_59 : decode cX1_takeBack 59 = .ok (.ireturn, 1) := by decide +kernel
theorem dX2_init_0 : decode cX2_init 0 = .ok (.aload_n 0, 1) := by decide +kernel
theorem dX2_init_1 : decode cX2_init 1 = .ok (.invokespecial 3, 3) := by decide +kernel
theorem dX2_init_4 : decode cX2_init 4 = .ok (.aload_n 0, 1) := by decide +kernel
theorem dX2_init_5 : decode cX2_init 5 = .ok (.bipush 80, 2) := by decide +kernel
theorem dX2_init_7 : decode cX2_init 7 = .ok (.newarray .char, 2) := by decide +kernel
theorem dX2_init_9 : decode cX2_init 9 = .ok (.putfield 9, 3) := by decide +kernel
theorem dX2_init_12 : decode cX2_init 12 = .ok (.aload_n 0, 1) := by decide +kernel
theorem dX2_init_13 : decode cX2_init 13 = .ok (.iconst 0, 1) := by decide +kernel
theorem dX2_init_14 : decode cX2_init 14 = .ok (.putfield 15, 3) := by decide +kernel
theorem dX2_init_17 : decode cX2_init 17 = .ok (.return_, 1) := by decide +kernel
theorem dX3_init_0 : decode cX3_init 0 = .ok (.aload_n 0, 1) := by decide +kernel
theorem dX3_init_1 : decode cX3_init 1 = .ok (.invokespecial 3, 3) := by decide +kernel
theorem dX3_init_4 : decode cX3_init 4 = .ok (.aload_n 0, 1) := by decide +kernel
theorem dX3_init_5 : decode cX3_init 5 = .ok (.sipush 384, 3) := by decide +kernel
theorem dX3_init_8 : decode cX3_init 8 = .ok (.newarray .int, 2) := by decide +kernel
theorem dX3_init_10 : decode cX3_init 10 = .ok (.putfield 9, 3) := by decide +kernel
theorem dX3_init_13 : decode cX3_init 13 = .ok (.return_, 1) := by decide +kernel
theorem dX3_pixelAt_0 : decode cX3_pixelAt 0 = .ok (.aload_n 0, 1) := by decide +kernel
theorem dX3_pixelAt_1 : decode cX3_pixelAt 1 = .ok (.getfield 9, 3) := by decide +kernel
theorem dX3_pixelAt_4 : decode cX3_pixelAt 4 = .ok (.iload_n 1, 1) := by decide +kernel
theorem dX3_pixelAt_5 : decode cX3_pixelAt 5 = .ok (.bipush 24, 2) := by decide +kernel
theorem dX3_pixelAt_7 : decode cX3_pixelAt 7 = .ok (.imul, 1) := by decide +kernel
theorem dX3_pixelAt_8 : decode cX3_pixelAt 8 = .ok (.iload_n 2, 1) := by decide +kernel
theorem dX3_pixelAt_9 : decode cX3_pixelAt 9 = .ok (.iadd, 1) := by decide +kernel
theorem dX3_pixelAt_10 : decode cX3_pixelAt 10 = .ok (.iaload, 1) := by decide +kernel
theorem dX3_pixelAt_11 : decode cX3_pixelAt 11 = .ok (.ireturn, 1) := by decide +kernel
theorem dX3_putLine_0 : decode cX3_putLine 0 = .ok (.aload_n 2, 1) := by decide +kernel
theorem dX3_putLine_1 : decode cX3_putLine 1 = .ok (.iconst 0, 1) := by decide +kernel
theorem dX3_putLine_2 : decode cX3_putLine 2 = .ok (.aload_n 0, 1) := by decide +kernel
theorem dX3_putLine_3 : decode cX3_putLine 3 = .ok (.getfield 9, 3) := by decide +kernel
theorem dX3_putLine_6 : decode cX3_putLine 6 = .ok (.iload_n 1, 1) := by decide +kernel
theorem dX3_putLine_7 : decode cX3_putLine 7 = .ok (.bipush 24, 2) := by decide +kernel
theorem dX3_putLine_9 : decode cX3_putLine 9 = .ok (.imul, 1) := by decide +kernel
theorem dX3_putLine_10 : decode cX3_putLine 10 = .ok (.bipush 24, 2) := by decide +kernel
theorem dX3_putLine_12 : decode cX3_putLine 12 = .ok (.invokestatic 15, 3) := by decide +kernel
theorem dX3_putLine_15 : decode cX3_putLine 15 = .ok (.return_, 1) := by decide +kernel
set_option maxRecDepth 20000 in
theorem ggX3_columnsNotDark_X3_pixelAt : GoodIn wsX3_columnsNotDark wsX3_pixelAt := goodIn_r _ [5, 6, 7] (by decide +kernel) (by decide +kernel)
set_option maxRecDepth 20000 in
theorem gX3_columnsNotDark_X3_pixelAt : GoodIn wsX3_columnsNotDark (wsV RX3 21 RX3 yX3_pixelAt wsX3_pixelAt) := goodIn_app (goodIn_of _ (by decide +kernel)) ggX3_columnsNotDark_X3_pixelAt
theorem dX3_columnsNotDark_0 : decode cX3_columnsNotDark 0 = .ok (.iconst 0, 1) := by decide +kernel
theorem dX3_columnsNotDark_1 : decode cX3_columnsNotDark 1 = .ok (.istore_n 2, 1) := by decide +kernel
theorem dX3_columnsNotDark_2 : decode cX3_columnsNotDark 2 = .ok (.iconst 0, 1) := by decide +kernel
theorem dX3_columnsNotDark_3 : decode cX3_columnsNotDark 3 = .ok (.istore_n 3, 1) := by decide +kernel
theorem dX3_columnsNotDark_4 : decode cX3_columnsNotDark 4 = .ok (.iload_n 3, 1) := by decide +kernel
theorem dX3_columnsNotDark_5 : decode cX3_columnsNotDark 5 = .ok (.bipush 24, 2) := by decide +kernel
theorem dX3_columnsNotDark_7 : decode cX3_columnsNotDark 7 = .ok (.if_icmp .ge 24, 3) := by decide +kernel
theorem dX3_columnsNotDark_10 : decode cX3_columnsNotDark 10 = .ok (.aload_n 0, 1) := by decide +kernel
theorem dX3_columnsNotDark_11 : decode cX3_columnsNotDark 11 = .ok (.iload_n 1, 1) := by decide +kernel
theorem dX3_columnsNotDark_12 : decode cX3_columnsNotDark 12 = .ok (.iload_n 3, 1) := by decide +kernel
theorem dX3_columnsNotDark_13 : decode cX3_columnsNotDark 13 = .ok (.invokevirtual 21, 3) := by decide +kernel
theorem dX3_columnsNotDark_16 : decode cX3_columnsNotDark 16 = .ok (.ifCond .eq 9, 3) := by decide +kernel
theorem dX3_columnsNotDark_19 : decode cX3_columnsNotDark 19 = .ok (.iload_n 2, 1) := by decide +kernel
theorem dX3_columnsNotDark_20 : decode cX3_columnsNotDark 20 = .ok (.iconst 1, 1) := by decide +kernel
theorem dX3_columnsNotDark_21 : decode cX3_columnsNotDark 21 = .ok (.iload_n 3, 1) := by decide +kernel
theorem dX3_columnsNotDark_22 : decode cX3_columnsNotDark 22 = .ok (.ishl, 1) := by decide +kernel
theorem dX3_columnsNotDark_23 : decode cX3_columnsNotDark 23 = .ok (.ior, 1) := by decide +kernel
theorem dX3_columnsNotDark_24 : decode cX3_columnsNotDark 24 = .ok (.istore_n 2, 1) := by decide +kernel
theorem dX3_columnsNotDark_25 : decode cX3_columnsNotDark 25 = .ok (.iinc 3 1, 3) := by decide +kernel
theorem dX3_columnsNotDark_28 : decode cX3_columnsNotDark 28 = .ok (.goto (-24), 3) := by decide +kernel
theorem dX3_columnsNotDark_31 : decode cX3_columnsNotDark 31 = .ok (.iload_n 2, 1) := by decide +kernel
theorem dX3_columnsNotDark_32 : decode cX3_columnsNotDark 32 = .ok (.ireturn, 1) := by decide +kernel
set_option maxRecDepth 20000 in
theorem ggX3_sumOfLine_X3_pixelAt : GoodIn wsX3_sumOfLine wsX3_pixelAt := goodIn_r _ [5, 6, 7] (by decide +kernel) (by decide +kernel)
set_option maxRecDepth 20000 in
theorem gX3_sumOfLine_X3_pixelAt : GoodIn wsX3_sumOfLine (wsV RX3 21 RX3 yX3_pixelAt wsX3_pixelAt) := goodIn_app (goodIn_of _ (by decide +kernel)) ggX3_sumOfLine_X3_pixelAt
theorem dX3_sumOfLine_0 : decode cX3_sumOfLine 0 = .ok (.iconst 0, 1) := by decide +kernel
theorem dX3_sumOfLine_1 : decode cX3_sumOfLine 1 = .ok (.istore_n 2, 1) := by decide +kernel
theorem dX3_sumOfLine_2 : decode cX3_sumOfLine 2 = .ok (.iconst 0, 1) := by decide +kernel
theorem dX3_sumOfLine_3 : decode cX3_sumOfLine 3 = .ok (.istore_n 3, 1) := by decide +kernel
theorem dX3_sumOfLine_4 : decode cX3_sumOfLine 4 = .ok (.iload_n 3, 1) := by decide +kernel
theorem dX3_sumOfLine_5 : decode cX3_sumOfLine 5 = .ok (.bipush 24, 2) := by decide +kernel
theorem dX3_sumOfLine_7 : decode cX3_sumOfLine 7 = .ok (.if_icmp .ge 18, 3) := by decide +kernel
theorem dX3_sumOfLine_10 : decode cX3_sumOfLine 10 = .ok (.iload_n 2, 1) := by decide +kernel
theorem dX3_sumOfLine_11 : decode cX3_sumOfLine 11 = .ok (.aload_n 0, 1) := by decide +kernel
theorem dX3_sumOfLine_12 : decode cX3_sumOfLine 12 = .ok (.iload_n 1, 1) := by decide +kernel
theorem dX3_sumOfLine_13 : decode cX3_sumOfLine 13 = .ok (.iload_n 3, 1) := by decide +kernel
theorem dX3_sumOfLine_14 : decode cX3_sumOfLine 14 = .ok (.invokevirtual 21, 3) := by decide +kernel
theorem dX3_sumOfLine_17 : decode cX3_sumOfLine 17 = .ok (.iadd, 1) := by decide +kernel
theorem dX3_sumOfLine_18 : decode cX3_sumOfLine 18 = .ok (.istore_n 2, 1) := by decide +kernel
theorem dX3_sumOfLine_19 : decode cX3_sumOfLine 19 = .ok (.iinc 3 1, 3) := by decide +kernel
theorem dX3_sumOfLine_22 : decode cX3_sumOfLine 22 = .ok (.goto (-18), 3) := by decide +kernel
theorem dX3_sumOfLine_25 : decode cX3_sumOfLine 25 = .ok (.iload_n 2, 1) := by decide +kernel
theorem dX3_sumOfLine_26 : decode cX3_sumOfLine 26 = .ok (.ireturn, 1) := by decide +kernel
set_option maxRecDepth 20000 in
theorem ggX3_leftmostNotDark_X3_pixelAt : GoodIn wsX3_leftmostNotDark wsX3_pixelAt := goodIn_r _ [5, 6, 7] (by decide +kernel) (by decide +kernel)
set_option maxRecDepth 20000 in
theorem gX3_leftmostNotDark_X3_pixelAt : GoodIn wsX3_leftmostNotDark (wsV RX3 21 RX3 yX3_pixelAt wsX3_pixelAt) := goodIn_app (goodIn_of _ (by decide +kernel)) ggX3_leftmostNotDark_X3_pixelAt
theorem dX3_leftmostNotDark_0 : decode cX3_leftmostNotDark 0 = .ok (.iconst 0, 1) := by decide +kernel
theorem dX3_leftmostNotDark_1 : decode cX3_leftmostNotDark 1 = .ok (.istore_n 2, 1) := by decide +kernel
theorem dX3_leftmostNotDark_2 : decode cX3_leftmostNotDark 2 = .ok (.iload_n 2, 1) := by decide +kernel
theorem dX3_leftmostNotDark_3 : decode cX3_leftmostNotDark 3 = .ok (.bipush 24, 2) := by decide +kernel
theorem dX3_leftmostNotDark_5 : decode cX3_leftmostNotDark 5 = .ok (.if_icmp .ge 20, 3) := by decide +kernel
theorem dX3_leftmostNotDark_8 : decode cX3_leftmostNotDark 8 = .ok (.aload_n 0, 1) := by decide +kernel
theorem dX3_leftmostNotDark_9 : decode cX3_leftmostNotDark 9 = .ok (.iload_n 1, 1) := by decide +kernel
theorem dX3_leftmostNotDark_10 : decode cX3_leftmostNotDark 10 = .ok (.iload_n 2, 1) := by decide +kernel
theorem dX3_leftmostNotDark_11 : decode cX3_leftmostNotDark 11 = .ok (.invokevirtual 21, 3) := by decide +kernel
theorem dX3_leftmostNotDark_14 : decode cX3_leftmostNotDark 14 = .ok (.ifCond .eq 5, 3) := by decide +kernel
theorem dX3_leftmostNotDark_17 : decode cX3_leftmostNotDark 17 = .ok (.iload_n 2, 1) := by decide +kernel
theorem dX3_leftmostNotDark_18 : decode cX3_leftmostNotDark 18 = .ok (.ireturn, 1) := by decide +kernel
theorem dX3_leftmostNotDark_19 : decode cX3_leftmostNotDark 19 = .ok (.iinc 2 1, 3) := by decide +kernel
theorem dX3_leftmostNotDark_22 : decode cX3_leftmostNotDark 22 = .ok (.goto (-20), 3) := by decide +kernel
theorem dX3_leftmostNotDark_25 : decode cX3_leftmostNotDark 25 = .ok (.bipush (-6), 2) := by decide +kernel
theorem dX3_leftmostNotDark_27 : decode cX3_leftmostNotDark 27 = .ok (.ireturn, 1) := by decide +kernel
set_option maxRecDepth 20000 in
theorem ggX3_sumOfAll_X3_sumOfLine : GoodIn wsX3_sumOfAll wsX3_sumOfLine := goodIn_r _ [5, 6, 7, 8, 4, 9, 10, 11] (by decide +kernel) (by decide +kernel)
set_option maxRecDepth 20000 in
theorem gX3_sumOfAll_X3_sumOfLine : GoodIn wsX3_sumOfAll (wsV RX3 25 RX3 yX3_sumOfLine wsX3_sumOfLine) := goodIn_app (goodIn_of _ (by decide +kernel)) ggX3_sumOfAll_X3_sumOfLine
theorem dX3_sumOfAll_0 : decode cX3_sumOfAll 0 = .ok (.iconst 0, 1) := by decide +kernel
theorem dX3_sumOfAll_1 : decode cX3_sumOfAll 1 = .ok (.istore_n 1, 1) := by decide +kernel
theorem dX3_sumOfAll_2 : decode cX3_sumOfAll 2 = .ok (.iconst 0, 1) := by decide +kernel
theorem dX3_sumOfAll_3 : decode cX3_sumOfAll 3 = .ok (.istore_n 2, 1) := by decide +kernel
theorem dX3_sumOfAll_4 : decode cX3_sumOfAll 4 = .ok (.iload_n 2, 1) := by decide +kernel
theorem dX3_sumOfAll_5 : decode cX3_sumOfAll 5 = .ok (.bipush 16, 2) := by decide +kernel
theorem dX3_sumOfAll_7 : decode cX3_sumOfAll 7 = .ok (.if_icmp .ge 17, 3) := by decide +kernel
theorem dX3_sumOfAll_10 : decode cX3_sumOfAll 10 = .ok (.iload_n 1, 1) := by decide +kernel
theorem dX3_sumOfAll_11 : decode cX3_sumOfAll 11 = .ok (.aload_n 0, 1) := by decide +kernel
theorem dX3_sumOfAll_12 : decode cX3_sumOfAll 12 = .ok (.iload_n 2, 1) := by decide +kernel
theorem dX3_sumOfAll_13 : decode cX3_sumOfAll 13 = .ok (.invokevirtual 25, 3) := by decide +kernel
theorem dX3_sumOfAll_16 : decode cX3_sumOfAll 16 = .ok (.iadd, 1) := by decide +kernel
theorem dX3_sumOfAll_17 : decode cX3_sumOfAll 17 = .ok (.istore_n 1, 1) := by decide +kernel
theorem dX3_sumOfAll_18 : decode cX3_sumOfAll 18 = .ok (.iinc 2 1, 3) := by decide +kernel
theorem dX3_sumOfAll_21 : decode cX3_sumOfAll 21 = .ok (.goto (-17), 3) := by decide +kernel
theorem dX3_sumOfAll_24 : decode cX3_sumOfAll 24 = .ok (.iload_n 1, 1) := by decide +kernel
theorem dX3_sumOfAll_25 : decode cX3_sumOfAll 25 = .ok (.ireturn, 1) := by decide +kernel
set_option maxRecDepth 20000 in
theorem ggX3_darkLines_X3_columnsNotDark : GoodIn wsX3_darkLines wsX3_columnsNotDark := goodIn_r _ [5, 6, 7, 8, 4, 9, 10, 11] (by decide +kernel) (by decide +kernel)
set_option maxRecDepth 20000 in
theorem gX3_darkLines_X3_columnsNotDark : GoodIn wsX3_darkLines (wsV RX3 29 RX3 yX3_columnsNotDark wsX3_columnsNotDark) := goodIn_app (goodIn_of _ (by decide +kernel)) ggX3_darkLines_X3_columnsNotDark
theorem dX3_darkLines_0 : decode cX3_darkLines 0 = .ok (.iconst 0, 1) := by decide +kernel
theorem dX3_darkLines_1 : decode cX3_darkLines 1 = .ok (.istore_n 1, 1) := by decide +kernel
theorem dX3_darkLines_2 : decode cX3_darkLines 2 = .ok (.iconst 0, 1) := by decide +kernel
theorem dX3_darkLines_3 : decode cX3_darkLines 3 = .ok (.istore_n 2, 1) := by decide +kernel
theorem dX3_darkLines_4 : decode cX3_darkLines 4 = .ok (.iload_n 2, 1) := by decide +kernel
theorem dX3_darkLines_5 : decode cX3_darkLines 5 = .ok (.bipush 16, 2) := by decide +kernel
theorem dX3_darkLines_7 : decode cX3_darkLines 7 = .ok (.if_icmp .ge 23, 3) := by decide +kernel
theorem dX3_darkLines_10 : decode cX3_darkLines 10 = .ok (.aload_n 0, 1) := by decide +kernel
theorem dX3_darkLines_11 : decode cX3_darkLines 11 = .ok (.iload_n 2, 1) := by decide +kernel
theorem dX3_darkLines_12 : decode cX3_darkLines 12 = .ok (.invokevirtual 29, 3) := by decide +kernel
theorem dX3_darkLines_15 : decode cX3_darkLines 15 = .ok (.ifCond .ne 9, 3) := by decide +kernel
theorem dX3_darkLines_18 : decode cX3_darkLines 18 = .ok (.iload_n 1, 1) := by decide +kernel
theorem dX3_darkLines_19 : decode cX3_darkLines 19 = .ok (.iconst 1, 1) := by decide +kernel
theorem dX3_darkLines_20 : decode cX3_darkLines 20 = .ok (.iload_n 2, 1) := by decide +kernel
theorem dX3_darkLines_21 : decode cX3_darkLines 21 = .ok (.ishl, 1) := by decide +kernel
theorem dX3_darkLines_22 : decode cX3_darkLines 22 = .ok (.ior, 1) := by decide +kernel
theorem dX3_darkLines_23 : decode cX3_darkLines 23 = .ok (.istore_n 1, 1) := by decide +kernel
theorem dX3_darkLines_24 : decode cX3_darkLines 24 = .ok (.iinc 2 1, 3) := by decide +kernel
theorem dX3_darkLines_27 : decode cX3_darkLines 27 = .ok (.goto (-23), 3) := by decide +kernel
theorem dX3_darkLines_30 : decode cX3_darkLines 30 = .ok (.iload_n 1, 1) := by decide +kernel
theorem dX3_darkLines_31 : decode cX3_darkLines 31 = .ok (.ireturn, 1) := by decide +kernel
set_option maxRecDepth 20000 in
theorem ggX3_brightest_X3_pixelAt : GoodIn wsX3_brightest wsX3_pixelAt := goodIn_r _ [9, 10, 11] (by decide +kernel) (by decide +kernel)
set_option maxRecDepth 20000 in
theorem gX3_brightest_X3_pixelAt : GoodIn wsX3_brightest (wsV RX3 21 RX3 yX3_pixelAt wsX3_pixelAt) := goodIn_app (goodIn_of _ (by decide +kernel)) ggX3_brightest_X3_pixelAt
theorem dX3_brightest_0 : decode cX3_brightest 0 = .ok (.iconst 0, 1) := by decide +kernel
theorem dX3_brightest_1 : decode cX3_brightest 1 = .ok (.istore_n 1, 1) := by decide +kernel
theorem dX3_brightest_2 : decode cX3_brightest 2 = .ok (.iconst 0, 1) := by decide +kernel
theorem dX3_brightest_3 : decode cX3_brightest 3 = .ok (.istore_n 2, 1) := by decide +kernel
theorem dX3_brightest_4 : decode cX3_brightest 4 = .ok (.iload_n 2, 1) := by decide +kernel
theorem dX3_brightest_5 : decode cX3_brightest 5 = .ok (.bipush 16, 2) := by decide +kernel
theorem dX3_brightest_7 : decode cX3_brightest 7 = .ok (.if_icmp .ge 34, 3) := by decide +kernel
theorem dX3_brightest_10 : decode cX3_brightest 10 = .ok (.iconst 0, 1) := by decide +kernel
theorem dX3_brightest_11 : decode cX3_brightest 11 = .ok (.istore_n 3, 1) := by decide +kernel
theorem dX3_brightest_12 : decode cX3_brightest 12 = .ok (.iload_n 3, 1) := by decide +kernel
theorem dX3_brightest_13 : decode cX3_brightest 13 = .ok (.bipush 24, 2) := by decide +kernel
theorem dX3_brightest_15 : decode cX3_brightest 15 = .ok (.if_icmp .ge 20, 3) := by decide +kernel
theorem dX3_brightest_18 : decode cX3_brightest 18 = .ok (.iload_n 1, 1) := by decide +kernel
theorem dX3_brightest_19 : decode cX3_brightest 19 = .ok (.aload_n 0, 1) := by decide +kernel
theorem dX3_brightest_20 : decode cX3_brightest 20 = .ok (.iload_n 2, 1) := by decide +kernel
theorem dX3_brightest_21 : decode cX3_brightest 21 = .ok (.iload_n 3, 1) := by decide +kernel
theorem dX3_brightest_22 : decode cX3_brightest 22 = .ok (.invokevirtual 21, 3) := by decide +kernel
theorem dX3_brightest_25 : decode cX3_brightest 25 = .ok (.invokestatic 32, 3) := by decide +kernel
theorem dX3_brightest_28 : decode cX3_brightest 28 = .ok (.istore_n 1, 1) := by decide +kernel
theorem dX3_brightest_29 : decode cX3_brightest 29 = .ok (.iinc 3 1, 3) := by decide +kernel
theorem dX3_brightest_32 : decode cX3_brightest 32 = .ok (.goto (-20), 3) := by decide +kernel
theorem dX3_brightest_35 : decode cX3_brightest 35 = .ok (.iinc 2 1, 3) := by decide +kernel
theorem dX3_brightest_38 : decode cX3_brightest 38 = .ok (.goto (-34), 3) := by decide +kernel
theorem dX3_brightest_41 : decode cX3_brightest 41 = .ok (.iload_n 1, 1) := by decide +kernel
theorem dX3_brightest_42 : decode cX3_brightest 42 = .ok (.ireturn, 1) := by decide +kernel
set_option maxRecDepth 20000 in
theorem ggX3_bands_X3_columnsNotDark : GoodIn wsX3_bands wsX3_columnsNotDark := goodIn_r _ [5, 6, 7, 8, 4, 9, 10, 11] (by decide +kernel) (by decide +kernel)
set_option maxRecDepth 20000 in
theorem gX3_bands_X3_columnsNotDark : GoodIn wsX3_bands (wsV RX3 29 RX3 yX3_columnsNotDark wsX3_columnsNotDark) := goodIn_app (goodIn_of _ (by decide +kernel)) ggX3_bands_X3_columnsNotDark
theorem dX3_bands_0 : decode cX3_bands 0 = .ok (.iconst 0, 1) := by decide +kernel
theorem dX3_bands_1 : decode cX3_bands 1 = .ok (.istore_n 1, 1) := by decide +kernel
theorem dX3_bands_2 : decode cX3_bands 2 = .ok (.iconst 1, 1) := by decide +kernel
theorem dX3_bands_3 : decode cX3_bands 3 = .ok (.istore_n 2, 1) := by decide +kernel
theorem dX3_bands_4 : decode cX3_bands 4 = .ok (.iload_n 2, 1) := by decide +kernel
theorem dX3_bands_5 : decode cX3_bands 5 = .ok (.bipush 16, 2) := by decide +kernel
theorem dX3_bands_7 : decode cX3_bands 7 = .ok (.if_icmp .ge 43, 3) := by decide +kernel
theorem dX3_bands_10 : decode cX3_bands 10 = .ok (.aload_n 0, 1) := by decide +kernel
theorem dX3_bands_11 : decode cX3_bands 11 = .ok (.iload_n 2, 1) := by decide +kernel
theorem dX3_bands_12 : decode cX3_bands 12 = .ok (.invokevirtual 29, 3) := by decide +kernel
theorem dX3_bands_15 : decode cX3_bands 15 = .ok (.ifCond .ne 7, 3) := by decide +kernel
theorem dX3_bands_18 : decode cX3_bands 18 = .ok (.iconst 1, 1) := by decide +kernel
theorem dX3_bands_19 : decode cX3_bands 19 = .ok (.goto 4, 3) := by decide +kernel
theorem dX3_bands_22 : decode cX3_bands 22 = .ok (.iconst 0, 1) := by decide +kernel
theorem dX3_bands_23 : decode cX3_bands 23 = .ok (.aload_n 0, 1) := by decide +kernel
theorem dX3_bands_24 : decode cX3_bands 24 = .ok (.iload_n 2, 1) := by decide +kernel
theorem dX3_bands_25 : decode cX3_bands 25 = .ok (.iconst 1, 1) := by decide +kernel
theorem dX3_bands_26 : decode cX3_bands 26 = .ok (.isub, 1) := by decide +kernel
theorem dX3_bands_27 : decode cX3_bands 27 = .ok (.invokevirtual 29, 3) := by decide +kernel
theorem dX3_bands_30 : decode cX3_bands 30 = .ok (.ifCond .ne 7, 3) := by decide +kernel
theorem dX3_bands_33 : decode cX3_bands 33 = .ok (.iconst 1, 1) := by decide +kernel
theorem dX3_bands_34 : decode cX3_bands 34 = .ok (.goto 4, 3) := by decide +kernel
theorem dX3_bands_37 : decode cX3_bands 37 = .ok (.iconst 0, 1) := by decide +kernel
theorem dX3_bands_38 : decode cX3_bands 38 = .ok (.if_icmp .eq 6, 3) := by decide +kernel
theorem dX3_bands_41 : decode cX3_bands 41 = .ok (.iinc 1 1, 3) := by decide +kernel
theorem dX3_bands_44 : decode cX3_bands 44 = .ok (.iinc 2 1, 3) := by decide +kernel
theorem dX3_bands_47 : decode cX3_bands 47 = .ok (.goto (-43), 3) := by decide +kernel
theorem dX3_bands_50 : decode cX3_bands 50 = .ok (.iload_n 1, 1) := by decide +kernel
theorem dX3_bands_51 : decode cX3_bands 51 = .ok (.ireturn, 1) := by decide +kernel
theorem dX3_copyFrom_0 : decode cX3_copyFrom 0 = .ok (.aload_n 1, 1) := by decide +kernel
theorem dX3_copyFrom_1 : decode cX3_copyFrom 1 = .ok (.getfield 9, 3) := by decide +kernel
theorem dX3_copyFrom_4 : decode cX3_copyFrom 4 = .ok (.iconst 0, 1) := by decide +kernel
theorem dX3_copyFrom_5 : decode cX3_copyFrom 5 = .ok (.aload_n 0, 1) := by decide +kernel
theorem dX3_copyFrom_6 : decode cX3_copyFrom 6 = .ok (.getfield 9, 3) := by decide +kernel
theorem dX3_copyFrom_9 : decode cX3_copyFrom 9 = .ok (.iconst 0, 1) := by decide +kernel
theorem dX3_copyFrom_10 : decode cX3_copyFrom 10 = .ok (.sipush 384, 3) := by decide +kernel
theorem dX3_copyFrom_13 : decode cX3_copyFrom 13 = .ok (.invokestatic 15, 3) := by decide +kernel
theorem dX3_copyFrom_16 : decode cX3_copyFrom 16 = .ok (.return_, 1) := by decide +kernel
theorem dX4_init_0 : decode cX4_init 0 = .ok (.aload_n 0, 1) := by decide +kernel
theorem dX4_init_1 : decode cX4_init 1 = .ok (.invokespecial 3, 3) := by decide +kernel
theorem dX4_init_4 : decode cX4_init 4 = .ok (.aload_n 0, 1) := by decide +kernel
theorem dX4_init_5 : decode cX4_init 5 = .ok (.iconst 0, 1) := by decide +kernel
theorem dX4_init_6 : decode cX4_init 6 = .ok (.putfield 9, 3) := by decide +kernel
theorem dX4_init_9 : decode cX4_init 9 = .ok (.aload_n 0, 1) := by decide +kernel
theorem dX4_init_10 : decode cX4_init 10 = .ok (.bipush 32, 2) := by decide +kernel
theorem dX4_init_12 : decode cX4_init 12 = .ok (.putfield 15, 3) := by decide +kernel
theorem dX4_init_15 : decode cX4_init 15 = .ok (.aload_n 0, 1) := by decide +kernel
theorem dX4_init_16 : decode cX4_init 16 = .ok (.bipush 7, 2) := by decide +kernel
theorem dX4_init_18 : decode cX4_init 18 = .ok (.newarray .int, 2) := by decide +kernel
theorem dX4_init_20 : decode cX4_init 20 = .ok (.putfield 19, 3) := by decide +kernel
theorem dX4_init_23 : decode cX4_init 23 = .ok (.aload_n 0, 1) := by decide +kernel
theorem dX4_init_24 : decode cX4_init 24 = .ok (.aload_n 1, 1) := by decide +kernel
theorem dX4_init_25 : decode cX4_init 25 = .ok (.putfield 23, 3) := by decide +kernel
theorem dX4_init_28 : decode cX4_init 28 = .ok (.return_, 1) := by decide +kernel
set_option maxRecDepth 20000 in
theorem ggX5_init_X6_init : GoodIn wsX5_init wsX6_init := goodIn_r _ [24, 25, 2, 3, 26, 27, 28, 29, 30, 31, 32, 33, 34, 35, 47, 48, 49, 50, 51, 52, 53, 54, 55, 56] (by decide +kernel) (by decide +kernel)
set_option maxRecDepth 20000 in
theorem gX5_init_X6_init_n25 : GoodIn wsX5_init (wsX6_init) := ggX5_init_X6_init
set_option maxRecDepth 20000 in
theorem ggX5_init_X3_init : GoodIn wsX5_init wsX3_init := goodIn_r _ [37, 38, 2, 3, 26, 39, 57] (by decide +kernel) (by decide +kernel)
set_option maxRecDepth 20000 in
theorem gX5_init_X3_init_n32 : GoodIn wsX5_init (wsX3_init) := ggX5_init_X3_init
theorem dX5_init_0 : decode cX5_init 0 = .ok (.aload_n 0, 1) := by decide +kernel
theorem dX5_init_1 : decode cX5_init 1 = .ok (.invokespecial 3, 3) := by decide +kernel
theorem dX5_init_4 : decode cX5_init 4 = .ok (.aload_n 0, 1) := by decide +kernel
theorem dX5_init_5 : decode cX5_init 5 = .ok (.getstatic 9, 3) := by decide +kernel
theorem dX5_init_8 : decode cX5_init 8 = .ok (.invokevirtual 13, 3) := by decide +kernel
theorem dX5_init_11 : decode cX5_init 11 = .ok (.checkcast 14, 3) := by decide +kernel
theorem dX5_init_14 : decode cX5_init 14 = .ok (.putfield 18, 3) := by decide +kernel
theorem dX5_init_17 : decode cX5_init 17 = .ok (.aload_n 0, 1) := by decide +kernel
theorem dX5_init_18 : decode cX5_init 18 = .ok (.new 23, 3) := by decide +kernel
theorem dX5_init_21 : decode cX5_init 21 = .ok (.dup, 1) := by decide +kernel
theorem dX5_init_22 : decode cX5_init 22 = .ok (.invokespecial 25, 3) := by decide +kernel
theorem dX5_init_25 : decode cX5_init 25 = .ok (.putfield 26, 3) := by decide +kernel
theorem dX5_init_28 : decode cX5_init 28 = .ok (.aload_n 0, 1) := by decide +kernel
theorem dX5_init_29 : decode cX5_init 29 = .ok (.new 30, 3) := by decide +kernel
theorem dX5_init_32 : decode cX5_init 32 = .ok (.dup, 1) := by decide +kernel
theorem dX5_init_33 : decode cX5_init 33 = .ok (.invokespecial 32, 3) := by decide +kernel
theorem dX5_init_36 : decode cX5_init 36 = .ok (.putfield 33, 3) := by decide +kernel
theorem dX5_init_39 : decode cX5_init 39 = .ok (.aload_n 0, 1) := by decide +kernel
theorem dX5_init_40 : decode cX5_init 40 = .ok (.iconst 0, 1) := by decide +kernel
theorem dX5_init_41 : decode cX5_init 41 = .ok (.putfield 37, 3) := by decide +kernel
theorem dX5_init_44 : decode cX5_init 44 = .ok (.aload_n 0, 1) := by decide +kernel
theorem dX5_init_45 : decode cX5_init 45 = .ok (.iconst 0, 1) := by decide +kernel
theorem dX5_init_46 : decode cX5_init 46 = .ok (.putfield 41, 3) := by decide +kernel
theorem dX5_init_49 : decode cX5_init 49 = .ok (.aload_n 0, 1) := by decide +kernel
theorem dX5_init_50 : decode cX5_init 50 = .ok (.bipush (-6), 2) := by decide +kernel
theorem dX5_init_52 : decode cX5_init 52 = .ok (.putfield 44, 3) := by decide +kernel
theorem dX5_init_55 : decode cX5_init 55 = .ok (.aload_n 0, 1) := by decide +kernel
theorem dX5_init_56 : decode cX5_init 56 = .ok (.iconst 0, 1) := by decide +kernel
theorem dX5_init_57 : decode cX5_init 57 = .ok (.putfield 47, 3) := by decide +kernel
theorem dX5_init_60 : decode cX5_init 60 = .ok (.return_, 1) := by decide +kernel
theorem dX5_beginOf_0 : decode cX5_beginOf 0 = .ok (.aload_n 0, 1) := by decide +kernel
theorem dX5_beginOf_1 : decode cX5_beginOf 1 = .ok (.getfield 37, 3) := by decide +kernel
theorem dX5_beginOf_4 : decode cX5_beginOf 4 = .ok (.iload_n 1, 1) := by decide +kernel
theorem dX5_beginOf_5 : decode cX5_beginOf 5 = .ok (.aload_n 0, 1) := by decide +kernel
theorem dX5_beginOf_6 : decode cX5_beginOf 6 = .ok (.getfield 18, 3) := by decide +kernel
theorem dX5_beginOf_9 : decode cX5_beginOf 9 = .ok (.iconst 0, 1) := by decide +kernel
theorem dX5_beginOf_10 : decode cX5_beginOf 10 = .ok (.iaload, 1) := by decide +kernel
theorem dX5_beginOf_11 : decode cX5_beginOf 11 = .ok (.imul, 1) := by decide +kernel
theorem dX5_beginOf_12 : decode cX5_beginOf 12 = .ok (.iadd, 1) := by decide +kernel
theorem dX5_beginOf_13 : decode cX5_beginOf 13 = .ok (.ireturn, 1) := by decide +kernel
set_option maxRecDepth 20000 in
theorem ggX5_endOfPicture_X5_beginOf : GoodIn wsX5_endOfPicture wsX5_beginOf := goodIn_r _ [6, 7, 1, 8, 9, 10, 11, 12, 13, 14] (by decide +kernel) (by decide +kernel)
set_option maxRecDepth 20000 in
theorem gX5_endOfPicture_X5_beginOf : GoodIn wsX5_endOfPicture (wsV RX5 50 RX5 yX5_beginOf wsX5_beginOf) := goodIn_app (goodIn_of _ (by decide +kernel)) ggX5_endOfPicture_X5_beginOf
theorem dX5_endOfPicture_0 : decode cX5_endOfPicture 0 = .ok (.aload_n 0, 1) := by decide +kernel
theorem dX5_endOfPicture_1 : decode cX5_endOfPicture 1 = .ok (.bipush 15, 2) := by decide +kernel
theorem dX5_endOfPicture_3 : decode cX5_endOfPicture 3 = .ok (.invokevirtual 50, 3) := by decide +kernel
theorem dX5_endOfPicture_6 : decode cX5_endOfPicture 6 = .ok (.aload_n 0, 1) := by decide +kernel
theorem dX5_endOfPicture_7 : decode cX5_endOfPicture 7 = .ok (.getfield 18, 3) := by decide +kernel
theorem dX5_endOfPicture_10 : decode cX5_endOfPicture 10 = .ok (.iconst 1, 1) := by decide +kernel
theorem dX5_endOfPicture_11 : decode cX5_endOfPicture 11 = .ok (.iaload, 1) := by decide +kernel
theorem dX5_endOfPicture_12 : decode cX5_endOfPicture 12 = .ok (.iadd, 1) := by decide +kernel
theorem dX5_endOfPicture_13 : decode cX5_endOfPicture 13 = .ok (.ireturn, 1) := by decide +kernel
theorem dX5_setFlash_0 : decode cX5_setFlash 0 = .ok (.aload_n 0, 1) := by decide +kernel
theorem dX5_setFlash_1 : decode cX5_setFlash 1 = .ok (.aload_n 0, 1) := by decide +kernel
theorem dX5_setFlash_2 : decode cX5_setFlash 2 = .ok (.getfield 37, 3) := by decide +kernel
theorem dX5_setFlash_5 : decode cX5_setFlash 5 = .ok (.iload_n 1, 1) := by decide +kernel
theorem dX5_setFlash_6 : decode cX5_setFlash 6 = .ok (.iadd, 1) := by decide +kernel
theorem dX5_setFlash_7 : decode cX5_setFlash 7 = .ok (.putfield 44, 3) := by decide +kernel
theorem dX5_setFlash_10 : decode cX5_setFlash 10 = .ok (.aload_n 0, 1) := by decide +kernel
theorem dX5_setFlash_11 : decode cX5_setFlash 11 = .ok (.iload_n 2, 1) := by decide +kernel
theorem dX5_setFlash_12 : decode cX5_setFlash 12 = .ok (.putfield 47, 3) := by decide +kernel
theorem dX5_setFlash_15 : decode cX5_setFlash 15 = .ok (.return_, 1) := by decide +kernel
set_option maxRecDepth 20000 in
theorem ggX5_lightAt_X7_within : GoodIn wsX5_lightAt wsX7_within := goodIn_r _ [6] (by decide +kernel) (by decide +kernel)
set_option maxRecDepth 20000 in
theorem gX5_lightAt_X7_within_n54 : GoodIn wsX5_lightAt (wsX7_within) := ggX5_lightAt_X7_within
theorem dX5_lightAt_0 : decode cX5_lightAt 0 = .ok (.iload_n 1, 1) := by decide +kernel
theorem dX5_lightAt_1 : decode cX5_lightAt 1 = .ok (.aload_n 0, 1) := by decide +kernel
theorem dX5_lightAt_2 : decode cX5_lightAt 2 = .ok (.getfield 44, 3) := by decide +kernel
theorem dX5_lightAt_5 : decode cX5_lightAt 5 = .ok (.aload_n 0, 1) := by decide +kernel
theorem dX5_lightAt_6 : decode cX5_lightAt 6 = .ok (.getfield 44, 3) := by decide +kernel
theorem dX5_lightAt_9 : decode cX5_lightAt 9 = .ok (.aload_n 0, 1) := by decide +kernel
theorem dX5_lightAt_10 : decode cX5_lightAt 10 = .ok (.getfield 47, 3) := by decide +kernel
theorem dX5_lightAt_13 : decode cX5_lightAt 13 = .ok (.iadd, 1) := by decide +kernel
theorem dX5_lightAt_14 : decode cX5_lightAt 14 = .ok (.iconst 1, 1) := by decide +kernel
theorem dX5_lightAt_15 : decode cX5_lightAt 15 = .ok (.isub, 1) := by decide +kernel
theorem dX5_lightAt_16 : decode cX5_lightAt 16 = .ok (.invokestatic 54, 3) := by decide +kernel
theorem dX5_lightAt_19 : decode cX5_lightAt 19 = .ok (.ifCond .eq 5, 3) := by decide +kernel
theorem dX5_lightAt_22 : decode cX5_lightAt 22 = .ok (.iconst 3, 1) := by decide +kernel
theorem dX5_lightAt_23 : decode cX5_lightAt 23 = .ok (.ireturn, 1) := by decide +kernel
theorem dX5_lightAt_24 : decode cX5_lightAt 24 = .ok (.aload_n 0, 1) := by decide +kernel
theorem dX5_lightAt_25 : decode cX5_lightAt 25 = .ok (.getfield 18, 3) := by decide +kernel
theorem dX5_lightAt_28 : decode cX5_lightAt 28 = .ok (.iconst 2, 1) := by decide +kernel
theorem dX5_lightAt_29 : decode cX5_lightAt 29 = .ok (.iaload, 1) := by decide +kernel
theorem dX5_lightAt_30 : decode cX5_lightAt 30 = .ok (.istore_n 2, 1) := by decide +kernel
theorem dX5_lightAt_31 : decode cX5_lightAt 31 = .ok (.iload_n 2, 1) := by decide +kernel
theorem dX5_lightAt_32 : decode cX5_lightAt 32 = .ok (.ifCond .le 14, 3) := by decide +kernel
theorem dX5_lightAt_35 : decode cX5_lightAt 35 = .ok (.iload_n 1, 1) := by decide +kernel
theorem dX5_lightAt_36 : decode cX5_lightAt 36 = .ok (.iload_n 2, 1) := by decide +kernel
theorem dX5_lightAt_37 : decode cX5_lightAt 37 = .ok (.irem, 1) := by decide +kernel
theorem dX5_lightAt_38 : decode cX5_lightAt 38 = .ok (.iload_n 2, 1) := by decide +kernel
theorem dX5_lightAt_39 : decode cX5_lightAt 39 = .ok (.iconst 2, 1) := by decide +kernel
theorem dX5_lightAt_40 : decode cX5_lightAt 40 = .ok (.idiv, 1) := by decide +kernel
theorem dX5_lightAt_41 : decode cX5_lightAt 41 = .ok (.if_icmp .lt 5, 3) := by decide +kernel
theorem dX5_lightAt_44 : decode cX5_lightAt 44 = .ok (.iconst 0, 1) := by decide +kernel
theorem dX5_lightAt_45 : decode cX5_lightAt 45 = .ok (.ireturn, 1) := by decide +kernel
theorem dX5_lightAt_46 : decode cX5_lightAt 46 = .ok (.iconst 1, 1) := by decide +kernel
theorem dX5_lightAt_47 : decode cX5_lightAt 47 = .ok (.ireturn, 1) := by decide +kernel
set_option maxRecDepth 20000 in
theorem ggX5_linesFlashed_X5_beginOf : GoodIn wsX5_linesFlashed wsX5_beginOf := goodIn_r _ [6, 7, 1, 8, 9, 10, 11, 12, 13, 14] (by decide +kernel) (by decide +kernel)
set_option maxRecDepth 20000 in
theorem gX5_linesFlashed_X5_beginOf : GoodIn wsX5_linesFlashed (wsV RX5 50 RX5 yX5_beginOf wsX5_beginOf) := goodIn_app (goodIn_of _ (by decide +kernel)) ggX5_linesFlashed_X5_beginOf
theorem dX5_linesFlashed_0 : decode cX5_linesFlashed 0 = .ok (.iconst 0, 1) := by decide +kernel
theorem dX5_linesFlashed_1 : decode cX5_linesFlashed 1 = .ok (.istore_n 3, 1) := by decide +kernel
theorem dX5_linesFlashed_2 : decode cX5_linesFlashed 2 = .ok (.iconst 0, 1) := by decide +kernel
theorem dX5_linesFlashed_3 : decode cX5_linesFlashed 3 = .ok (.istore 4, 2) := by decide +kernel
theorem dX5_linesFlashed_5 : decode cX5_linesFlashed 5 = .ok (.iload 4, 2) := by decide +kernel
theorem dX5_linesFlashed_7 : decode cX5_linesFlashed 7 = .ok (.bipush 16, 2) := by decide +kernel
theorem dX5_linesFlashed_9 : decode cX5_linesFlashed 9 = .ok (.if_icmp .ge 45, 3) := by decide +kernel
theorem dX5_linesFlashed_12 : decode cX5_linesFlashed 12 = .ok (.aload_n 0, 1) := by decide +kernel
theorem dX5_linesFlashed_13 : decode cX5_linesFlashed 13 = .ok (.iload 4, 2) := by decide +kernel
theorem dX5_linesFlashed_15 : decode cX5_linesFlashed 15 = .ok (.invokevirtual 50, 3) := by decide +kernel
theorem dX5_linesFlashed_18 : decode cX5_linesFlashed 18 = .ok (.istore 5, 2) := by decide +kernel
theorem dX5_linesFlashed_20 : decode cX5_linesFlashed 20 = .ok (.iload 5, 2) := by decide +kernel
theorem dX5_linesFlashed_22 : decode cX5_linesFlashed 22 = .ok (.iload_n 1, 1) := by decide +kernel
theorem dX5_linesFlashed_23 : decode cX5_linesFlashed 23 = .ok (.iload_n 2, 1) := by decide +kernel
theorem dX5_linesFlashed_24 : decode cX5_linesFlashed 24 = .ok (.iadd, 1) := by decide +kernel
theorem dX5_linesFlashed_25 : decode cX5_linesFlashed 25 = .ok (.if_icmp .ge 23, 3) := by decide +kernel
theorem dX5_linesFlashed_28 : decode cX5_linesFlashed 28 = .ok (.iload_n 1, 1) := by decide +kernel
theorem dX5_linesFlashed_29 : decode cX5_linesFlashed 29 = .ok (.iload 5, 2) := by decide +kernel
theorem dX5_linesFlashed_31 : decode cX5_linesFlashed 31 = .ok (.aload_n 0, 1) := by decide +kernel
theorem dX5_linesFlashed_32 : decode cX5_linesFlashed 32 = .ok (.getfield 18, 3) := by decide +kernel
theorem dX5_linesFlashed_35 : decode cX5_linesFlashed 35 = .ok (.iconst 1, 1) := by decide +kernel
theorem dX5_linesFlashed_36 : decode cX5_linesFlashed 36 = .ok (.iaload, 1) := by decide +kernel
theorem dX5_linesFlashed_37 : decode cX5_linesFlashed 37 = .ok (.iadd, 1) := by decide +kernel
theorem dX5_linesFlashed_38 : decode cX5_linesFlashed 38 = .ok (.if_icmp .ge 10, 3) := by decide +kernel
theorem dX5_linesFlashed_41 : decode cX5_linesFlashed 41 = .ok (.iload_n 3, 1) := by decide +kernel
theorem dX5_linesFlashed_42 : decode cX5_linesFlashed 42 = .ok (.iconst 1, 1) := by decide +kernel
theorem dX5_linesFlashed_43 : decode cX5_linesFlashed 43 = .ok (.iload 4, 2) := by decide +kernel
theorem dX5_linesFlashed_45 : decode cX5_linesFlashed 45 = .ok (.ishl, 1) := by decide +kernel
theorem dX5_linesFlashed_46 : decode cX5_linesFlashed 46 = .ok (.ior, 1) := by decide +kernel
theorem dX5_linesFlashed_47 : decode cX5_linesFlashed 47 = .ok (.istore_n 3, 1) := by decide +kernel
theorem dX5_linesFlashed_48 : decode cX5_linesFlashed 48 = .ok (.iinc 4 1, 3) := by decide +kernel
theorem dX5_linesFlashed_51 : decode cX5_linesFlashed 51 = .ok (.goto (-46), 3) := by decide +kernel
theorem dX5_linesFlashed_54 : decode cX5_linesFlashed 54 = .ok (.iload_n 3, 1) := by decide +kernel
theorem dX5_linesFlashed_55 : decode cX5_linesFlashed 55 = .ok (.ireturn, 1) := by decide +kernel
set_option maxRecDepth 20000 in
theorem ggX5_copyFrom_X6_copyFrom : GoodIn wsX5_copyFrom wsX6_copyFrom := goodIn_r _ [16, 17, 18, 19, 3, 4, 5, 20, 21, 22, 23, 24, 25, 26, 27, 42, 43, 44, 45, 46, 47, 48, 49, 50, 51] (by decide +kernel) (by decide +kernel)
set_option maxRecDepth 20000 in
theorem gX5_copyFrom_X6_copyFrom : GoodIn wsX5_copyFrom (wsV RX5 64 RX6 yX6_copyFrom wsX6_copyFrom) := goodIn_app (goodIn_of _ (by decide +kernel)) ggX5_copyFrom_X6_copyFrom
set_option maxRecDepth 20000 in
theorem ggX5_copyFrom_X3_copyFrom : GoodIn wsX5_copyFrom wsX3_copyFrom := goodIn_r _ [32, 33, 34, 3, 4, 5, 52] (by decide +kernel) (by decide +kernel)
set_option maxRecDepth 20000 in
theorem gX5_copyFrom_X3_copyFrom : GoodIn wsX5_copyFrom (wsV RX5 68 RX3 yX3_copyFrom wsX3_copyFrom) := goodIn_app (goodIn_of _ (by decide +kernel)) ggX5_copyFrom_X3_copyFrom
theorem dX5_copyFrom_0 : decode cX5_copyFrom 0 = .ok (.aload_n 1, 1) := by decide +kernel
theorem dX5_copyFrom_1 : decode cX5_copyFrom 1 = .ok (.getfield 18, 3) := by decide +kernel
theorem dX5_copyFrom_4 : decode cX5_copyFrom 4 = .ok (.iconst 0, 1) := by decide +kernel
theorem dX5_copyFrom_5 : decode cX5_copyFrom 5 = .ok (.aload_n 0, 1) := by decide +kernel
theorem dX5_copyFrom_6 : decode cX5_copyFrom 6 = .ok (.getfield 18, 3) := by decide +kernel
theorem dX5_copyFrom_9 : decode cX5_copyFrom 9 = .ok (.iconst 0, 1) := by decide +kernel
theorem dX5_copyFrom_10 : decode cX5_copyFrom 10 = .ok (.iconst 4, 1) := by decide +kernel
theorem dX5_copyFrom_11 : decode cX5_copyFrom 11 = .ok (.invokestatic 58, 3) := by decide +kernel
