theorem dX7_errorOfPass_22 : decode cX7_errorOfPass 22 = .ok (.sipush 9999, 3) := by decide +kernel
theorem dX7_errorOfPass_25 : decode cX7_errorOfPass 25 = .ok (.if_icmp .gt 7, 3) := by decide +kernel
theorem dX7_errorOfPass_28 : decode cX7_errorOfPass 28 = .ok (.iconst 0, 1) := by decide +kernel
theorem dX7_errorOfPass_29 : decode cX7_errorOfPass 29 = .ok (.goto 5, 3) := by decide +kernel
theorem dX7_errorOfPass_32 : decode cX7_errorOfPass 32 = .ok (.bipush (-5), 2) := by decide +kernel
theorem dX7_errorOfPass_34 : decode cX7_errorOfPass 34 = .ok (.ireturn, 1) := by decide +kernel
set_option maxRecDepth 20000 in
theorem ggX7_errorOfShoot_X5_endOfPicture : GoodIn wsX7_errorOfShoot wsX5_endOfPicture := goodIn_r _ [6, 7, 8, 9, 10, 5, 11, 12, 19, 20, 21, 22, 23, 24, 25] (by decide +kernel) (by decide +kernel)
set_option maxRecDepth 20000 in
theorem gX7_errorOfShoot_X5_endOfPicture : GoodIn wsX7_errorOfShoot (wsV RX7 249 RX5 yX5_endOfPicture wsX5_endOfPicture) := goodIn_app (goodIn_of _ (by decide +kernel)) ggX7_errorOfShoot_X5_endOfPicture
theorem dX7_errorOfShoot_0 : decode cX7_errorOfShoot 0 = .ok (.aload_n 0, 1) := by decide +kernel
theorem dX7_errorOfShoot_1 : decode cX7_errorOfShoot 1 = .ok (.getfield 10, 3) := by decide +kernel
theorem dX7_errorOfShoot_4 : decode cX7_errorOfShoot 4 = .ok (.invokevirtual 249, 3) := by decide +kernel
theorem dX7_errorOfShoot_7 : decode cX7_errorOfShoot 7 = .ok (.sipush 9999, 3) := by decide +kernel
theorem dX7_errorOfShoot_10 : decode cX7_errorOfShoot 10 = .ok (.if_icmp .gt 7, 3) := by decide +kernel
theorem dX7_errorOfShoot_13 : decode cX7_errorOfShoot 13 = .ok (.iconst 0, 1) := by decide +kernel
theorem dX7_errorOfShoot_14 : decode cX7_errorOfShoot 14 = .ok (.goto 5, 3) := by decide +kernel
theorem dX7_errorOfShoot_17 : decode cX7_errorOfShoot 17 = .ok (.bipush (-5), 2) := by decide +kernel
theorem dX7_errorOfShoot_19 : decode cX7_errorOfShoot 19 = .ok (.ireturn, 1) := by decide +kernel
theorem dJ6_bitCount_0f7a4_0 : decode cJ6_bitCount_0f7a4 0 = .ok (.iload_n 0, 1) := by decide +kernel
theorem dJ6_bitCount_0f7a4_1 : decode cJ6_bitCount_0f7a4 1 = .ok (.iload_n 0, 1) := by decide +kernel
theorem dJ6_bitCount_0f7a4_2 : decode cJ6_bitCount_0f7a4 2 = .ok (.iconst 1, 1) := by decide +kernel
theorem dJ6_bitCount_0f7a4_3 : decode cJ6_bitCount_0f7a4 3 = .ok (.iushr, 1) := by decide +kernel
theorem dJ6_bitCount_0f7a4_4 : decode cJ6_bitCount_0f7a4 4 = .ok (.ldc_w 265, 3) := by decide +kernel
theorem dJ6_bitCount_0f7a4_7 : decode cJ6_bitCount_0f7a4 7 = .ok (.iand, 1) := by decide +kernel
theorem dJ6_bitCount_0f7a4_8 : decode cJ6_bitCount_0f7a4 8 = .ok (.isub, 1) := by decide +kernel
theorem dJ6_bitCount_0f7a4_9 : decode cJ6_bitCount_0f7a4 9 = .ok (.istore_n 0, 1) := by decide +kernel
theorem dJ6_bitCount_0f7a4_10 : decode cJ6_bitCount_0f7a4 10 = .ok (.iload_n 0, 1) := by decide +kernel
theorem dJ6_bitCount_0f7a4_11 : decode cJ6_bitCount_0f7a4 11 = .ok (.ldc_w 266, 3) := by decide +kernel
theorem dJ6_bitCount_0f7a4_14 : decode cJ6_bitCount_0f7a4 14 = .ok (.iand, 1) := by decide +kernel
theorem dJ6_bitCount_0f7a4_15 : decode cJ6_bitCount_0f7a4 15 = .ok (.iload_n 0, 1) := by decide +kernel
theorem dJ6_bitCount_0f7a4_16 : decode cJ6_bitCount_0f7a4 16 = .ok (.iconst 2, 1) := by decide +kernel
theorem dJ6_bitCount_0f7a4_17 : decode cJ6_bitCount_0f7a4 17 = .ok (.iushr, 1) := by decide +kernel
theorem dJ6_bitCount_0f7a4_18 : decode cJ6_bitCount_0f7a4 18 = .ok (.ldc_w 266, 3) := by decide +kernel
theorem dJ6_bitCount_0f7a4_21 : decode cJ6_bitCount_0f7a4 21 = .ok (.iand, 1) := by decide +kernel
theorem dJ6_bitCount_0f7a4_22 : decode cJ6_bitCount_0f7a4 22 = .ok (.iadd, 1) := by decide +kernel
theorem dJ6_bitCount_0f7a4_23 : decode cJ6_bitCount_0f7a4 23 = .ok (.istore_n 0, 1) := by decide +kernel
theorem dJ6_bitCount_0f7a4_24 : decode cJ6_bitCount_0f7a4 24 = .ok (.iload_n 0, 1) := by decide +kernel
theorem dJ6_bitCount_0f7a4_25 : decode cJ6_bitCount_0f7a4 25 = .ok (.iload_n 0, 1) := by decide +kernel
theorem dJ6_bitCount_0f7a4_26 : decode cJ6_bitCount_0f7a4 26 = .ok (.iconst 4, 1) := by decide +kernel
theorem dJ6_bitCount_0f7a4_27 : decode cJ6_bitCount_0f7a4 27 = .ok (.iushr, 1) := by decide +kernel
theorem dJ6_bitCount_0f7a4_28 : decode cJ6_bitCount_0f7a4 28 = .ok (.iadd, 1) := by decide +kernel
theorem dJ6_bitCount_0f7a4_29 : decode cJ6_bitCount_0f7a4 29 = .ok (.ldc_w 267, 3) := by decide +kernel
theorem dJ6_bitCount_0f7a4_32 : decode cJ6_bitCount_0f7a4 32 = .ok (.iand, 1) := by decide +kernel
theorem dJ6_bitCount_0f7a4_33 : decode cJ6_bitCount_0f7a4 33 = .ok (.istore_n 0, 1) := by decide +kernel
theorem dJ6_bitCount_0f7a4_34 : decode cJ6_bitCount_0f7a4 34 = .ok (.iload_n 0, 1) := by decide +kernel
theorem dJ6_bitCount_0f7a4_35 : decode cJ6_bitCount_0f7a4 35 = .ok (.iload_n 0, 1) := by decide +kernel
theorem dJ6_bitCount_0f7a4_36 : decode cJ6_bitCount_0f7a4 36 = .ok (.bipush 8, 2) := by decide +kernel
theorem dJ6_bitCount_0f7a4_38 : decode cJ6_bitCount_0f7a4 38 = .ok (.iushr, 1) := by decide +kernel
theorem dJ6_bitCount_0f7a4_39 : decode cJ6_bitCount_0f7a4 39 = .ok (.iadd, 1) := by decide +kernel
theorem dJ6_bitCount_0f7a4_40 : decode cJ6_bitCount_0f7a4 40 = .ok (.istore_n 0, 1) := by decide +kernel
theorem dJ6_bitCount_0f7a4_41 : decode cJ6_bitCount_0f7a4 41 = .ok (.iload_n 0, 1) := by decide +kernel
theorem dJ6_bitCount_0f7a4_42 : decode cJ6_bitCount_0f7a4 42 = .ok (.iload_n 0, 1) := by decide +kernel
theorem dJ6_bitCount_0f7a4_43 : decode cJ6_bitCount_0f7a4 43 = .ok (.bipush 16, 2) := by decide +kernel
theorem dJ6_bitCount_0f7a4_45 : decode cJ6_bitCount_0f7a4 45 = .ok (.iushr, 1) := by decide +kernel
theorem dJ6_bitCount_0f7a4_46 : decode cJ6_bitCount_0f7a4 46 = .ok (.iadd, 1) := by decide +kernel
theorem dJ6_bitCount_0f7a4_47 : decode cJ6_bitCount_0f7a4 47 = .ok (.istore_n 0, 1) := by decide +kernel
theorem dJ6_bitCount_0f7a4_48 : decode cJ6_bitCount_0f7a4 48 = .ok (.iload_n 0, 1) := by decide +kernel
theorem dJ6_bitCount_0f7a4_49 : decode cJ6_bitCount_0f7a4 49 = .ok (.bipush 63, 2) := by decide +kernel
theorem dJ6_bitCount_0f7a4_51 : decode cJ6_bitCount_0f7a4 51 = .ok (.iand, 1) := by decide +kernel
theorem dJ6_bitCount_0f7a4_52 : decode cJ6_bitCount_0f7a4 52 = .ok (.ireturn, 1) := by decide +kernel
theorem dJ9_floorDiv_7cf53_0 : decode cJ9_floorDiv_7cf53 0 = .ok (.iload_n 0, 1) := by decide +kernel
theorem dJ9_floorDiv_7cf53_1 : decode cJ9_floorDiv_7cf53 1 = .ok (.iload_n 1, 1) := by decide +kernel
theorem dJ9_floorDiv_7cf53_2 : decode cJ9_floorDiv_7cf53 2 = .ok (.idiv, 1) := by decide +kernel
theorem dJ9_floorDiv_7cf53_3 : decode cJ9_floorDiv_7cf53 3 = .ok (.istore_n 2, 1) := by decide +kernel
theorem dJ9_floorDiv_7cf53_4 : decode cJ9_floorDiv_7cf53 4 = .ok (.iload_n 0, 1) := by decide +kernel
theorem dJ9_floorDiv_7cf53_5 : decode cJ9_floorDiv_7cf53 5 = .ok (.iload_n 1, 1) := by decide +kernel
theorem dJ9_floorDiv_7cf53_6 : decode cJ9_floorDiv_7cf53 6 = .ok (.ixor, 1) := by decide +kernel
theorem dJ9_floorDiv_7cf53_7 : decode cJ9_floorDiv_7cf53 7 = .ok (.ifCond .ge 14, 3) := by decide +kernel
theorem dJ9_floorDiv_7cf53_10 : decode cJ9_floorDiv_7cf53 10 = .ok (.iload_n 2, 1) := by decide +kernel
theorem dJ9_floorDiv_7cf53_11 : decode cJ9_floorDiv_7cf53 11 = .ok (.iload_n 1, 1) := by decide +kernel
theorem dJ9_floorDiv_7cf53_12 : decode cJ9_floorDiv_7cf53 12 = .ok (.imul, 1) := by decide +kernel
theorem dJ9_floorDiv_7cf53_13 : decode cJ9_floorDiv_7cf53 13 = .ok (.iload_n 0, 1) := by decide +kernel
theorem dJ9_floorDiv_7cf53_14 : decode cJ9_floorDiv_7cf53 14 = .ok (.if_icmp .eq 7, 3) := by decide +kernel
theorem dJ9_floorDiv_7cf53_17 : decode cJ9_floorDiv_7cf53 17 = .ok (.iload_n 2, 1) := by decide +kernel
theorem dJ9_floorDiv_7cf53_18 : decode cJ9_floorDiv_7cf53 18 = .ok (.iconst 1, 1) := by decide +kernel
theorem dJ9_floorDiv_7cf53_19 : decode cJ9_floorDiv_7cf53 19 = .ok (.isub, 1) := by decide +kernel
theorem dJ9_floorDiv_7cf53_20 : decode cJ9_floorDiv_7cf53 20 = .ok (.ireturn, 1) := by decide +kernel
theorem dJ9_floorDiv_7cf53_21 : decode cJ9_floorDiv_7cf53 21 = .ok (.iload_n 2, 1) := by decide +kernel
theorem dJ9_floorDiv_7cf53_22 : decode cJ9_floorDiv_7cf53 22 = .ok (.ireturn, 1) := by decide +kernel
theorem dJ9_max_7cf53_0 : decode cJ9_max_7cf53 0 = .ok (.iload_n 0, 1) := by decide +kernel
theorem dJ9_max_7cf53_1 : decode cJ9_max_7cf53 1 = .ok (.iload_n 1, 1) := by decide +kernel
theorem dJ9_max_7cf53_2 : decode cJ9_max_7cf53 2 = .ok (.if_icmp .lt 7, 3) := by decide +kernel
theorem dJ9_max_7cf53_5 : decode cJ9_max_7cf53 5 = .ok (.iload_n 0, 1) := by decide +kernel
theorem dJ9_max_7cf53_6 : decode cJ9_max_7cf53 6 = .ok (.goto 4, 3) := by decide +kernel
theorem dJ9_max_7cf53_9 : decode cJ9_max_7cf53 9 = .ok (.iload_n 1, 1) := by decide +kernel
theorem dJ9_max_7cf53_10 : decode cJ9_max_7cf53 10 = .ok (.ireturn, 1) := by decide +kernel
theorem dJ9_min_7cf53_0 : decode cJ9_min_7cf53 0 = .ok (.iload_n 0, 1) := by decide +kernel
theorem dJ9_min_7cf53_1 : decode cJ9_min_7cf53 1 = .ok (.iload_n 1, 1) := by decide +kernel
theorem dJ9_min_7cf53_2 : decode cJ9_min_7cf53 2 = .ok (.if_icmp .gt 7, 3) := by decide +kernel
theorem dJ9_min_7cf53_5 : decode cJ9_min_7cf53 5 = .ok (.iload_n 0, 1) := by decide +kernel
theorem dJ9_min_7cf53_6 : decode cJ9_min_7cf53 6 = .ok (.goto 4, 3) := by decide +kernel
theorem dJ9_min_7cf53_9 : decode cJ9_min_7cf53 9 = .ok (.iload_n 1, 1) := by decide +kernel
theorem dJ9_min_7cf53_10 : decode cJ9_min_7cf53 10 = .ok (.ireturn, 1) := by decide +kernel
theorem dJ7_fill_53178_0 : decode cJ7_fill_53178 0 = .ok (.iconst 0, 1) := by decide +kernel
theorem dJ7_fill_53178_1 : decode cJ7_fill_53178 1 = .ok (.istore_n 2, 1) := by decide +kernel
theorem dJ7_fill_53178_2 : decode cJ7_fill_53178 2 = .ok (.aload_n 0, 1) := by decide +kernel
theorem dJ7_fill_53178_3 : decode cJ7_fill_53178 3 = .ok (.arraylength, 1) := by decide +kernel
theorem dJ7_fill_53178_4 : decode cJ7_fill_53178 4 = .ok (.istore_n 3, 1) := by decide +kernel
theorem dJ7_fill_53178_5 : decode cJ7_fill_53178 5 = .ok (.iload_n 2, 1) := by decide +kernel
theorem dJ7_fill_53178_6 : decode cJ7_fill_53178 6 = .ok (.iload_n 3, 1) := by decide +kernel
theorem dJ7_fill_53178_7 : decode cJ7_fill_53178 7 = .ok (.if_icmp .ge 13, 3) := by decide +kernel
theorem dJ7_fill_53178_10 : decode cJ7_fill_53178 10 = .ok (.aload_n 0, 1) := by decide +kernel
theorem dJ7_fill_53178_11 : decode cJ7_fill_53178 11 = .ok (.iload_n 2, 1) := by decide +kernel
theorem dJ7_fill_53178_12 : decode cJ7_fill_53178 12 = .ok (.iload_n 1, 1) := by decide +kernel
theorem dJ7_fill_53178_13 : decode cJ7_fill_53178 13 = .ok (.iastore, 1) := by decide +kernel
theorem dJ7_fill_53178_14 : decode cJ7_fill_53178 14 = .ok (.iinc 2 1, 3) := by decide +kernel
theorem dJ7_fill_53178_17 : decode cJ7_fill_53178 17 = .ok (.goto (-12), 3) := by decide +kernel
theorem dJ7_fill_53178_20 : decode cJ7_fill_53178 20 = .ok (.return_, 1) := by decide +kernel
theorem dL_cell_0 : decode cL_cell 0 = .ok (.iload_n 1, 1) := by decide +kernel
theorem dL_cell_1 : decode cL_cell 1 = .ok (.aload_n 0, 1) := by decide +kernel
theorem dL_cell_2 : decode cL_cell 2 = .ok (.arraylength, 1) := by decide +kernel
theorem dL_cell_3 : decode cL_cell 3 = .ok (.if_icmp .ge 9, 3) := by decide +kernel
theorem dL_cell_6 : decode cL_cell 6 = .ok (.aload_n 0, 1) := by decide +kernel
theorem dL_cell_7 : decode cL_cell 7 = .ok (.iload_n 1, 1) := by decide +kernel
theorem dL_cell_8 : decode cL_cell 8 = .ok (.iaload, 1) := by decide +kernel
theorem dL_cell_9 : decode cL_cell 9 = .ok (.goto 15, 3) := by decide +kernel
theorem dL_cell_12 : decode cL_cell 12 = .ok (.sipush 7919, 3) := by decide +kernel
theorem dL_cell_15 : decode cL_cell 15 = .ok (.iload_n 1, 1) := by decide +kernel
theorem dL_cell_16 : decode cL_cell 16 = .ok (.iconst 3, 1) := by decide +kernel
theorem dL_cell_17 : decode cL_cell 17 = .ok (.iadd, 1) := by decide +kernel
theorem dL_cell_18 : decode cL_cell 18 = .ok (.imul, 1) := by decide +kernel
theorem dL_cell_19 : decode cL_cell 19 = .ok (.iload_n 1, 1) := by decide +kernel
theorem dL_cell_20 : decode cL_cell 20 = .ok (.bipush 11, 2) := by decide +kernel
theorem dL_cell_22 : decode cL_cell 22 = .ok (.iadd, 1) := by decide +kernel
theorem dL_cell_23 : decode cL_cell 23 = .ok (.imul, 1) := by decide +kernel
theorem dL_cell_24 : decode cL_cell 24 = .ok (.ireturn, 1) := by decide +kernel
theorem dL_low_0 : decode cL_low 0 = .ok (.iload_n 0, 1) := by decide +kernel
theorem dL_low_1 : decode cL_low 1 = .ok (.ldc 7, 2) := by decide +kernel
theorem dL_low_3 : decode cL_low 3 = .ok (.iand, 1) := by decide +kernel
theorem dL_low_4 : decode cL_low 4 = .ok (.iload_n 1, 1) := by decide +kernel
theorem dL_low_5 : decode cL_low 5 = .ok (.irem, 1) := by decide +kernel
theorem dL_low_6 : decode cL_low 6 = .ok (.ireturn, 1) := by decide +kernel
theorem dL_ones_0 : decode cL_ones 0 = .ok (.iconst 0, 1) := by decide +kernel
theorem dL_ones_1 : decode cL_ones 1 = .ok (.istore_n 1, 1) := by decide +kernel
theorem dL_ones_2 : decode cL_ones 2 = .ok (.iconst 0, 1) := by decide +kernel
theorem dL_ones_3 : decode cL_ones 3 = .ok (.istore_n 2, 1) := by decide +kernel
theorem dL_ones_4 : decode cL_ones 4 = .ok (.iload_n 2, 1) := by decide +kernel
theorem dL_ones_5 : decode cL_ones 5 = .ok (.bipush 24, 2) := by decide +kernel
theorem dL_ones_7 : decode cL_ones 7 = .ok (.if_icmp .ge 17, 3) := by decide +kernel
theorem dL_ones_10 : decode cL_ones 10 = .ok (.iload_n 1, 1) := by decide +kernel
theorem dL_ones_11 : decode cL_ones 11 = .ok (.iload_n 0, 1) := by decide +kernel
theorem dL_ones_12 : decode cL_ones 12 = .ok (.iload_n 2, 1) := by decide +kernel
theorem dL_ones_13 : decode cL_ones 13 = .ok (.ishr, 1) := by decide +kernel
theorem dL_ones_14 : decode cL_ones 14 = .ok (.iconst 1, 1) := by decide +kernel
theorem dL_ones_15 : decode cL_ones 15 = .ok (.iand, 1) := by decide +kernel
theorem dL_ones_16 : decode cL_ones 16 = .ok (.iadd, 1) := by decide +kernel
theorem dL_ones_17 : decode cL_ones 17 = .ok (.istore_n 1, 1) := by decide +kernel
theorem dL_ones_18 : decode cL_ones 18 = .ok (.iinc 2 1, 3) := by decide +kernel
theorem dL_ones_21 : decode cL_ones 21 = .ok (.goto (-17), 3) := by decide +kernel
theorem dL_ones_24 : decode cL_ones 24 = .ok (.iload_n 1, 1) := by decide +kernel
theorem dL_ones_25 : decode cL_ones 25 = .ok (.ireturn, 1) := by decide +kernel
theorem dL_isPicture_0 : decode cL_isPicture 0 = .ok (.iconst 0, 1) := by decide +kernel
theorem dL_isPicture_1 : decode cL_isPicture 1 = .ok (.istore_n 1, 1) := by decide +kernel
theorem dL_isPicture_2 : decode cL_isPicture 2 = .ok (.iconst 0, 1) := by decide +kernel
theorem dL_isPicture_3 : decode cL_isPicture 3 = .ok (.istore_n 2, 1) := by decide +kernel
theorem dL_isPicture_4 : decode cL_isPicture 4 = .ok (.iconst 0, 1) := by decide +kernel
theorem dL_isPicture_5 : decode cL_isPicture 5 = .ok (.istore_n 3, 1) := by decide +kernel
theorem dL_isPicture_6 : decode cL_isPicture 6 = .ok (.iconst 0, 1) := by decide +kernel
theorem dL_isPicture_7 : decode cL_isPicture 7 = .ok (.istore 4, 2) := by decide +kernel
theorem dL_isPicture_9 : decode cL_isPicture 9 = .ok (.iconst 0, 1) := by decide +kernel
theorem dL_isPicture_10 : decode cL_isPicture 10 = .ok (.istore 5, 2) := by decide +kernel
theorem dL_isPicture_12 : decode cL_isPicture 12 = .ok (.iload 5, 2) := by decide +kernel
theorem dL_isPicture_14 : decode cL_isPicture 14 = .ok (.bipush 16, 2) := by decide +kernel
theorem dL_isPicture_16 : decode cL_isPicture 16 = .ok (.if_icmp .ge 205, 3) := by decide +kernel
theorem dL_isPicture_19 : decode cL_isPicture 19 = .ok (.iconst 0, 1) := by decide +kernel
theorem dL_isPicture_20 : decode cL_isPicture 20 = .ok (.istore 6, 2) := by decide +kernel
theorem dL_isPicture_22 : decode cL_isPicture 22 = .ok (.iconst 0, 1) := by decide +kernel
theorem dL_isPicture_23 : decode cL_isPicture 23 = .ok (.istore 7, 2) := by decide +kernel
theorem dL_isPicture_25 : decode cL_isPicture 25 = .ok (.bipush (-6), 2) := by decide +kernel
theorem dL_isPicture_27 : decode cL_isPicture 27 = .ok (.istore 8, 2) := by decide +kernel
theorem dL_isPicture_29 : decode cL_isPicture 29 = .ok (.bipush 23, 2) := by decide +kernel
theorem dL_isPicture_31 : decode cL_isPicture 31 = .ok (.istore 9, 2) := by decide +kernel
theorem dL_isPicture_33 : decode cL_isPicture 33 = .ok (.iload 9, 2) := by decide +kernel
theorem dL_isPicture_35 : decode cL_isPicture 35 = .ok (.ifCond .lt 86, 3) := by decide +kernel
theorem dL_isPicture_38 : decode cL_isPicture 38 = .ok (.aload_n 0, 1) := by decide +kernel
theorem dL_isPicture_39 : decode cL_isPicture 39 = .ok (.iload 5, 2) := by decide +kernel
theorem dL_isPicture_41 : decode cL_isPicture 41 = .ok (.iload 9, 2) := by decide +kernel
theorem dL_isPicture_43 : decode cL_isPicture 43 = .ok (.invokevirtual 10, 3) := by decide +kernel
theorem dL_isPicture_46 : decode cL_isPicture 46 = .ok (.istore 10, 2) := by decide +kernel
theorem dL_isPicture_48 : decode cL_isPicture 48 = .ok (.iload 10, 2) := by decide +kernel
theorem dL_isPicture_50 : decode cL_isPicture 50 = .ok (.ifCond .lt 11, 3) := by decide +kernel
theorem dL_isPicture_53 : decode cL_isPicture 53 = .ok (.iload 10, 2) := by decide +kernel
theorem dL_isPicture_55 : decode cL_isPicture 55 = .ok (.sipush 1800, 3) := by decide +kernel
theorem dL_isPicture_58 : decode cL_isPicture 58 = .ok (.if_icmp .le 5, 3) := by decide +kernel
theorem dL_isPicture_61 : decode cL_isPicture 61 = .ok (.iconst 0, 1) := by decide +kernel
theorem dL_isPicture_62 : decode cL_isPicture 62 = .ok (.ireturn, 1) := by decide +kernel
theorem dL_isPicture_63 : decode cL_isPicture 63 = .ok (.iload 6, 2) := by decide +kernel
theorem dL_isPicture_65 : decode cL_isPicture 65 = .ok (.iload 10, 2) := by decide +kernel
theorem dL_isPicture_67 : decode cL_isPicture 67 = .ok (.ifCond .le 10, 3) := by decide +kernel
theorem dL_isPicture_70 : decode cL_isPicture 70 = .ok (.iconst 1, 1) := by decide +kernel
theorem dL_isPicture_71 : decode cL_isPicture 71 = .ok (.iload 9, 2) := by decide +kernel
theorem dL_isPicture_73 : decode cL_isPicture 73 = .ok (.ishl, 1) := by decide +kernel
theorem dL_isPicture_74 : decode cL_isPicture 74 = .ok (.goto 4, 3) := by decide +kernel
theorem dL_isPicture_77 : decode cL_isPicture 77 = .ok (.iconst 0, 1) := by decide +kernel
theorem dL_isPicture_78 : decode cL_isPicture 78 = .ok (.ior, 1) := by decide +kernel
theorem dL_isPicture_79 : decode cL_isPicture 79 = .ok (.istore 6, 2) := by decide +kernel
theorem dL_isPicture_81 : decode cL_isPicture 81 = .ok (.iload 7, 2) := by decide +kernel
theorem dL_isPicture_83 : decode cL_isPicture 83 = .ok (.iload 10, 2) := by decide +kernel
theorem dL_isPicture_85 : decode cL_isPicture 85 = .ok (.iadd, 1) := by decide +kernel
theorem dL_isPicture_86 : decode cL_isPicture 86 = .ok (.istore 7, 2) := by decide +kernel
theorem dL_isPicture_88 : decode cL_isPicture 88 = .ok (.iload 10, 2) := by decide +kernel
theorem dL_isPicture_90 : decode cL_isPicture 90 = .ok (.ifCond .le 8, 3) := by decide +kernel
theorem dL_isPicture_93 : decode cL_isPicture 93 = .ok (.iload 9, 2) := by decide +kernel
theorem dL_isPicture_95 : decode cL_isPicture 95 = .ok (.goto 5, 3) := by decide +kernel
theorem dL_isPicture_98 : decode cL_isPicture 98 = .ok (.iload 8, 2) := by decide +kernel
theorem dL_isPicture_100 : decode cL_isPicture 100 = .ok (.istore 8, 2) := by decide +kernel
theorem dL_isPicture_102 : decode cL_isPicture 102 = .ok (.iload 10, 2) := by decide +kernel
theorem dL_isPicture_104 : decode cL_isPicture 104 = .ok (.iload_n 2, 1) := by decide +kernel
theorem dL_isPicture_105 : decode cL_isPicture 105 = .ok (.if_icmp .le 8, 3) := by decide +kernel
theorem dL_isPicture_108 : decode cL_isPicture 108 = .ok (.iload 10, 2) := by decide +kernel
theorem dL_isPicture_110 : decode cL_isPicture 110 = .ok (.goto 4, 3) := by decide +kernel
theorem dL_isPicture_113 : decode cL_isPicture 113 = .ok (.iload_n 2, 1) := by decide +kernel
theorem dL_isPicture_114 : decode cL_isPicture 114 = .ok (.istore_n 2, 1) := by decide +kernel
theorem dL_isPicture_115 : decode cL_isPicture 115 = .ok (.iinc 9 (-1), 3) := by decide +kernel
theorem dL_isPicture_118 : decode cL_isPicture 118 = .ok (.goto (-85), 3) := by decide +kernel
theorem dL_isPicture_121 : decode cL_isPicture 121 = .ok (.aload_n 0, 1) := by decide +kernel
theorem dL_isPicture_122 : decode cL_isPicture 122 = .ok (.iload 5, 2) := by decide +kernel
theorem dL_isPicture_124 : decode cL_isPicture 124 = .ok (.iconst 0, 1) := by decide +kernel
theorem dL_isPicture_125 : decode cL_isPicture 125 = .ok (.invokevirtual 14, 3) := by decide +kernel
theorem dL_isPicture_128 : decode cL_isPicture 128 = .ok (.iload 6, 2) := by decide +kernel
theorem dL_isPicture_130 : decode cL_isPicture 130 = .ok (.if_icmp .ne 27, 3) := by decide +kernel
theorem dL_isPicture_133 : decode cL_isPicture 133 = .ok (.aload_n 0, 1) := by decide +kernel
theorem dL_isPicture_134 : decode cL_isPicture 134 = .ok (.iload 5, 2) := by decide +kernel
theorem dL_isPicture_136 : decode cL_isPicture 136 = .ok (.iconst 1, 1) := by decide +kernel
theorem dL_isPicture_137 : decode cL_isPicture 137 = .ok (.invokevirtual 14, 3) := by decide +kernel
theorem dL_isPicture_140 : decode cL_isPicture 140 = .ok (.iload 7, 2) := by decide +kernel
theorem dL_isPicture_142 : decode cL_isPicture 142 = .ok (.if_icmp .ne 15, 3) := by decide +kernel
theorem dL_isPicture_145 : decode cL_isPicture 145 = .ok (.aload_n 0, 1) := by decide +kernel
theorem dL_isPicture_146 : decode cL_isPicture 146 = .ok (.iload 5, 2) := by decide +kernel
theorem dL_isPicture_148 : decode cL_isPicture 148 = .ok (.iconst 2, 1) := by decide +kernel
theorem dL_isPicture_149 : decode cL_isPicture 149 = .ok (.invokevirtual 14, 3) := by decide +kernel
theorem dL_isPicture_152 : decode cL_isPicture 152 = .ok (.iload 8, 2) := by decide +kernel
theorem dL_isPicture_154 : decode cL_isPicture 154 = .ok (.if_icmp .eq 5, 3) := by decide +kernel
theorem dL_isPicture_157 : decode cL_isPicture 157 = .ok (.iconst 0, 1) := by decide +kernel
theorem dL_isPicture_158 : decode cL_isPicture 158 = .ok (.ireturn, 1) := by decide +kernel
theorem dL_isPicture_159 : decode cL_isPicture 159 = .ok (.iload_n 3, 1) := by decide +kernel
theorem dL_isPicture_160 : decode cL_isPicture 160 = .ok (.iload 5, 2) := by decide +kernel
theorem dL_isPicture_162 : decode cL_isPicture 162 = .ok (.ifCond .le 22, 3) := by decide +kernel
theorem dL_isPicture_165 : decode cL_isPicture 165 = .ok (.iload 4, 2) := by decide +kernel
theorem dL_isPicture_167 : decode cL_isPicture 167 = .ok (.iload 6, 2) := by decide +kernel
theorem dL_isPicture_169 : decode cL_isPicture 169 = .ok (.ifCond .ne 7, 3) := by decide +kernel
theorem dL_isPicture_172 : decode cL_isPicture 172 = .ok (.iconst 1, 1) := by decide +kernel
theorem dL_isPicture_173 : decode cL_isPicture 173 = .ok (.goto 4, 3) := by decide +kernel
theorem dL_isPicture_176 : decode cL_isPicture 176 = .ok (.iconst 0, 1) := by decide +kernel
theorem dL_isPicture_177 : decode cL_isPicture 177 = .ok (.if_icmp .eq 7, 3) := by decide +kernel
theorem dL_isPicture_180 : decode cL_isPicture 180 = .ok (.iconst 1, 1) := by decide +kernel
theorem dL_isPicture_181 : decode cL_isPicture 181 = .ok (.goto 4, 3) := by decide +kernel
theorem dL_isPicture_184 : decode cL_isPicture 184 = .ok (.iconst 0, 1) := by decide +kernel
theorem dL_isPicture_185 : decode cL_isPicture 185 = .ok (.iadd, 1) := by decide +kernel
theorem dL_isPicture_186 : decode cL_isPicture 186 = .ok (.istore_n 3, 1) := by decide +kernel
theorem dL_isPicture_187 : decode cL_isPicture 187 = .ok (.iload 6, 2) := by decide +kernel
theorem dL_isPicture_189 : decode cL_isPicture 189 = .ok (.ifCond .ne 7, 3) := by decide +kernel
theorem dL_isPicture_192 : decode cL_isPicture 192 = .ok (.iconst 1, 1) := by decide +kernel
theorem dL_isPicture_193 : decode cL_isPicture 193 = .ok (.goto 4, 3) := by decide +kernel
theorem dL_isPicture_196 : decode cL_isPicture 196 = .ok (.iconst 0, 1) := by decide +kernel
theorem dL_isPicture_197 : decode cL_isPicture 197 = .ok (.istore 4, 2) := by decide +kernel
theorem dL_isPicture_199 : decode cL_isPicture 199 = .ok (.iload_n 1, 1) := by decide +kernel
theorem dL_isPicture_200 : decode cL_isPicture 200 = .ok (.iload 6, 2) := by decide +kernel
theorem dL_isPicture_202 : decode cL_isPicture 202 = .ok (.ifCond .ne 10, 3) := by decide +kernel
theorem dL_isPicture_205 : decode cL_isPicture 205 = .ok (.iconst 1, 1) := by decide +kernel
theorem dL_isPicture_206 : decode cL_isPicture 206 = .ok (.iload 5, 2) := by decide +kernel
theorem dL_isPicture_208 : decode cL_isPicture 208 = .ok (.ishl, 1) := by decide +kernel
theorem dL_isPicture_209 : decode cL_isPicture 209 = .ok (.goto 4, 3) := by decide +kernel
theorem dL_isPicture_212 : decode cL_isPicture 212 = .ok (.iconst 0, 1) := by decide +kernel
theorem dL_isPicture_213 : decode cL_isPicture 213 = .ok (.ior, 1) := by decide +kernel
theorem dL_isPicture_214 : decode cL_isPicture 214 = .ok (.istore_n 1, 1) := by decide +kernel
theorem dL_isPicture_215 : decode cL_isPicture 215 = .ok (.iinc 5 1, 3) := by decide +kernel
theorem dL_isPicture_218 : decode cL_isPicture 218 = .ok (.goto (-206), 3) := by decide +kernel
theorem dL_isPicture_221 : decode cL_isPicture 221 = .ok (.aload_n 0, 1) := by decide +kernel
theorem dL_isPicture_222 : decode cL_isPicture 222 = .ok (.bipush 11, 2) := by decide +kernel
theorem dL_isPicture_224 : decode cL_isPicture 224 = .ok (.invokevirtual 17, 3) := by decide +kernel
theorem dL_isPicture_227 : decode cL_isPicture 227 = .ok (.istore 5, 2) := by decide +kernel
theorem dL_isPicture_229 : decode cL_isPicture 229 = .ok (.iconst 0, 1) := by decide +kernel
theorem dL_isPicture_230 : decode cL_isPicture 230 = .ok (.istore 6, 2) := by decide +kernel
theorem dL_isPicture_232 : decode cL_isPicture 232 = .ok (.iload 6, 2) := by decide +kernel
theorem dL_isPicture_234 : decode cL_isPicture 234 = .ok (.bipush 16, 2) := by decide +kernel
theorem dL_isPicture_236 : decode cL_isPicture 236 = .ok (.if_icmp .ge 93, 3) := by decide +kernel
theorem dL_isPicture_239 : decode cL_isPicture 239 = .ok (.iconst 0, 1) := by decide +kernel
theorem dL_isPicture_240 : decode cL_isPicture 240 = .ok (.istore 7, 2) := by decide +kernel
theorem dL_isPicture_242 : decode cL_isPicture 242 = .ok (.iconst 0, 1) := by decide +kernel
theorem dL_isPicture_243 : decode cL_isPicture 243 = .ok (.istore 8, 2) := by decide +kernel
theorem dL_isPicture_245 : decode cL_isPicture 245 = .ok (.iload 8, 2) := by decide +kernel
theorem dL_isPicture_247 : decode cL_isPicture 247 = .ok (.iload 5, 2) := by decide +kernel
theorem dL_isPicture_249 : decode cL_isPicture 249 = .ok (.if_icmp .ge 45, 3) := by decide +kernel
theorem dL_isPicture_252 : decode cL_isPicture 252 = .ok (.iload 7, 2) := by decide +kernel
theorem dL_isPicture_254 : decode cL_isPicture 254 = .ok (.iload 6, 2) := by decide +kernel
theorem dL_isPicture_256 : decode cL_isPicture 256 = .ok (.iload 5, 2) := by decide +kernel
theorem dL_isPicture_258 : decode cL_isPicture 258 = .ok (.imul, 1) := by decide +kernel
theorem dL_isPicture_259 : decode cL_isPicture 259 = .ok (.iload 8, 2) := by decide +kernel
theorem dL_isPicture_261 : decode cL_isPicture 261 = .ok (.iadd, 1) := by decide +kernel
theorem dL_isPicture_262 : decode cL_isPicture 262 = .ok (.bipush 16, 2) := by decide +kernel
theorem dL_isPicture_264 : decode cL_isPicture 264 = .ok (.if_icmp .ge 20, 3) := by decide +kernel
theorem dL_isPicture_267 : decode cL_isPicture 267 = .ok (.aload_n 0, 1) := by decide +kernel
theorem dL_isPicture_268 : decode cL_isPicture 268 = .ok (.iload 6, 2) := by decide +kernel
theorem dL_isPicture_270 : decode cL_isPicture 270 = .ok (.iload 5, 2) := by decide +kernel
theorem dL_isPicture_272 : decode cL_isPicture 272 = .ok (.imul, 1) := by decide +kernel
theorem dL_isPicture_273 : decode cL_isPicture 273 = .ok (.iload 8, 2) := by decide +kernel
theorem dL_isPicture_275 : decode cL_isPicture 275 = .ok (.iadd, 1) := by decide +kernel
theorem dL_isPicture_276 : decode cL_isPicture 276 = .ok (.bipush 7, 2) := by decide +kernel
theorem dL_isPicture_278 : decode cL_isPicture 278 = .ok (.invokevirtual 10, 3) := by decide +kernel
theorem dL_isPicture_281 : decode cL_isPicture 281 = .ok (.goto 4, 3) := by decide +kernel
theorem dL_isPicture_284 : decode cL_isPicture 284 = .ok (.iconst 0, 1) := by decide +kernel
theorem dL_isPicture_285 : decode cL_isPicture 285 = .ok (.iadd, 1) := by decide +kernel
theorem dL_isPicture_286 : decode cL_isPicture 286 = .ok (.istore 7, 2) := by decide +kernel
theorem dL_isPicture_288 : decode cL_isPicture 288 = .ok (.iinc 8 1, 3) := by decide +kernel
theorem dL_isPicture_291 : decode cL_isPicture 291 = .ok (.goto (-46), 3) := by decide +kernel
theorem dL_isPicture_294 : decode cL_isPicture 294 = .ok (.aload_n 0, 1) := by decide +kernel
theorem dL_isPicture_295 : decode cL_isPicture 295 = .ok (.iload 6, 2) := by decide +kernel
theorem dL_isPicture_297 : decode cL_isPicture 297 = .ok (.bipush 7, 2) := by decide +kernel
theorem dL_isPicture_299 : decode cL_isPicture 299 = .ok (.invokevirtual 21, 3) := by decide +kernel
theorem dL_isPicture_302 : decode cL_isPicture 302 = .ok (.iload 6, 2) := by decide +kernel
theorem dL_isPicture_304 : decode cL_isPicture 304 = .ok (.iload 5, 2) := by decide +kernel
theorem dL_isPicture_306 : decode cL_isPicture 306 = .ok (.imul, 1) := by decide +kernel
theorem dL_isPicture_307 : decode cL_isPicture 307 = .ok (.bipush 16, 2) := by decide +kernel
theorem dL_isPicture_309 : decode cL_isPicture 309 = .ok (.if_icmp .ge 8, 3) := by decide +kernel
theorem dL_isPicture_312 : decode cL_isPicture 312 = .ok (.iload 7, 2) := by decide +kernel
theorem dL_isPicture_314 : decode cL_isPicture 314 = .ok (.goto 4, 3) := by decide +kernel
theorem dL_isPicture_317 : decode cL_isPicture 317 = .ok (.iconst (-1), 1) := by decide +kernel
theorem dL_isPicture_318 : decode cL_isPicture 318 = .ok (.if_icmp .eq 5, 3) := by decide +kernel
theorem dL_isPicture_321 : decode cL_isPicture 321 = .ok (.iconst 0, 1) := by decide +kernel
theorem dL_isPicture_322 : decode cL_isPicture 322 = .ok (.ireturn, 1) := by decide +kernel
theorem dL_isPicture_323 : decode cL_isPicture 323 = .ok (.iinc 6 1, 3) := by decide +kernel
theorem dL_isPicture_326 : decode cL_isPicture 326 = .ok (.goto (-94), 3) := by decide +kernel
theorem dL_isPicture_329 : decode cL_isPicture 329 = .ok (.aload_n 0, 1) := by decide +kernel
theorem dL_isPicture_330 : decode cL_isPicture 330 = .ok (.iconst 3, 1) := by decide +kernel
theorem dL_isPicture_331 : decode cL_isPicture 331 = .ok (.invokevirtual 17, 3) := by decide +kernel
theorem dL_isPicture_334 : decode cL_isPicture 334 = .ok (.iload_n 1, 1) := by decide +kernel
theorem dL_isPicture_335 : decode cL_isPicture 335 = .ok (.if_icmp .ne 47, 3) := by decide +kernel
theorem dL_isPicture_338 : decode cL_isPicture 338 = .ok (.aload_n 0, 1) := by decide +kernel
theorem dL_isPicture_339 : decode cL_isPicture 339 = .ok (.iconst 4, 1) := by decide +kernel
theorem dL_isPicture_340 : decode cL_isPicture 340 = .ok (.invokevirtual 17, 3) := by decide +kernel
theorem dL_isPicture_343 : decode cL_isPicture 343 = .ok (.iload_n 2, 1) := by decide +kernel
theorem dL_isPicture_344 : decode cL_isPicture 344 = .ok (.if_icmp .ne 38, 3) := by decide +kernel
theorem dL_isPicture_347 : decode cL_isPicture 347 = .ok (.aload_n 0, 1) := by decide +kernel
theorem dL_isPicture_348 : decode cL_isPicture 348 = .ok (.iconst 5, 1) := by decide +kernel
theorem dL_isPicture_349 : decode cL_isPicture 349 = .ok (.invokevirtual 17, 3) := by decide +kernel
theorem dL_isPicture_352 : decode cL_isPicture 352 = .ok (.iload_n 3, 1) := by decide +kernel
theorem dL_isPicture_353 : decode cL_isPicture 353 = .ok (.if_icmp .ne 29, 3) := by decide +kernel
theorem dL_isPicture_356 : decode cL_isPicture 356 = .ok (.aload_n 0, 1) := by decide +kernel
theorem dL_isPicture_357 : decode cL_isPicture 357 = .ok (.bipush 16, 2) := by decide +kernel
theorem dL_isPicture_359 : decode cL_isPicture 359 = .ok (.iconst 0, 1) := by decide +kernel
theorem dL_isPicture_360 : decode cL_isPicture 360 = .ok (.invokevirtual 10, 3) := by decide +kernel
theorem dL_isPicture_363 : decode cL_isPicture 363 = .ok (.iconst (-1), 1) := by decide +kernel
theorem dL_isPicture_364 : decode cL_isPicture 364 = .ok (.if_icmp .ne 18, 3) := by decide +kernel
theorem dL_isPicture_367 : decode cL_isPicture 367 = .ok (.aload_n 0, 1) := by decide +kernel
theorem dL_isPicture_368 : decode cL_isPicture 368 = .ok (.iconst 0, 1) := by decide +kernel
theorem dL_isPicture_369 : decode cL_isPicture 369 = .ok (.bipush 24, 2) := by decide +kernel
theorem dL_isPicture_371 : decode cL_isPicture 371 = .ok (.invokevirtual 10, 3) := by decide +kernel
theorem dL_isPicture_374 : decode cL_isPicture 374 = .ok (.iconst (-1), 1) := by decide +kernel
theorem dL_isPicture_375 : decode cL_isPicture 375 = .ok (.if_icmp .ne 7, 3) := by decide +kernel
theorem dL_isPicture_378 : decode cL_isPicture 378 = .ok (.iconst 1, 1) := by decide +kernel
theorem dL_isPicture_379 : decode cL_isPicture 379 = .ok (.goto 4, 3) := by decide +kernel
theorem dL_isPicture_382 : decode cL_isPicture 382 = .ok (.iconst 0, 1) := by decide +kernel
theorem dL_isPicture_383 : decode cL_isPicture 383 = .ok (.ireturn, 1) := by decide +kernel
theorem dL_isThing_0 : decode cL_isThing 0 = .ok (.aload_n 0, 1) := by decide +kernel
theorem dL_isThing_1 : decode cL_isThing 1 = .ok (.iload_n 1, 1) := by decide +kernel
theorem dL_isThing_2 : decode cL_isThing 2 = .ok (.bipush 6, 2) := by decide +kernel
theorem dL_isThing_4 : decode cL_isThing 4 = .ok (.invokevirtual 24, 3) := by decide +kernel
theorem dL_isThing_7 : decode cL_isThing 7 = .ok (.istore_n 2, 1) := by decide +kernel
theorem dL_isThing_8 : decode cL_isThing 8 = .ok (.aload_n 0, 1) := by decide +kernel
theorem dL_isThing_9 : decode cL_isThing 9 = .ok (.iload_n 1, 1) := by decide +kernel
theorem dL_isThing_10 : decode cL_isThing 10 = .ok (.iconst 5, 1) := by decide +kernel
theorem dL_isThing_11 : decode cL_isThing 11 = .ok (.invokevirtual 24, 3) := by decide +kernel
theorem dL_isThing_14 : decode cL_isThing 14 = .ok (.bipush 100, 2) := by decide +kernel
theorem dL_isThing_16 : decode cL_isThing 16 = .ok (.isub, 1) := by decide +kernel
theorem dL_isThing_17 : decode cL_isThing 17 = .ok (.istore_n 3, 1) := by decide +kernel
theorem dL_isThing_18 : decode cL_isThing 18 = .ok (.aload_n 0, 1) := by decide +kernel
theorem dL_isThing_19 : decode cL_isThing 19 = .ok (.iload_n 1, 1) := by decide +kernel
theorem dL_isThing_20 : decode cL_isThing 20 = .ok (.iconst 0, 1) := by decide +kernel
theorem dL_isThing_21 : decode cL_isThing 21 = .ok (.invokevirtual 24, 3) := by decide +kernel
theorem dL_isThing_24 : decode cL_isThing 24 = .ok (.ifCond .lt 72, 3) := by decide +kernel
theorem dL_isThing_27 : decode cL_isThing 27 = .ok (.aload_n 0, 1) := by decide +kernel
theorem dL_isThing_28 : decode cL_isThing 28 = .ok (.iload_n 1, 1) := by decide +kernel
theorem dL_isThing_29 : decode cL_isThing 29 = .ok (.iconst 0, 1) := by decide +kernel
theorem dL_isThing_30 : decode cL_isThing 30 = .ok (.invokevirtual 24, 3) := by decide +kernel
theorem dL_isThing_33 : decode cL_isThing 33 = .ok (.bipush 16, 2) := by decide +kernel
theorem dL_isThing_35 : decode cL_isThing 35 = .ok (.if_icmp .ge 61, 3) := by decide +kernel
theorem dL_isThing_38 : decode cL_isThing 38 = .ok (.aload_n 0, 1) := by decide +kernel
theorem dL_isThing_39 : decode cL_isThing 39 = .ok (.iload_n 1, 1) := by decide +kernel
theorem dL_isThing_40 : decode cL_isThing 40 = .ok (.iconst 2, 1) := by decide +kernel
theorem dL_isThing_41 : decode cL_isThing 41 = .ok (.invokevirtual 24, 3) := by decide +kernel
theorem dL_isThing_44 : decode cL_isThing 44 = .ok (.ifCond .le 52, 3) := by decide +kernel
theorem dL_isThing_47 : decode cL_isThing 47 = .ok (.aload_n 0, 1) := by decide +kernel
theorem dL_isThing_48 : decode cL_isThing 48 = .ok (.iload_n 1, 1) := by decide +kernel
theorem dL_isThing_49 : decode cL_isThing 49 = .ok (.iconst 3, 1) := by decide +kernel
theorem dL_isThing_50 : decode cL_isThing 50 = .ok (.invokevirtual 24, 3) := by decide +kernel
theorem dL_isThing_53 : decode cL_isThing 53 = .ok (.ifCond .le 43, 3) := by decide +kernel
theorem dL_isThing_56 : decode cL_isThing 56 = .ok (.aload_n 0, 1) := by decide +kernel
theorem dL_isThing_57 : decode cL_isThing 57 = .ok (.iload_n 1, 1) := by decide +kernel
theorem dL_isThing_58 : decode cL_isThing 58 = .ok (.iconst 4, 1) := by decide +kernel
theorem dL_isThing_59 : decode cL_isThing 59 = .ok (.invokevirtual 24, 3) := by decide +kernel
theorem dL_isThing_62 : decode cL_isThing 62 = .ok (.ifCond .le 34, 3) := by decide +kernel
theorem dL_isThing_65 : decode cL_isThing 65 = .ok (.iload_n 3, 1) := by decide +kernel
theorem dL_isThing_66 : decode cL_isThing 66 = .ok (.bipush (-40), 2) := by decide +kernel
theorem dL_isThing_68 : decode cL_isThing 68 = .ok (.if_icmp .lt 28, 3) := by decide +kernel
theorem dL_isThing_71 : decode cL_isThing 71 = .ok (.iload_n 3, 1) := by decide +kernel
theorem dL_isThing_72 : decode cL_isThing 72 = .ok (.bipush 40, 2) := by decide +kernel
theorem dL_isThing_74 : decode cL_isThing 74 = .ok (.if_icmp .gt 22, 3) := by decide +kernel
theorem dL_isThing_77 : decode cL_isThing 77 = .ok (.iload_n 2, 1) := by decide +kernel
theorem dL_isThing_78 : decode cL_isThing 78 = .ok (.bipush (-6), 2) := by decide +kernel
theorem dL_isThing_80 : decode cL_isThing 80 = .ok (.if_icmp .eq 12, 3) := by decide +kernel
theorem dL_isThing_83 : decode cL_isThing 83 = .ok (.iload_n 2, 1) := by decide +kernel
theorem dL_isThing_84 : decode cL_isThing 84 = .ok (.ifCond .lt 12, 3) := by decide +kernel
theorem dL_isThing_87 : decode cL_isThing 87 = .ok (.iload_n 2, 1) := by decide +kernel
theorem dL_isThing_88 : decode cL_isThing 88 = .ok (.iload_n 1, 1) := by decide +kernel
theorem dL_isThing_89 : decode cL_isThing 89 = .ok (.if_icmp .ge 7, 3) := by decide +kernel
theorem dL_isThing_92 : decode cL_isThing 92 = .ok (.iconst 1, 1) := by decide +kernel
theorem dL_isThing_93 : decode cL_isThing 93 = .ok (.goto 4, 3) := by decide +kernel
theorem dL_isThing_96 : decode cL_isThing 96 = .ok (.iconst 0, 1) := by decide +kernel
theorem dL_isThing_97 : decode cL_isThing 97 = .ok (.istore 4, 2) := by decide +kernel
theorem dL_isThing_99 : decode cL_isThing 99 = .ok (.iload 4, 2) := by decide +kernel
theorem dL_isThing_101 : decode cL_isThing 101 = .ok (.ifCond .eq 44, 3) := by decide +kernel
theorem dL_isThing_104 : decode cL_isThing 104 = .ok (.aload_n 0, 1) := by decide +kernel
theorem dL_isThing_105 : decode cL_isThing 105 = .ok (.iload_n 1, 1) := by decide +kernel
theorem dL_isThing_106 : decode cL_isThing 106 = .ok (.bipush 7, 2) := by decide +kernel
theorem dL_isThing_108 : decode cL_isThing 108 = .ok (.invokevirtual 24, 3) := by decide +kernel
theorem dL_isThing_111 : decode cL_isThing 111 = .ok (.sipush 1000, 3) := by decide +kernel
theorem dL_isThing_114 : decode cL_isThing 114 = .ok (.isub, 1) := by decide +kernel
theorem dL_isThing_115 : decode cL_isThing 115 = .ok (.iload_n 3, 1) := by decide +kernel
theorem dL_isThing_116 : decode cL_isThing 116 = .ok (.iload_n 2, 1) := by decide +kernel
theorem dL_isThing_117 : decode cL_isThing 117 = .ok (.bipush (-6), 2) := by decide +kernel
theorem dL_isThing_119 : decode cL_isThing 119 = .ok (.if_icmp .ne 7, 3) := by decide +kernel
theorem dL_isThing_122 : decode cL_isThing 122 = .ok (.iconst 0, 1) := by decide +kernel
theorem dL_isThing_123 : decode cL_isThing 123 = .ok (.goto 14, 3) := by decide +kernel
theorem dL_isThing_126 : decode cL_isThing 126 = .ok (.aload_n 0, 1) := by decide +kernel
theorem dL_isThing_127 : decode cL_isThing 127 = .ok (.iload_n 2, 1) := by decide +kernel
theorem dL_isThing_128 : decode cL_isThing 128 = .ok (.bipush 7, 2) := by decide +kernel
theorem dL_isThing_130 : decode cL_isThing 130 = .ok (.invokevirtual 24, 3) := by decide +kernel
theorem dL_isThing_133 : decode cL_isThing 133 = .ok (.sipush 1000, 3) := by decide +kernel
theorem dL_isThing_136 : decode cL_isThing 136 = .ok (.isub, 1) := by decide +kernel
theorem dL_isThing_137 : decode cL_isThing 137 = .ok (.iadd, 1) := by decide +kernel
theorem dL_isThing_138 : decode cL_isThing 138 = .ok (.if_icmp .ne 7, 3) := by decide +kernel
theorem dL_isThing_141 : decode cL_isThing 141 = .ok (.iconst 1, 1) := by decide +kernel
theorem dL_isThing_142 : decode cL_isThing 142 = .ok (.goto 4, 3) := by decide +kernel
theorem dL_isThing_145 : decode cL_isThing 145 = .ok (.iconst 0, 1) := by decide +kernel
theorem dL_isThing_146 : decode cL_isThing 146 = .ok (.ireturn, 1) := by decide +kernel
theorem dL_isSeen_0 : decode cL_isSeen 0 = .ok (.iconst 0, 1) := by decide +kernel
theorem dL_isSeen_1 : decode cL_isSeen 1 = .ok (.istore_n 3, 1) := by decide +kernel
theorem dL_isSeen_2 : decode cL_isSeen 2 = .ok (.iconst 0, 1) := by decide +kernel
theorem dL_isSeen_3 : decode cL_isSeen 3 = .ok (.istore 4, 2) := by decide +kernel
theorem dL_isSeen_5 : decode cL_isSeen 5 = .ok (.iload 4, 2) := by decide +kernel
theorem dL_isSeen_7 : decode cL_isSeen 7 = .ok (.aload_n 0, 1) := by decide +kernel
theorem dL_isSeen_8 : decode cL_isSeen 8 = .ok (.iconst 1, 1) := by decide +kernel
theorem dL_isSeen_9 : decode cL_isSeen 9 = .ok (.invokevirtual 17, 3) := by decide +kernel
theorem dL_isSeen_12 : decode cL_isSeen 12 = .ok (.if_icmp .ge 105, 3) := by decide +kernel
theorem dL_isSeen_15 : decode cL_isSeen 15 = .ok (.iload 4, 2) := by decide +kernel
theorem dL_isSeen_17 : decode cL_isSeen 17 = .ok (.bipush 8, 2) := by decide +kernel
theorem dL_isSeen_19 : decode cL_isSeen 19 = .ok (.if_icmp .ge 98, 3) := by decide +kernel
theorem dL_isSeen_22 : decode cL_isSeen 22 = .ok (.aload_n 0, 1) := by decide +kernel
theorem dL_isSeen_23 : decode cL_isSeen 23 = .ok (.iload 4, 2) := by decide +kernel
theorem dL_isSeen_25 : decode cL_isSeen 25 = .ok (.iconst 1, 1) := by decide +kernel
theorem dL_isSeen_26 : decode cL_isSeen 26 = .ok (.invokevirtual 24, 3) := by decide +kernel
theorem dL_isSeen_29 : decode cL_isSeen 29 = .ok (.sipush 1000, 3) := by decide +kernel
theorem dL_isSeen_32 : decode cL_isSeen 32 = .ok (.isub, 1) := by decide +kernel
theorem dL_isSeen_33 : decode cL_isSeen 33 = .ok (.istore 5, 2) := by decide +kernel
theorem dL_isSeen_35 : decode cL_isSeen 35 = .ok (.iload_n 1, 1) := by decide +kernel
theorem dL_isSeen_36 : decode cL_isSeen 36 = .ok (.aload_n 0, 1) := by decide +kernel
theorem dL_isSeen_37 : decode cL_isSeen 37 = .ok (.iload 4, 2) := by decide +kernel
theorem dL_isSeen_39 : decode cL_isSeen 39 = .ok (.iconst 0, 1) := by decide +kernel
theorem dL_isSeen_40 : decode cL_isSeen 40 = .ok (.invokevirtual 24, 3) := by decide +kernel
theorem dL_isSeen_43 : decode cL_isSeen 43 = .ok (.if_icmp .lt 46, 3) := by decide +kernel
theorem dL_isSeen_46 : decode cL_isSeen 46 = .ok (.iload_n 1, 1) := by decide +kernel
theorem dL_isSeen_47 : decode cL_isSeen 47 = .ok (.aload_n 0, 1) := by decide +kernel
theorem dL_isSeen_48 : decode cL_isSeen 48 = .ok (.iload 4, 2) := by decide +kernel
theorem dL_isSeen_50 : decode cL_isSeen 50 = .ok (.iconst 0, 1) := by decide +kernel
theorem dL_isSeen_51 : decode cL_isSeen 51 = .ok (.invokevirtual 24, 3) := by decide +kernel
theorem dL_isSeen_54 : decode cL_isSeen 54 = .ok (.aload_n 0, 1) := by decide +kernel
theorem dL_isSeen_55 : decode cL_isSeen 55 = .ok (.iload 4, 2) := by decide +kernel
theorem dL_isSeen_57 : decode cL_isSeen 57 = .ok (.iconst 2, 1) := by decide +kernel
theorem dL_isSeen_58 : decode cL_isSeen 58 = .ok (.invokevirtual 24, 3) := by decide +kernel
theorem dL_isSeen_61 : decode cL_isSeen 61 = .ok (.iadd, 1) := by decide +kernel
theorem dL_isSeen_62 : decode cL_isSeen 62 = .ok (.if_icmp .ge 27, 3) := by decide +kernel
theorem dL_isSeen_65 : decode cL_isSeen 65 = .ok (.iload_n 2, 1) := by decide +kernel
theorem dL_isSeen_66 : decode cL_isSeen 66 = .ok (.iload 5, 2) := by decide +kernel
theorem dL_isSeen_68 : decode cL_isSeen 68 = .ok (.if_icmp .lt 21, 3) := by decide +kernel
theorem dL_isSeen_71 : decode cL_isSeen 71 = .ok (.iload_n 2, 1) := by decide +kernel
theorem dL_isSeen_72 : decode cL_isSeen 72 = .ok (.iload 5, 2) := by decide +kernel
theorem dL_isSeen_74 : decode cL_isSeen 74 = .ok (.aload_n 0, 1) := by decide +kernel
theorem dL_isSeen_75 : decode cL_isSeen 75 = .ok (.iload 4, 2) := by decide +kernel
theorem dL_isSeen_77 : decode cL_isSeen 77 = .ok (.iconst 3, 1) := by decide +kernel
theorem dL_isSeen_78 : decode cL_isSeen 78 = .ok (.invokevirtual 24, 3) := by decide +kernel
theorem dL_isSeen_81 : decode cL_isSeen 81 = .ok (.iadd, 1) := by decide +kernel
theorem dL_isSeen_82 : decode cL_isSeen 82 = .ok (.if_icmp .ge 7, 3) := by decide +kernel
theorem dL_isSeen_85 : decode cL_isSeen 85 = .ok (.iconst 1, 1) := by decide +kernel
theorem dL_isSeen_86 : decode cL_isSeen 86 = .ok (.goto 4, 3) := by decide +kernel
theorem dL_isSeen_89 : decode cL_isSeen 89 = .ok (.iconst 0, 1) := by decide +kernel
theorem dL_isSeen_90 : decode cL_isSeen 90 = .ok (.istore 6, 2) := by decide +kernel
theorem dL_isSeen_92 : decode cL_isSeen 92 = .ok (.iload_n 3, 1) := by decide +kernel
theorem dL_isSeen_93 : decode cL_isSeen 93 = .ok (.iload 6, 2) := by decide +kernel
theorem dL_isSeen_95 : decode cL_isSeen 95 = .ok (.ifCond .eq 13, 3) := by decide +kernel
theorem dL_isSeen_98 : decode cL_isSeen 98 = .ok (.aload_n 0, 1) := by decide +kernel
theorem dL_isSeen_99 : decode cL_isSeen 99 = .ok (.iload 4, 2) := by decide +kernel
theorem dL_isSeen_101 : decode cL_isSeen 101 = .ok (.iconst 4, 1) := by decide +kernel
theorem dL_isSeen_102 : decode cL_isSeen 102 = .ok (.invokevirtual 24, 3) := by decide +kernel
theorem dL_isSeen_105 : decode cL_isSeen 105 = .ok (.goto 4, 3) := by decide +kernel
theorem dL_isSeen_108 : decode cL_isSeen 108 = .ok (.iconst 0, 1) := by decide +kernel
theorem dL_isSeen_109 : decode cL_isSeen 109 = .ok (.iadd, 1) := by decide +kernel
theorem dL_isSeen_110 : decode cL_isSeen 110 = .ok (.istore_n 3, 1) := by decide +kernel
theorem dL_isSeen_111 : decode cL_isSeen 111 = .ok (.iinc 4 1, 3) := by decide +kernel
theorem dL_isSeen_114 : decode cL_isSeen 114 = .ok (.goto (-109), 3) := by decide +kernel
theorem dL_isSeen_117 : decode cL_isSeen 117 = .ok (.iload_n 3, 1) := by decide +kernel
theorem dL_isSeen_118 : decode cL_isSeen 118 = .ok (.bipush 30, 2) := by decide +kernel
theorem dL_isSeen_120 : decode cL_isSeen 120 = .ok (.if_icmp .le 8, 3) := by decide +kernel
theorem dL_isSeen_123 : decode cL_isSeen 123 = .ok (.bipush 30, 2) := by decide +kernel
theorem dL_isSeen_125 : decode cL_isSeen 125 = .ok (.goto 4, 3) := by decide +kernel
theorem dL_isSeen_128 : decode cL_isSeen 128 = .ok (.iload_n 3, 1) := by decide +kernel
theorem dL_isSeen_129 : decode cL_isSeen 129 = .ok (.istore_n 3, 1) := by decide +kernel
theorem dL_isSeen_130 : decode cL_isSeen 130 = .ok (.aload_n 0, 1) := by decide +kernel
theorem dL_isSeen_131 : decode cL_isSeen 131 = .ok (.iconst 0, 1) := by decide +kernel
theorem dL_isSeen_132 : decode cL_isSeen 132 = .ok (.invokevirtual 17, 3) := by decide +kernel
theorem dL_isSeen_135 : decode cL_isSeen 135 = .ok (.istore 4, 2) := by decide +kernel
theorem dL_isSeen_137 : decode cL_isSeen 137 = .ok (.aload_n 0, 1) := by decide +kernel
theorem dL_isSeen_138 : decode cL_isSeen 138 = .ok (.bipush 10, 2) := by decide +kernel
theorem dL_isSeen_140 : decode cL_isSeen 140 = .ok (.invokevirtual 17, 3) := by decide +kernel
theorem dL_isSeen_143 : decode cL_isSeen 143 = .ok (.istore 5, 2) := by decide +kernel
theorem dL_isSeen_145 : decode cL_isSeen 145 = .ok (.aload_n 0, 1) := by decide +kernel
theorem dL_isSeen_146 : decode cL_isSeen 146 = .ok (.bipush 6, 2) := by decide +kernel
theorem dL_isSeen_148 : decode cL_isSeen 148 = .ok (.invokevirtual 17, 3) := by decide +kernel
theorem dL_isSeen_151 : decode cL_isSeen 151 = .ok (.ifCond .lt 36, 3) := by decide +kernel
theorem dL_isSeen_154 : decode cL_isSeen 154 = .ok (.iload 4, 2) := by decide +kernel
theorem dL_isSeen_156 : decode cL_isSeen 156 = .ok (.aload_n 0, 1) := by decide +kernel
theorem dL_isSeen_157 : decode cL_isSeen 157 = .ok (.bipush 6, 2) := by decide +kernel
theorem dL_isSeen_159 : decode cL_isSeen 159 = .ok (.invokevirtual 17, 3) := by decide +kernel
theorem dL_isSeen_162 : decode cL_isSeen 162 = .ok (.if_icmp .lt 25, 3) := by decide +kernel
theorem dL_isSeen_165 : decode cL_isSeen 165 = .ok (.iload 4, 2) := by decide +kernel
theorem dL_isSeen_167 : decode cL_isSeen 167 = .ok (.aload_n 0, 1) := by decide +kernel
theorem dL_isSeen_168 : decode cL_isSeen 168 = .ok (.bipush 6, 2) := by decide +kernel
theorem dL_isSeen_170 : decode cL_isSeen 170 = .ok (.invokevirtual 17, 3) := by decide +kernel
theorem dL_isSeen_173 : decode cL_isSeen 173 = .ok (.aload_n 0, 1) := by decide +kernel
theorem dL_isSeen_174 : decode cL_isSeen 174 = .ok (.bipush 7, 2) := by decide +kernel
theorem dL_isSeen_176 : decode cL_isSeen 176 = .ok (.invokevirtual 17, 3) := by decide +kernel
theorem dL_isSeen_179 : decode cL_isSeen 179 = .ok (.iadd, 1) := by decide +kernel
theorem dL_isSeen_180 : decode cL_isSeen 180 = .ok (.if_icmp .ge 7, 3) := by decide +kernel
theorem dL_isSeen_183 : decode cL_isSeen 183 = .ok (.iconst 1, 1) := by decide +kernel
theorem dL_isSeen_184 : decode cL_isSeen 184 = .ok (.goto 4, 3) := by decide +kernel
theorem dL_isSeen_187 : decode cL_isSeen 187 = .ok (.iconst 0, 1) := by decide +kernel
theorem dL_isSeen_188 : decode cL_isSeen 188 = .ok (.istore 6, 2) := by decide +kernel
theorem dL_isSeen_190 : decode cL_isSeen 190 = .ok (.iload 6, 2) := by decide +kernel
theorem dL_isSeen_192 : decode cL_isSeen 192 = .ok (.ifCond .eq 7, 3) := by decide +kernel
theorem dL_isSeen_195 : decode cL_isSeen 195 = .ok (.iconst 3, 1) := by decide +kernel
theorem dL_isSeen_196 : decode cL_isSeen 196 = .ok (.goto 25, 3) := by decide +kernel
theorem dL_isSeen_199 : decode cL_isSeen 199 = .ok (.iload 5, 2) := by decide +kernel
theorem dL_isSeen_201 : decode cL_isSeen 201 = .ok (.ifCond .le 19, 3) := by decide +kernel
theorem dL_isSeen_204 : decode cL_isSeen 204 = .ok (.iload 4, 2) := by decide +kernel
theorem dL_isSeen_206 : decode cL_isSeen 206 = .ok (.iload 5, 2) := by decide +kernel
theorem dL_isSeen_208 : decode cL_isSeen 208 = .ok (.irem, 1) := by decide +kernel
theorem dL_isSeen_209 : decode cL_isSeen 209 = .ok (.iload 5, 2) := by decide +kernel
theorem dL_isSeen_211 : decode cL_isSeen 211 = .ok (.iconst 2, 1) := by decide +kernel
theorem dL_isSeen_212 : decode cL_isSeen 212 = .ok (.idiv, 1) := by decide +kernel
theorem dL_isSeen_213 : decode cL_isSeen 213 = .ok (.if_icmp .lt 7, 3) := by decide +kernel
theorem dL_isSeen_216 : decode cL_isSeen 216 = .ok (.iconst 0, 1) := by decide +kernel
theorem dL_isSeen_217 : decode cL_isSeen 217 = .ok (.goto 4, 3) := by decide +kernel
theorem dL_isSeen_220 : decode cL_isSeen 220 = .ok (.iconst 1, 1) := by decide +kernel
theorem dL_isSeen_221 : decode cL_isSeen 221 = .ok (.istore 7, 2) := by decide +kernel
theorem dL_isSeen_223 : decode cL_isSeen 223 = .ok (.aload_n 0, 1) := by decide +kernel
theorem dL_isSeen_224 : decode cL_isSeen 224 = .ok (.iload_n 1, 1) := by decide +kernel
theorem dL_isSeen_225 : decode cL_isSeen 225 = .ok (.iload_n 2, 1) := by decide +kernel
theorem dL_isSeen_226 : decode cL_isSeen 226 = .ok (.iconst 0, 1) := by decide +kernel
theorem dL_isSeen_227 : decode cL_isSeen 227 = .ok (.invokevirtual 27, 3) := by decide +kernel
theorem dL_isSeen_230 : decode cL_isSeen 230 = .ok (.iload_n 3, 1) := by decide +kernel
theorem dL_isSeen_231 : decode cL_isSeen 231 = .ok (.iload 7, 2) := by decide +kernel
theorem dL_isSeen_233 : decode cL_isSeen 233 = .ok (.imul, 1) := by decide +kernel
theorem dL_isSeen_234 : decode cL_isSeen 234 = .ok (.if_icmp .ne 7, 3) := by decide +kernel
theorem dL_isSeen_237 : decode cL_isSeen 237 = .ok (.iconst 1, 1) := by decide +kernel
theorem dL_isSeen_238 : decode cL_isSeen 238 = .ok (.goto 4, 3) := by decide +kernel
theorem dL_isSeen_241 : decode cL_isSeen 241 = .ok (.iconst 0, 1) := by decide +kernel
theorem dL_isSeen_242 : decode cL_isSeen 242 = .ok (.ireturn, 1) := by decide +kernel
theorem dL_isShot_0 : decode cL_isShot 0 = .ok (.bipush 16, 2) := by decide +kernel
theorem dL_isShot_2 : decode cL_isShot 2 = .ok (.newarray .int, 2) := by decide +kernel
theorem dL_isShot_4 : decode cL_isShot 4 = .ok (.astore_n 2, 1) := by decide +kernel
theorem dL_isShot_5 : decode cL_isShot 5 = .ok (.iload_n 1, 1) := by decide +kernel
theorem dL_isShot_6 : decode cL_isShot 6 = .ok (.bipush 24, 2) := by decide +kernel
theorem dL_isShot_8 : decode cL_isShot 8 = .ok (.invokestatic 31, 3) := by decide +kernel
theorem dL_isShot_11 : decode cL_isShot 11 = .ok (.istore_n 3, 1) := by decide +kernel
theorem dL_isShot_12 : decode cL_isShot 12 = .ok (.iload_n 1, 1) := by decide +kernel
theorem dL_isShot_13 : decode cL_isShot 13 = .ok (.iconst 5, 1) := by decide +kernel
theorem dL_isShot_14 : decode cL_isShot 14 = .ok (.ishr, 1) := by decide +kernel
theorem dL_isShot_15 : decode cL_isShot 15 = .ok (.bipush 24, 2) := by decide +kernel
theorem dL_isShot_17 : decode cL_isShot 17 = .ok (.invokestatic 31, 3) := by decide +kernel
theorem dL_isShot_20 : decode cL_isShot 20 = .ok (.istore 4, 2) := by decide +kernel
theorem dL_isShot_22 : decode cL_isShot 22 = .ok (.aload_n 0, 1) := by decide +kernel
theorem dL_isShot_23 : decode cL_isShot 23 = .ok (.bipush 8, 2) := by decide +kernel
theorem dL_isShot_25 : decode cL_isShot 25 = .ok (.invokevirtual 17, 3) := by decide +kernel
theorem dL_isShot_28 : decode cL_isShot 28 = .ok (.istore 5, 2) := by decide +kernel
theorem dL_isShot_30 : decode cL_isShot 30 = .ok (.aload_n 0, 1) := by decide +kernel
theorem dL_isShot_31 : decode cL_isShot 31 = .ok (.bipush 9, 2) := by decide +kernel
theorem dL_isShot_33 : decode cL_isShot 33 = .ok (.invokevirtual 17, 3) := by decide +kernel
theorem dL_isShot_36 : decode cL_isShot 36 = .ok (.istore 6, 2) := by decide +kernel
theorem dL_isShot_38 : decode cL_isShot 38 = .ok (.iconst 0, 1) := by decide +kernel
theorem dL_isShot_39 : decode cL_isShot 39 = .ok (.istore 7, 2) := by decide +kernel
theorem dL_isShot_41 : decode cL_isShot 41 = .ok (.iload 7, 2) := by decide +kernel
theorem dL_isShot_43 : decode cL_isShot 43 = .ok (.bipush 16, 2) := by decide +kernel
theorem dL_isShot_45 : decode cL_isShot 45 = .ok (.if_icmp .ge 88, 3) := by decide +kernel
theorem dL_isShot_48 : decode cL_isShot 48 = .ok (.aload_n 2, 1) := by decide +kernel
theorem dL_isShot_49 : decode cL_isShot 49 = .ok (.iload 7, 2) := by decide +kernel
theorem dL_isShot_51 : decode cL_isShot 51 = .ok (.iload 7, 2) := by decide +kernel
theorem dL_isShot_53 : decode cL_isShot 53 = .ok (.iload 5, 2) := by decide +kernel
theorem dL_isShot_55 : decode cL_isShot 55 = .ok (.imul, 1) := by decide +kernel
theorem dL_isShot_56 : decode cL_isShot 56 = .ok (.iload 6, 2) := by decide +kernel
theorem dL_isShot_58 : decode cL_isShot 58 = .ok (.iadd, 1) := by decide +kernel
theorem dL_isShot_59 : decode cL_isShot 59 = .ok (.bipush 100, 2) := by decide +kernel
theorem dL_isShot_61 : decode cL_isShot 61 = .ok (.if_icmp .le 7, 3) := by decide +kernel
theorem dL_isShot_64 : decode cL_isShot 64 = .ok (.iconst (-1), 1) := by decide +kernel
theorem dL_isShot_65 : decode cL_isShot 65 = .ok (.goto 4, 3) := by decide +kernel
theorem dL_isShot_68 : decode cL_isShot 68 = .ok (.iconst 0, 1) := by decide +kernel
theorem dL_isShot_69 : decode cL_isShot 69 = .ok (.iastore, 1) := by decide +kernel
theorem dL_isShot_70 : decode cL_isShot 70 = .ok (.iconst 0, 1) := by decide +kernel
theorem dL_isShot_71 : decode cL_isShot 71 = .ok (.istore 8, 2) := by decide +kernel
theorem dL_isShot_73 : decode cL_isShot 73 = .ok (.iload 8, 2) := by decide +kernel
theorem dL_isShot_75 : decode cL_isShot 75 = .ok (.iload 6, 2) := by decide +kernel
theorem dL_isShot_77 : decode cL_isShot 77 = .ok (.if_icmp .ge 50, 3) := by decide +kernel
theorem dL_isShot_80 : decode cL_isShot 80 = .ok (.aload_n 2, 1) := by decide +kernel
theorem dL_isShot_81 : decode cL_isShot 81 = .ok (.iload 7, 2) := by decide +kernel
theorem dL_isShot_83 : decode cL_isShot 83 = .ok (.iaload, 1) := by decide +kernel
theorem dL_isShot_84 : decode cL_isShot 84 = .ok (.ifCond .lt 43, 3) := by decide +kernel
theorem dL_isShot_87 : decode cL_isShot 87 = .ok (.aload_n 2, 1) := by decide +kernel
theorem dL_isShot_88 : decode cL_isShot 88 = .ok (.iload 7, 2) := by decide +kernel
theorem dL_isShot_90 : decode cL_isShot 90 = .ok (.dup2, 1) := by decide +kernel
theorem dL_isShot_91 : decode cL_isShot 91 = .ok (.iaload, 1) := by decide +kernel
theorem dL_isShot_92 : decode cL_isShot 92 = .ok (.aload_n 0, 1) := by decide +kernel
theorem dL_isShot_93 : decode cL_isShot 93 = .ok (.iload 7, 2) := by decide +kernel
theorem dL_isShot_95 : decode cL_isShot 95 = .ok (.iload 7, 2) := by decide +kernel
theorem dL_isShot_97 : decode cL_isShot 97 = .ok (.iconst 2, 1) := by decide +kernel
theorem dL_isShot_98 : decode cL_isShot 98 = .ok (.irem, 1) := by decide +kernel
theorem dL_isShot_99 : decode cL_isShot 99 = .ok (.ifCond .ne 7, 3) := by decide +kernel
theorem dL_isShot_102 : decode cL_isShot 102 = .ok (.iload_n 3, 1) := by decide +kernel
theorem dL_isShot_103 : decode cL_isShot 103 = .ok (.goto 5, 3) := by decide +kernel
theorem dL_isShot_106 : decode cL_isShot 106 = .ok (.iload 4, 2) := by decide +kernel
theorem dL_isShot_108 : decode cL_isShot 108 = .ok (.iload 7, 2) := by decide +kernel
theorem dL_isShot_110 : decode cL_isShot 110 = .ok (.iload 5, 2) := by decide +kernel
theorem dL_isShot_112 : decode cL_isShot 112 = .ok (.imul, 1) := by decide +kernel
theorem dL_isShot_113 : decode cL_isShot 113 = .ok (.iload 8, 2) := by decide +kernel
theorem dL_isShot_115 : decode cL_isShot 115 = .ok (.iadd, 1) := by decide +kernel
theorem dL_isShot_116 : decode cL_isShot 116 = .ok (.invokevirtual 27, 3) := by decide +kernel
theorem dL_isShot_119 : decode cL_isShot 119 = .ok (.iadd, 1) := by decide +kernel
theorem dL_isShot_120 : decode cL_isShot 120 = .ok (.iastore, 1) := by decide +kernel
theorem dL_isShot_121 : decode cL_isShot 121 = .ok (.iinc 8 1, 3) := by decide +kernel
theorem dL_isShot_124 : decode cL_isShot 124 = .ok (.goto (-51), 3) := by decide +kernel
theorem dL_isShot_127 : decode cL_isShot 127 = .ok (.iinc 7 1, 3) := by decide +kernel
theorem dL_isShot_130 : decode cL_isShot 130 = .ok (.goto (-89), 3) := by decide +kernel
theorem dL_isShot_133 : decode cL_isShot 133 = .ok (.aload_n 0, 1) := by decide +kernel
theorem dL_isShot_134 : decode cL_isShot 134 = .ok (.iconst 0, 1) := by decide +kernel
theorem dL_isShot_135 : decode cL_isShot 135 = .ok (.invokevirtual 17, 3) := by decide +kernel
theorem dL_isShot_138 : decode cL_isShot 138 = .ok (.istore 7, 2) := by decide +kernel
theorem dL_isShot_140 : decode cL_isShot 140 = .ok (.aload_n 0, 1) := by decide +kernel
theorem dL_isShot_141 : decode cL_isShot 141 = .ok (.iconst 2, 1) := by decide +kernel
theorem dL_isShot_142 : decode cL_isShot 142 = .ok (.invokevirtual 17, 3) := by decide +kernel
theorem dL_isShot_145 : decode cL_isShot 145 = .ok (.istore 8, 2) := by decide +kernel
theorem dL_isShot_147 : decode cL_isShot 147 = .ok (.aload_n 0, 1) := by decide +kernel
theorem dL_isShot_148 : decode cL_isShot 148 = .ok (.invokevirtual 36, 3) := by decide +kernel
theorem dL_isShot_151 : decode cL_isShot 151 = .ok (.istore 9, 2) := by decide +kernel
theorem dL_isShot_153 : decode cL_isShot 153 = .ok (.iload 9, 2) := by decide +kernel
theorem dL_isShot_155 : decode cL_isShot 155 = .ok (.bipush (-5), 2) := by decide +kernel
theorem dL_isShot_157 : decode cL_isShot 157 = .ok (.if_icmp .ne 36, 3) := by decide +kernel
theorem dL_isShot_160 : decode cL_isShot 160 = .ok (.iload 7, 2) := by decide +kernel
theorem dL_isShot_162 : decode cL_isShot 162 = .ok (.bipush 15, 2) := by decide +kernel
theorem dL_isShot_164 : decode cL_isShot 164 = .ok (.iload 5, 2) := by decide +kernel
theorem dL_isShot_166 : decode cL_isShot 166 = .ok (.imul, 1) := by decide +kernel
theorem dL_isShot_167 : decode cL_isShot 167 = .ok (.iadd, 1) := by decide +kernel
theorem dL_isShot_168 : decode cL_isShot 168 = .ok (.iload 6, 2) := by decide +kernel
theorem dL_isShot_170 : decode cL_isShot 170 = .ok (.iadd, 1) := by decide +kernel
theorem dL_isShot_171 : decode cL_isShot 171 = .ok (.sipush 9999, 3) := by decide +kernel
theorem dL_isShot_174 : decode cL_isShot 174 = .ok (.if_icmp .le 17, 3) := by decide +kernel
theorem dL_isShot_177 : decode cL_isShot 177 = .ok (.aload_n 0, 1) := by decide +kernel
theorem dL_isShot_178 : decode cL_isShot 178 = .ok (.iconst 2, 1) := by decide +kernel
theorem dL_isShot_179 : decode cL_isShot 179 = .ok (.invokevirtual 17, 3) := by decide +kernel
theorem dL_isShot_182 : decode cL_isShot 182 = .ok (.iload 8, 2) := by decide +kernel
theorem dL_isShot_184 : decode cL_isShot 184 = .ok (.if_icmp .ne 7, 3) := by decide +kernel
theorem dL_isShot_187 : decode cL_isShot 187 = .ok (.iconst 1, 1) := by decide +kernel
theorem dL_isShot_188 : decode cL_isShot 188 = .ok (.goto 4, 3) := by decide +kernel
theorem dL_isShot_191 : decode cL_isShot 191 = .ok (.iconst 0, 1) := by decide +kernel
theorem dL_isShot_192 : decode cL_isShot 192 = .ok (.ireturn, 1) := by decide +kernel
theorem dL_isShot_193 : decode cL_isShot 193 = .ok (.iconst 0, 1) := by decide +kernel
theorem dL_isShot_194 : decode cL_isShot 194 = .ok (.istore 10, 2) := by decide +kernel
theorem dL_isShot_196 : decode cL_isShot 196 = .ok (.iconst 0, 1) := by decide +kernel
theorem dL_isShot_197 : decode cL_isShot 197 = .ok (.istore 11, 2) := by decide +kernel
theorem dL_isShot_199 : decode cL_isShot 199 = .ok (.iload 11, 2) := by decide +kernel
theorem dL_isShot_201 : decode cL_isShot 201 = .ok (.bipush 16, 2) := by decide +kernel
theorem dL_isShot_203 : decode cL_isShot 203 = .ok (.if_icmp .ge 56, 3) := by decide +kernel
theorem dL_isShot_206 : decode cL_isShot 206 = .ok (.iload 10, 2) := by decide +kernel
theorem dL_isShot_208 : decode cL_isShot 208 = .ok (.aload_n 0, 1) := by decide +kernel
theorem dL_isShot_209 : decode cL_isShot 209 = .ok (.iload 11, 2) := by decide +kernel
theorem dL_isShot_211 : decode cL_isShot 211 = .ok (.iconst 1, 1) := by decide +kernel
theorem dL_isShot_212 : decode cL_isShot 212 = .ok (.invokevirtual 14, 3) := by decide +kernel
theorem dL_isShot_215 : decode cL_isShot 215 = .ok (.iadd, 1) := by decide +kernel
theorem dL_isShot_216 : decode cL_isShot 216 = .ok (.istore 10, 2) := by decide +kernel
theorem dL_isShot_218 : decode cL_isShot 218 = .ok (.aload_n 2, 1) := by decide +kernel
theorem dL_isShot_219 : decode cL_isShot 219 = .ok (.iload 11, 2) := by decide +kernel
theorem dL_isShot_221 : decode cL_isShot 221 = .ok (.iaload, 1) := by decide +kernel
theorem dL_isShot_222 : decode cL_isShot 222 = .ok (.ifCond .lt 31, 3) := by decide +kernel
theorem dL_isShot_225 : decode cL_isShot 225 = .ok (.aload_n 0, 1) := by decide +kernel
theorem dL_isShot_226 : decode cL_isShot 226 = .ok (.iload 11, 2) := by decide +kernel
theorem dL_isShot_228 : decode cL_isShot 228 = .ok (.iload 11, 2) := by decide +kernel
theorem dL_isShot_230 : decode cL_isShot 230 = .ok (.iconst 2, 1) := by decide +kernel
theorem dL_isShot_231 : decode cL_isShot 231 = .ok (.irem, 1) := by decide +kernel
theorem dL_isShot_232 : decode cL_isShot 232 = .ok (.ifCond .ne 7, 3) := by decide +kernel
theorem dL_isShot_235 : decode cL_isShot 235 = .ok (.iload_n 3, 1) := by decide +kernel
theorem dL_isShot_236 : decode cL_isShot 236 = .ok (.goto 5, 3) := by decide +kernel
theorem dL_isShot_239 : decode cL_isShot 239 = .ok (.iload 4, 2) := by decide +kernel
