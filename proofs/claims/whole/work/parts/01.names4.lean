theorem dX7_thing_33 : decode cX7_thing 33 = .ok (.getfield 10, 3) := by decide +kernel
theorem dX7_thing_36 : decode cX7_thing 36 = .ok (.getfield 72, 3) := by decide +kernel
theorem dX7_thing_39 : decode cX7_thing 39 = .ok (.iload_n 1, 1) := by decide +kernel
theorem dX7_thing_40 : decode cX7_thing 40 = .ok (.iload_n 2, 1) := by decide +kernel
theorem dX7_thing_41 : decode cX7_thing 41 = .ok (.iload_n 3, 1) := by decide +kernel
theorem dX7_thing_42 : decode cX7_thing 42 = .ok (.iload 4, 2) := by decide +kernel
theorem dX7_thing_44 : decode cX7_thing 44 = .ok (.iload 5, 2) := by decide +kernel
theorem dX7_thing_46 : decode cX7_thing 46 = .ok (.aload_n 0, 1) := by decide +kernel
theorem dX7_thing_47 : decode cX7_thing 47 = .ok (.getfield 10, 3) := by decide +kernel
theorem dX7_thing_50 : decode cX7_thing 50 = .ok (.getfield 76, 3) := by decide +kernel
theorem dX7_thing_53 : decode cX7_thing 53 = .ok (.invokevirtual 80, 3) := by decide +kernel
theorem dX7_thing_56 : decode cX7_thing 56 = .ok (.ireturn, 1) := by decide +kernel
set_option maxRecDepth 20000 in
theorem ggX7_speed_X7_isThing : GoodIn wsX7_speed wsX7_isThing := goodIn_r _ [11, 2, 3, 12, 13, 14, 10, 15, 106, 107, 108, 109, 110, 111, 112, 113, 114, 115, 116, 117, 118, 119, 120, 121, 122, 123, 124, 125, 126, 127, 128] (by decide +kernel) (by decide +kernel)
set_option maxRecDepth 20000 in
theorem gX7_speed_X7_isThing : GoodIn wsX7_speed (wsV RX7 86 RX7 yX7_isThing wsX7_isThing) := goodIn_app (goodIn_of _ (by decide +kernel)) ggX7_speed_X7_isThing
set_option maxRecDepth 20000 in
theorem ggX7_speed_X7_isSpeed : GoodIn wsX7_speed wsX7_isSpeed := goodIn_r _ [18, 13, 14, 10, 15] (by decide +kernel) (by decide +kernel)
set_option maxRecDepth 20000 in
theorem gX7_speed_X7_isSpeed : GoodIn wsX7_speed (va_wsS RX7 90 yX7_isSpeed wsX7_isSpeed) := goodIn_app (goodIn_of _ (by decide +kernel)) ggX7_speed_X7_isSpeed
set_option maxRecDepth 20000 in
theorem ggX7_speed_X1_record : GoodIn wsX7_speed wsX1_record := goodIn_r _ [23, 24, 25, 26, 27, 28, 29, 30, 31, 32, 33, 34, 35, 36, 37, 38, 39, 40, 41, 42, 43, 44, 45, 46, 47, 48, 49, 50, 51, 52, 53, 54, 55, 56, 57, 58, 59, 60, 61, 62, 63, 64, 65, 66, 67, 68, 69, 70, 71, 72, 73, 74, 75, 76, 77, 78, 79, 80, 81, 82, 83, 84, 85, 86, 87, 88, 89, 90, 91, 92, 93, 129, 130, 131, 112, 113, 114, 115, 116, 117, 118, 119, 120, 121, 122, 123, 124, 125, 126, 127, 128, 132] (by decide +kernel) (by decide +kernel)
set_option maxRecDepth 20000 in
theorem gX7_speed_X1_record : GoodIn wsX7_speed (wsV RX7 61 RX1 yX1_record wsX1_record) := goodIn_app (goodIn_of _ (by decide +kernel)) ggX7_speed_X1_record
set_option maxRecDepth 20000 in
theorem ggX7_speed_X6_comeAnew : GoodIn wsX7_speed wsX6_comeAnew := goodIn_r _ [97, 68, 67, 66, 69, 70, 98, 99, 100, 48, 101, 87, 102, 103, 104, 105, 119, 120, 121, 122, 123, 124, 125, 126, 127, 128] (by decide +kernel) (by decide +kernel)
set_option maxRecDepth 20000 in
theorem gX7_speed_X6_comeAnew : GoodIn wsX7_speed (wsV RX7 99 RX6 yX6_comeAnew wsX6_comeAnew) := goodIn_app (goodIn_of _ (by decide +kernel)) ggX7_speed_X6_comeAnew
theorem dX7_speed_0 : decode cX7_speed 0 = .ok (.aload_n 0, 1) := by decide +kernel
theorem dX7_speed_1 : decode cX7_speed 1 = .ok (.iload_n 1, 1) := by decide +kernel
theorem dX7_speed_2 : decode cX7_speed 2 = .ok (.invokevirtual 86, 3) := by decide +kernel
theorem dX7_speed_5 : decode cX7_speed 5 = .ok (.ifCond .ne 5, 3) := by decide +kernel
theorem dX7_speed_8 : decode cX7_speed 8 = .ok (.iconst (-1), 1) := by decide +kernel
theorem dX7_speed_9 : decode cX7_speed 9 = .ok (.ireturn, 1) := by decide +kernel
theorem dX7_speed_10 : decode cX7_speed 10 = .ok (.iload_n 2, 1) := by decide +kernel
theorem dX7_speed_11 : decode cX7_speed 11 = .ok (.invokestatic 90, 3) := by decide +kernel
theorem dX7_speed_14 : decode cX7_speed 14 = .ok (.ifCond .ne 6, 3) := by decide +kernel
theorem dX7_speed_17 : decode cX7_speed 17 = .ok (.bipush (-2), 2) := by decide +kernel
theorem dX7_speed_19 : decode cX7_speed 19 = .ok (.ireturn, 1) := by decide +kernel
theorem dX7_speed_20 : decode cX7_speed 20 = .ok (.aload_n 0, 1) := by decide +kernel
theorem dX7_speed_21 : decode cX7_speed 21 = .ok (.getfield 26, 3) := by decide +kernel
theorem dX7_speed_24 : decode cX7_speed 24 = .ok (.aload_n 0, 1) := by decide +kernel
theorem dX7_speed_25 : decode cX7_speed 25 = .ok (.getfield 10, 3) := by decide +kernel
theorem dX7_speed_28 : decode cX7_speed 28 = .ok (.invokevirtual 61, 3) := by decide +kernel
theorem dX7_speed_31 : decode cX7_speed 31 = .ok (.aload_n 0, 1) := by decide +kernel
theorem dX7_speed_32 : decode cX7_speed 32 = .ok (.getfield 10, 3) := by decide +kernel
theorem dX7_speed_35 : decode cX7_speed 35 = .ok (.getfield 72, 3) := by decide +kernel
theorem dX7_speed_38 : decode cX7_speed 38 = .ok (.getfield 93, 3) := by decide +kernel
theorem dX7_speed_41 : decode cX7_speed 41 = .ok (.iload_n 1, 1) := by decide +kernel
theorem dX7_speed_42 : decode cX7_speed 42 = .ok (.iaload, 1) := by decide +kernel
theorem dX7_speed_43 : decode cX7_speed 43 = .ok (.istore_n 3, 1) := by decide +kernel
theorem dX7_speed_44 : decode cX7_speed 44 = .ok (.aload_n 0, 1) := by decide +kernel
theorem dX7_speed_45 : decode cX7_speed 45 = .ok (.getfield 10, 3) := by decide +kernel
theorem dX7_speed_48 : decode cX7_speed 48 = .ok (.getfield 72, 3) := by decide +kernel
theorem dX7_speed_51 : decode cX7_speed 51 = .ok (.iload_n 1, 1) := by decide +kernel
theorem dX7_speed_52 : decode cX7_speed 52 = .ok (.iload_n 2, 1) := by decide +kernel
theorem dX7_speed_53 : decode cX7_speed 53 = .ok (.aload_n 0, 1) := by decide +kernel
theorem dX7_speed_54 : decode cX7_speed 54 = .ok (.getfield 10, 3) := by decide +kernel
theorem dX7_speed_57 : decode cX7_speed 57 = .ok (.getfield 72, 3) := by decide +kernel
theorem dX7_speed_60 : decode cX7_speed 60 = .ok (.getfield 96, 3) := by decide +kernel
theorem dX7_speed_63 : decode cX7_speed 63 = .ok (.iload_n 1, 1) := by decide +kernel
theorem dX7_speed_64 : decode cX7_speed 64 = .ok (.iaload, 1) := by decide +kernel
theorem dX7_speed_65 : decode cX7_speed 65 = .ok (.aload_n 0, 1) := by decide +kernel
theorem dX7_speed_66 : decode cX7_speed 66 = .ok (.getfield 10, 3) := by decide +kernel
theorem dX7_speed_69 : decode cX7_speed 69 = .ok (.getfield 76, 3) := by decide +kernel
theorem dX7_speed_72 : decode cX7_speed 72 = .ok (.invokevirtual 99, 3) := by decide +kernel
theorem dX7_speed_75 : decode cX7_speed 75 = .ok (.iload_n 3, 1) := by decide +kernel
theorem dX7_speed_76 : decode cX7_speed 76 = .ok (.bipush 100, 2) := by decide +kernel
theorem dX7_speed_78 : decode cX7_speed 78 = .ok (.iadd, 1) := by decide +kernel
theorem dX7_speed_79 : decode cX7_speed 79 = .ok (.ireturn, 1) := by decide +kernel
set_option maxRecDepth 20000 in
theorem ggX7_ride_X7_isThing : GoodIn wsX7_ride wsX7_isThing := goodIn_r _ [11, 2, 3, 12, 13, 14, 10, 15, 106, 107, 108, 109, 110, 111, 112, 113, 114, 115, 116, 117, 118, 119, 120, 121, 122, 123, 124, 125, 126, 127, 128] (by decide +kernel) (by decide +kernel)
set_option maxRecDepth 20000 in
theorem gX7_ride_X7_isThing : GoodIn wsX7_ride (wsV RX7 86 RX7 yX7_isThing wsX7_isThing) := goodIn_app (goodIn_of _ (by decide +kernel)) ggX7_ride_X7_isThing
set_option maxRecDepth 20000 in
theorem ggX7_ride_X7_canRide : GoodIn wsX7_ride wsX7_canRide := goodIn_r _ [18, 13, 14, 10, 15] (by decide +kernel) (by decide +kernel)
set_option maxRecDepth 20000 in
theorem gX7_ride_X7_canRide : GoodIn wsX7_ride (va_wsS RX7 103 yX7_canRide wsX7_canRide) := goodIn_app (goodIn_of _ (by decide +kernel)) ggX7_ride_X7_canRide
set_option maxRecDepth 20000 in
theorem ggX7_ride_X1_record : GoodIn wsX7_ride wsX1_record := goodIn_r _ [23, 24, 25, 26, 27, 28, 29, 30, 31, 32, 33, 34, 35, 36, 37, 38, 39, 40, 41, 42, 43, 44, 45, 46, 47, 48, 49, 50, 51, 52, 53, 54, 55, 56, 57, 58, 59, 60, 61, 62, 63, 64, 65, 66, 67, 68, 69, 70, 71, 72, 73, 74, 75, 76, 77, 78, 79, 80, 81, 82, 83, 84, 85, 86, 87, 88, 89, 90, 91, 92, 93, 129, 130, 131, 112, 113, 114, 115, 116, 117, 118, 119, 120, 121, 122, 123, 124, 125, 126, 127, 128, 132] (by decide +kernel) (by decide +kernel)
set_option maxRecDepth 20000 in
theorem gX7_ride_X1_record : GoodIn wsX7_ride (wsV RX7 61 RX1 yX1_record wsX1_record) := goodIn_app (goodIn_of _ (by decide +kernel)) ggX7_ride_X1_record
set_option maxRecDepth 20000 in
theorem ggX7_ride_X6_comeAnew : GoodIn wsX7_ride wsX6_comeAnew := goodIn_r _ [97, 68, 67, 66, 69, 70, 98, 99, 100, 48, 101, 87, 102, 103, 104, 105, 119, 120, 121, 122, 123, 124, 125, 126, 127, 128] (by decide +kernel) (by decide +kernel)
set_option maxRecDepth 20000 in
theorem gX7_ride_X6_comeAnew : GoodIn wsX7_ride (wsV RX7 99 RX6 yX6_comeAnew wsX6_comeAnew) := goodIn_app (goodIn_of _ (by decide +kernel)) ggX7_ride_X6_comeAnew
theorem dX7_ride_0 : decode cX7_ride 0 = .ok (.aload_n 0, 1) := by decide +kernel
theorem dX7_ride_1 : decode cX7_ride 1 = .ok (.iload_n 1, 1) := by decide +kernel
theorem dX7_ride_2 : decode cX7_ride 2 = .ok (.invokevirtual 86, 3) := by decide +kernel
theorem dX7_ride_5 : decode cX7_ride 5 = .ok (.ifCond .ne 5, 3) := by decide +kernel
theorem dX7_ride_8 : decode cX7_ride 8 = .ok (.iconst (-1), 1) := by decide +kernel
theorem dX7_ride_9 : decode cX7_ride 9 = .ok (.ireturn, 1) := by decide +kernel
theorem dX7_ride_10 : decode cX7_ride 10 = .ok (.iload_n 1, 1) := by decide +kernel
theorem dX7_ride_11 : decode cX7_ride 11 = .ok (.iload_n 2, 1) := by decide +kernel
theorem dX7_ride_12 : decode cX7_ride 12 = .ok (.invokestatic 103, 3) := by decide +kernel
theorem dX7_ride_15 : decode cX7_ride 15 = .ok (.ifCond .ne 6, 3) := by decide +kernel
theorem dX7_ride_18 : decode cX7_ride 18 = .ok (.bipush (-2), 2) := by decide +kernel
theorem dX7_ride_20 : decode cX7_ride 20 = .ok (.ireturn, 1) := by decide +kernel
theorem dX7_ride_21 : decode cX7_ride 21 = .ok (.aload_n 0, 1) := by decide +kernel
theorem dX7_ride_22 : decode cX7_ride 22 = .ok (.getfield 26, 3) := by decide +kernel
theorem dX7_ride_25 : decode cX7_ride 25 = .ok (.aload_n 0, 1) := by decide +kernel
theorem dX7_ride_26 : decode cX7_ride 26 = .ok (.getfield 10, 3) := by decide +kernel
theorem dX7_ride_29 : decode cX7_ride 29 = .ok (.invokevirtual 61, 3) := by decide +kernel
theorem dX7_ride_32 : decode cX7_ride 32 = .ok (.aload_n 0, 1) := by decide +kernel
theorem dX7_ride_33 : decode cX7_ride 33 = .ok (.getfield 10, 3) := by decide +kernel
theorem dX7_ride_36 : decode cX7_ride 36 = .ok (.getfield 72, 3) := by decide +kernel
theorem dX7_ride_39 : decode cX7_ride 39 = .ok (.getfield 96, 3) := by decide +kernel
theorem dX7_ride_42 : decode cX7_ride 42 = .ok (.iload_n 1, 1) := by decide +kernel
theorem dX7_ride_43 : decode cX7_ride 43 = .ok (.iaload, 1) := by decide +kernel
theorem dX7_ride_44 : decode cX7_ride 44 = .ok (.istore_n 3, 1) := by decide +kernel
theorem dX7_ride_45 : decode cX7_ride 45 = .ok (.aload_n 0, 1) := by decide +kernel
theorem dX7_ride_46 : decode cX7_ride 46 = .ok (.getfield 10, 3) := by decide +kernel
theorem dX7_ride_49 : decode cX7_ride 49 = .ok (.getfield 72, 3) := by decide +kernel
theorem dX7_ride_52 : decode cX7_ride 52 = .ok (.iload_n 1, 1) := by decide +kernel
theorem dX7_ride_53 : decode cX7_ride 53 = .ok (.aload_n 0, 1) := by decide +kernel
theorem dX7_ride_54 : decode cX7_ride 54 = .ok (.getfield 10, 3) := by decide +kernel
theorem dX7_ride_57 : decode cX7_ride 57 = .ok (.getfield 72, 3) := by decide +kernel
theorem dX7_ride_60 : decode cX7_ride 60 = .ok (.getfield 93, 3) := by decide +kernel
theorem dX7_ride_63 : decode cX7_ride 63 = .ok (.iload_n 1, 1) := by decide +kernel
theorem dX7_ride_64 : decode cX7_ride 64 = .ok (.iaload, 1) := by decide +kernel
theorem dX7_ride_65 : decode cX7_ride 65 = .ok (.iload_n 2, 1) := by decide +kernel
theorem dX7_ride_66 : decode cX7_ride 66 = .ok (.aload_n 0, 1) := by decide +kernel
theorem dX7_ride_67 : decode cX7_ride 67 = .ok (.getfield 10, 3) := by decide +kernel
theorem dX7_ride_70 : decode cX7_ride 70 = .ok (.getfield 76, 3) := by decide +kernel
theorem dX7_ride_73 : decode cX7_ride 73 = .ok (.invokevirtual 99, 3) := by decide +kernel
theorem dX7_ride_76 : decode cX7_ride 76 = .ok (.iload_n 3, 1) := by decide +kernel
theorem dX7_ride_77 : decode cX7_ride 77 = .ok (.ireturn, 1) := by decide +kernel
set_option maxRecDepth 20000 in
theorem ggX7_flash_X7_errorOfFlash : GoodIn wsX7_flash wsX7_errorOfFlash := goodIn_r _ [8, 9, 10, 7, 11] (by decide +kernel) (by decide +kernel)
set_option maxRecDepth 20000 in
theorem gX7_flash_X7_errorOfFlash : GoodIn wsX7_flash (wsV RX7 107 RX7 yX7_errorOfFlash wsX7_errorOfFlash) := goodIn_app (goodIn_of _ (by decide +kernel)) ggX7_flash_X7_errorOfFlash
set_option maxRecDepth 20000 in
theorem ggX7_flash_X1_record : GoodIn wsX7_flash wsX1_record := goodIn_r _ [16, 17, 18, 19, 20, 21, 22, 23, 24, 25, 26, 27, 28, 29, 30, 31, 32, 33, 34, 35, 36, 37, 38, 39, 40, 41, 42, 43, 44, 45, 46, 47, 48, 49, 50, 51, 52, 53, 54, 55, 56, 57, 58, 59, 60, 61, 62, 63, 64, 65, 66, 67, 68, 69, 70, 71, 72, 73, 74, 75, 76, 77, 78, 79, 80, 81, 82, 83, 84, 85, 86, 104, 105, 106, 97, 98, 99, 100, 101, 102, 103, 107, 108, 109, 110, 111, 112, 113, 114, 115, 116, 117] (by decide +kernel) (by decide +kernel)
set_option maxRecDepth 20000 in
theorem gX7_flash_X1_record : GoodIn wsX7_flash (wsV RX7 61 RX1 yX1_record wsX1_record) := goodIn_app (goodIn_of _ (by decide +kernel)) ggX7_flash_X1_record
set_option maxRecDepth 20000 in
theorem ggX7_flash_X5_setFlash : GoodIn wsX7_flash wsX5_setFlash := goodIn_r _ [90, 47, 49, 50, 97, 98, 99, 100, 101, 102, 103] (by decide +kernel) (by decide +kernel)
set_option maxRecDepth 20000 in
theorem gX7_flash_X5_setFlash : GoodIn wsX7_flash (wsV RX7 111 RX5 yX5_setFlash wsX5_setFlash) := goodIn_app (goodIn_of _ (by decide +kernel)) ggX7_flash_X5_setFlash
theorem dX7_flash_0 : decode cX7_flash 0 = .ok (.aload_n 0, 1) := by decide +kernel
theorem dX7_flash_1 : decode cX7_flash 1 = .ok (.iload_n 1, 1) := by decide +kernel
theorem dX7_flash_2 : decode cX7_flash 2 = .ok (.iload_n 2, 1) := by decide +kernel
theorem dX7_flash_3 : decode cX7_flash 3 = .ok (.invokevirtual 107, 3) := by decide +kernel
theorem dX7_flash_6 : decode cX7_flash 6 = .ok (.istore_n 3, 1) := by decide +kernel
theorem dX7_flash_7 : decode cX7_flash 7 = .ok (.iload_n 3, 1) := by decide +kernel
theorem dX7_flash_8 : decode cX7_flash 8 = .ok (.ifCond .eq 5, 3) := by decide +kernel
theorem dX7_flash_11 : decode cX7_flash 11 = .ok (.iload_n 3, 1) := by decide +kernel
theorem dX7_flash_12 : decode cX7_flash 12 = .ok (.ireturn, 1) := by decide +kernel
theorem dX7_flash_13 : decode cX7_flash 13 = .ok (.aload_n 0, 1) := by decide +kernel
theorem dX7_flash_14 : decode cX7_flash 14 = .ok (.getfield 26, 3) := by decide +kernel
theorem dX7_flash_17 : decode cX7_flash 17 = .ok (.aload_n 0, 1) := by decide +kernel
theorem dX7_flash_18 : decode cX7_flash 18 = .ok (.getfield 10, 3) := by decide +kernel
theorem dX7_flash_21 : decode cX7_flash 21 = .ok (.invokevirtual 61, 3) := by decide +kernel
theorem dX7_flash_24 : decode cX7_flash 24 = .ok (.aload_n 0, 1) := by decide +kernel
theorem dX7_flash_25 : decode cX7_flash 25 = .ok (.getfield 10, 3) := by decide +kernel
theorem dX7_flash_28 : decode cX7_flash 28 = .ok (.iload_n 1, 1) := by decide +kernel
theorem dX7_flash_29 : decode cX7_flash 29 = .ok (.iload_n 2, 1) := by decide +kernel
theorem dX7_flash_30 : decode cX7_flash 30 = .ok (.invokevirtual 111, 3) := by decide +kernel
theorem dX7_flash_33 : decode cX7_flash 33 = .ok (.aload_n 0, 1) := by decide +kernel
theorem dX7_flash_34 : decode cX7_flash 34 = .ok (.getfield 10, 3) := by decide +kernel
theorem dX7_flash_37 : decode cX7_flash 37 = .ok (.getfield 115, 3) := by decide +kernel
theorem dX7_flash_40 : decode cX7_flash 40 = .ok (.ireturn, 1) := by decide +kernel
set_option maxRecDepth 20000 in
theorem ggX7_pass_X7_errorOfPass : GoodIn wsX7_pass wsX7_errorOfPass := goodIn_r _ [8, 2, 3, 9, 10, 7, 11, 87, 88, 89, 90, 91, 92, 93, 94, 95, 96, 97, 98, 99] (by decide +kernel) (by decide +kernel)
set_option maxRecDepth 20000 in
theorem gX7_pass_X7_errorOfPass : GoodIn wsX7_pass (wsV RX7 118 RX7 yX7_errorOfPass wsX7_errorOfPass) := goodIn_app (goodIn_of _ (by decide +kernel)) ggX7_pass_X7_errorOfPass
set_option maxRecDepth 20000 in
theorem ggX7_pass_X1_record : GoodIn wsX7_pass wsX1_record := goodIn_r _ [16, 17, 18, 19, 20, 21, 22, 23, 24, 25, 26, 27, 28, 29, 30, 31, 32, 33, 34, 35, 36, 37, 38, 39, 40, 41, 42, 43, 44, 45, 46, 47, 48, 49, 50, 51, 52, 53, 54, 55, 56, 57, 58, 59, 60, 61, 62, 63, 64, 65, 66, 67, 68, 69, 70, 71, 72, 73, 74, 75, 76, 77, 78, 79, 80, 81, 82, 83, 84, 85, 86, 100, 101, 102, 93, 94, 95, 96, 97, 98, 99, 103, 104, 105, 106, 107, 108, 109, 110, 111, 112, 113] (by decide +kernel) (by decide +kernel)
set_option maxRecDepth 20000 in
theorem gX7_pass_X1_record : GoodIn wsX7_pass (wsV RX7 61 RX1 yX1_record wsX1_record) := goodIn_app (goodIn_of _ (by decide +kernel)) ggX7_pass_X1_record
theorem dX7_pass_0 : decode cX7_pass 0 = .ok (.aload_n 0, 1) := by decide +kernel
theorem dX7_pass_1 : decode cX7_pass 1 = .ok (.iload_n 1, 1) := by decide +kernel
theorem dX7_pass_2 : decode cX7_pass 2 = .ok (.invokevirtual 118, 3) := by decide +kernel
theorem dX7_pass_5 : decode cX7_pass 5 = .ok (.istore_n 2, 1) := by decide +kernel
theorem dX7_pass_6 : decode cX7_pass 6 = .ok (.iload_n 2, 1) := by decide +kernel
theorem dX7_pass_7 : decode cX7_pass 7 = .ok (.ifCond .eq 5, 3) := by decide +kernel
theorem dX7_pass_10 : decode cX7_pass 10 = .ok (.iload_n 2, 1) := by decide +kernel
theorem dX7_pass_11 : decode cX7_pass 11 = .ok (.ireturn, 1) := by decide +kernel
theorem dX7_pass_12 : decode cX7_pass 12 = .ok (.aload_n 0, 1) := by decide +kernel
theorem dX7_pass_13 : decode cX7_pass 13 = .ok (.getfield 26, 3) := by decide +kernel
theorem dX7_pass_16 : decode cX7_pass 16 = .ok (.aload_n 0, 1) := by decide +kernel
theorem dX7_pass_17 : decode cX7_pass 17 = .ok (.getfield 10, 3) := by decide +kernel
theorem dX7_pass_20 : decode cX7_pass 20 = .ok (.invokevirtual 61, 3) := by decide +kernel
theorem dX7_pass_23 : decode cX7_pass 23 = .ok (.aload_n 0, 1) := by decide +kernel
theorem dX7_pass_24 : decode cX7_pass 24 = .ok (.getfield 10, 3) := by decide +kernel
theorem dX7_pass_27 : decode cX7_pass 27 = .ok (.dup, 1) := by decide +kernel
theorem dX7_pass_28 : decode cX7_pass 28 = .ok (.getfield 76, 3) := by decide +kernel
theorem dX7_pass_31 : decode cX7_pass 31 = .ok (.iload_n 1, 1) := by decide +kernel
theorem dX7_pass_32 : decode cX7_pass 32 = .ok (.iadd, 1) := by decide +kernel
theorem dX7_pass_33 : decode cX7_pass 33 = .ok (.putfield 76, 3) := by decide +kernel
theorem dX7_pass_36 : decode cX7_pass 36 = .ok (.aload_n 0, 1) := by decide +kernel
theorem dX7_pass_37 : decode cX7_pass 37 = .ok (.getfield 10, 3) := by decide +kernel
theorem dX7_pass_40 : decode cX7_pass 40 = .ok (.getfield 76, 3) := by decide +kernel
theorem dX7_pass_43 : decode cX7_pass 43 = .ok (.ireturn, 1) := by decide +kernel
set_option maxRecDepth 20000 in
theorem ggX7_shoot_X7_errorOfShoot : GoodIn wsX7_shoot wsX7_errorOfShoot := goodIn_r _ [9, 2, 10, 11, 12, 13, 14, 15, 16, 17, 18, 19, 20, 167, 168, 169, 170, 171, 172, 173, 174, 175, 176, 177, 178, 179] (by decide +kernel) (by decide +kernel)
set_option maxRecDepth 20000 in
theorem gX7_shoot_X7_errorOfShoot : GoodIn wsX7_shoot (wsV RX7 122 RX7 yX7_errorOfShoot wsX7_errorOfShoot) := goodIn_app (goodIn_of _ (by decide +kernel)) ggX7_shoot_X7_errorOfShoot
set_option maxRecDepth 20000 in
theorem ggX7_shoot_X1_record : GoodIn wsX7_shoot wsX1_record := goodIn_r _ [25, 26, 27, 28, 29, 13, 30, 31, 32, 33, 34, 35, 36, 37, 38, 39, 40, 41, 42, 43, 44, 45, 15, 46, 47, 48, 49, 50, 51, 52, 53, 20, 54, 55, 56, 57, 58, 59, 60, 61, 62, 63, 64, 65, 66, 67, 68, 69, 70, 71, 72, 73, 74, 75, 76, 77, 78, 79, 80, 81, 82, 83, 84, 85, 86, 87, 88, 89, 90, 91, 92, 180, 181, 182, 173, 174, 175, 176, 177, 178, 179, 183, 184, 185, 186, 187, 188, 189, 190, 191, 192, 193] (by decide +kernel) (by decide +kernel)
set_option maxRecDepth 20000 in
theorem gX7_shoot_X1_record : GoodIn wsX7_shoot (wsV RX7 61 RX1 yX1_record wsX1_record) := goodIn_app (goodIn_of _ (by decide +kernel)) ggX7_shoot_X1_record
set_option maxRecDepth 20000 in
theorem ggX7_shoot_X0_takePicture : GoodIn wsX7_shoot wsX0_takePicture := goodIn_r _ [97, 98, 99, 100, 101, 102, 103, 17, 18, 13, 19, 20, 15, 104, 105, 106, 96, 107, 108, 109, 110, 111, 112, 113, 114, 115, 116, 55, 56, 117, 8, 118, 119, 120, 121, 122, 123, 124, 125, 126, 127, 128, 129, 48, 130, 61, 62, 131, 132, 133, 134, 86, 67, 65, 66, 69, 68, 135, 136, 137, 138, 139, 140, 141, 142, 32, 33, 34, 143, 144, 145, 146, 147, 148, 149, 150, 151, 152, 52, 153, 73, 92, 79, 80, 81, 154, 11, 12, 14, 16, 173, 174, 175, 176, 177, 178, 179, 194, 195, 196, 183, 184, 185, 186, 187, 188, 189, 190, 191, 192, 193] (by decide +kernel) (by decide +kernel)
set_option maxRecDepth 20000 in
theorem gX7_shoot_X0_takePicture : GoodIn wsX7_shoot (wsV RX7 126 RX0 yX0_takePicture wsX0_takePicture) := goodIn_app (goodIn_of _ (by decide +kernel)) ggX7_shoot_X0_takePicture
set_option maxRecDepth 20000 in
theorem ggX7_shoot_X3_sumOfAll : GoodIn wsX7_shoot wsX3_sumOfAll := goodIn_r _ [158, 159, 160, 161, 52, 162, 163, 164, 165, 166, 73, 193] (by decide +kernel) (by decide +kernel)
set_option maxRecDepth 20000 in
theorem gX7_shoot_X3_sumOfAll : GoodIn wsX7_shoot (wsV RX7 133 RX3 yX3_sumOfAll wsX3_sumOfAll) := goodIn_app (goodIn_of _ (by decide +kernel)) ggX7_shoot_X3_sumOfAll
theorem dX7_shoot_0 : decode cX7_shoot 0 = .ok (.aload_n 0, 1) := by decide +kernel
theorem dX7_shoot_1 : decode cX7_shoot 1 = .ok (.invokevirtual 122, 3) := by decide +kernel
theorem dX7_shoot_4 : decode cX7_shoot 4 = .ok (.istore_n 1, 1) := by decide +kernel
theorem dX7_shoot_5 : decode cX7_shoot 5 = .ok (.iload_n 1, 1) := by decide +kernel
theorem dX7_shoot_6 : decode cX7_shoot 6 = .ok (.ifCond .eq 5, 3) := by decide +kernel
theorem dX7_shoot_9 : decode cX7_shoot 9 = .ok (.iload_n 1, 1) := by decide +kernel
theorem dX7_shoot_10 : decode cX7_shoot 10 = .ok (.ireturn, 1) := by decide +kernel
theorem dX7_shoot_11 : decode cX7_shoot 11 = .ok (.aload_n 0, 1) := by decide +kernel
theorem dX7_shoot_12 : decode cX7_shoot 12 = .ok (.getfield 26, 3) := by decide +kernel
theorem dX7_shoot_15 : decode cX7_shoot 15 = .ok (.aload_n 0, 1) := by decide +kernel
theorem dX7_shoot_16 : decode cX7_shoot 16 = .ok (.getfield 10, 3) := by decide +kernel
theorem dX7_shoot_19 : decode cX7_shoot 19 = .ok (.invokevirtual 61, 3) := by decide +kernel
theorem dX7_shoot_22 : decode cX7_shoot 22 = .ok (.aload_n 0, 1) := by decide +kernel
theorem dX7_shoot_23 : decode cX7_shoot 23 = .ok (.getfield 19, 3) := by decide +kernel
theorem dX7_shoot_26 : decode cX7_shoot 26 = .ok (.aload_n 0, 1) := by decide +kernel
theorem dX7_shoot_27 : decode cX7_shoot 27 = .ok (.getfield 10, 3) := by decide +kernel
theorem dX7_shoot_30 : decode cX7_shoot 30 = .ok (.invokevirtual 126, 3) := by decide +kernel
theorem dX7_shoot_33 : decode cX7_shoot 33 = .ok (.aload_n 0, 1) := by decide +kernel
theorem dX7_shoot_34 : decode cX7_shoot 34 = .ok (.getfield 10, 3) := by decide +kernel
theorem dX7_shoot_37 : decode cX7_shoot 37 = .ok (.getfield 129, 3) := by decide +kernel
theorem dX7_shoot_40 : decode cX7_shoot 40 = .ok (.invokevirtual 133, 3) := by decide +kernel
theorem dX7_shoot_43 : decode cX7_shoot 43 = .ok (.ireturn, 1) := by decide +kernel
set_option maxRecDepth 20000 in
theorem ggX7_of_X7_isThing : GoodIn wsX7_of wsX7_isThing := goodIn_r _ [14, 1, 2, 15, 16, 17, 13, 18, 38, 39, 40, 41, 42, 43, 44, 45, 46, 47, 48, 49, 50, 51, 52, 53, 54, 55, 56, 57, 58, 59, 60] (by decide +kernel) (by decide +kernel)
set_option maxRecDepth 20000 in
theorem gX7_of_X7_isThing : GoodIn wsX7_of (wsV RX7 86 RX7 yX7_isThing wsX7_isThing) := goodIn_app (goodIn_of _ (by decide +kernel)) ggX7_of_X7_isThing
set_option maxRecDepth 20000 in
theorem ggX7_of_X6_leftAt : GoodIn wsX7_of wsX6_leftAt := goodIn_r _ [23, 24, 25, 26, 27, 28, 29, 30, 31, 32, 33, 51, 52, 53, 54, 55, 56, 57, 58, 59, 60] (by decide +kernel) (by decide +kernel)
set_option maxRecDepth 20000 in
theorem gX7_of_X6_leftAt : GoodIn wsX7_of (wsV RX7 141 RX6 yX6_leftAt wsX6_leftAt) := goodIn_app (goodIn_of _ (by decide +kernel)) ggX7_of_X6_leftAt
set_option maxRecDepth 20000 in
theorem ggX7_of_X6_speedWithAllUnder : GoodIn wsX7_of wsX6_speedWithAllUnder := goodIn_r _ [37, 24, 26, 29, 51, 52, 53, 54, 55, 56, 57, 58, 59, 60] (by decide +kernel) (by decide +kernel)
set_option maxRecDepth 20000 in
theorem gX7_of_X6_speedWithAllUnder : GoodIn wsX7_of (wsV RX7 153 RX6 yX6_speedWithAllUnder wsX6_speedWithAllUnder) := goodIn_app (goodIn_of _ (by decide +kernel)) ggX7_of_X6_speedWithAllUnder
theorem dX7_of_0 : decode cX7_of 0 = .ok (.aload_n 0, 1) := by decide +kernel
theorem dX7_of_1 : decode cX7_of 1 = .ok (.iload_n 1, 1) := by decide +kernel
theorem dX7_of_2 : decode cX7_of 2 = .ok (.invokevirtual 86, 3) := by decide +kernel
theorem dX7_of_5 : decode cX7_of 5 = .ok (.ifCond .ne 5, 3) := by decide +kernel
theorem dX7_of_8 : decode cX7_of 8 = .ok (.iconst (-1), 1) := by decide +kernel
theorem dX7_of_9 : decode cX7_of 9 = .ok (.ireturn, 1) := by decide +kernel
theorem dX7_of_10 : decode cX7_of 10 = .ok (.aload_n 0, 1) := by decide +kernel
theorem dX7_of_11 : decode cX7_of 11 = .ok (.getfield 10, 3) := by decide +kernel
theorem dX7_of_14 : decode cX7_of 14 = .ok (.getfield 72, 3) := by decide +kernel
theorem dX7_of_17 : decode cX7_of 17 = .ok (.astore_n 3, 1) := by decide +kernel
theorem dX7_of_18 : decode cX7_of 18 = .ok (.iload_n 2, 1) := by decide +kernel
theorem dX7_of_19 : decode cX7_of 19 = .ok (.tableswitch 117 0 7 #[45, 52, 69, 76, 83, 90, 100, 107], 45) := by decide +kernel
theorem dX7_of_64 : decode cX7_of 64 = .ok (.aload_n 3, 1) := by decide +kernel
theorem dX7_of_65 : decode cX7_of 65 = .ok (.getfield 138, 3) := by decide +kernel
theorem dX7_of_68 : decode cX7_of 68 = .ok (.iload_n 1, 1) := by decide +kernel
theorem dX7_of_69 : decode cX7_of 69 = .ok (.iaload, 1) := by decide +kernel
theorem dX7_of_70 : decode cX7_of 70 = .ok (.ireturn, 1) := by decide +kernel
theorem dX7_of_71 : decode cX7_of 71 = .ok (.aload_n 3, 1) := by decide +kernel
theorem dX7_of_72 : decode cX7_of 72 = .ok (.iload_n 1, 1) := by decide +kernel
theorem dX7_of_73 : decode cX7_of 73 = .ok (.aload_n 0, 1) := by decide +kernel
theorem dX7_of_74 : decode cX7_of 74 = .ok (.getfield 10, 3) := by decide +kernel
theorem dX7_of_77 : decode cX7_of 77 = .ok (.getfield 76, 3) := by decide +kernel
theorem dX7_of_80 : decode cX7_of 80 = .ok (.invokevirtual 141, 3) := by decide +kernel
theorem dX7_of_83 : decode cX7_of 83 = .ok (.sipush 1000, 3) := by decide +kernel
theorem dX7_of_86 : decode cX7_of 86 = .ok (.iadd, 1) := by decide +kernel
theorem dX7_of_87 : decode cX7_of 87 = .ok (.ireturn, 1) := by decide +kernel
theorem dX7_of_88 : decode cX7_of 88 = .ok (.aload_n 3, 1) := by decide +kernel
theorem dX7_of_89 : decode cX7_of 89 = .ok (.getfield 144, 3) := by decide +kernel
theorem dX7_of_92 : decode cX7_of 92 = .ok (.iload_n 1, 1) := by decide +kernel
theorem dX7_of_93 : decode cX7_of 93 = .ok (.iaload, 1) := by decide +kernel
theorem dX7_of_94 : decode cX7_of 94 = .ok (.ireturn, 1) := by decide +kernel
theorem dX7_of_95 : decode cX7_of 95 = .ok (.aload_n 3, 1) := by decide +kernel
theorem dX7_of_96 : decode cX7_of 96 = .ok (.getfield 147, 3) := by decide +kernel
theorem dX7_of_99 : decode cX7_of 99 = .ok (.iload_n 1, 1) := by decide +kernel
theorem dX7_of_100 : decode cX7_of 100 = .ok (.iaload, 1) := by decide +kernel
theorem dX7_of_101 : decode cX7_of 101 = .ok (.ireturn, 1) := by decide +kernel
theorem dX7_of_102 : decode cX7_of 102 = .ok (.aload_n 3, 1) := by decide +kernel
theorem dX7_of_103 : decode cX7_of 103 = .ok (.getfield 150, 3) := by decide +kernel
theorem dX7_of_106 : decode cX7_of 106 = .ok (.iload_n 1, 1) := by decide +kernel
theorem dX7_of_107 : decode cX7_of 107 = .ok (.iaload, 1) := by decide +kernel
theorem dX7_of_108 : decode cX7_of 108 = .ok (.ireturn, 1) := by decide +kernel
theorem dX7_of_109 : decode cX7_of 109 = .ok (.aload_n 3, 1) := by decide +kernel
theorem dX7_of_110 : decode cX7_of 110 = .ok (.getfield 93, 3) := by decide +kernel
theorem dX7_of_113 : decode cX7_of 113 = .ok (.iload_n 1, 1) := by decide +kernel
theorem dX7_of_114 : decode cX7_of 114 = .ok (.iaload, 1) := by decide +kernel
theorem dX7_of_115 : decode cX7_of 115 = .ok (.bipush 100, 2) := by decide +kernel
theorem dX7_of_117 : decode cX7_of 117 = .ok (.iadd, 1) := by decide +kernel
theorem dX7_of_118 : decode cX7_of 118 = .ok (.ireturn, 1) := by decide +kernel
theorem dX7_of_119 : decode cX7_of 119 = .ok (.aload_n 3, 1) := by decide +kernel
theorem dX7_of_120 : decode cX7_of 120 = .ok (.getfield 96, 3) := by decide +kernel
theorem dX7_of_123 : decode cX7_of 123 = .ok (.iload_n 1, 1) := by decide +kernel
theorem dX7_of_124 : decode cX7_of 124 = .ok (.iaload, 1) := by decide +kernel
theorem dX7_of_125 : decode cX7_of 125 = .ok (.ireturn, 1) := by decide +kernel
theorem dX7_of_126 : decode cX7_of 126 = .ok (.aload_n 3, 1) := by decide +kernel
theorem dX7_of_127 : decode cX7_of 127 = .ok (.iload_n 1, 1) := by decide +kernel
theorem dX7_of_128 : decode cX7_of 128 = .ok (.invokevirtual 153, 3) := by decide +kernel
theorem dX7_of_131 : decode cX7_of 131 = .ok (.sipush 1000, 3) := by decide +kernel
theorem dX7_of_134 : decode cX7_of 134 = .ok (.iadd, 1) := by decide +kernel
theorem dX7_of_135 : decode cX7_of 135 = .ok (.ireturn, 1) := by decide +kernel
theorem dX7_of_136 : decode cX7_of 136 = .ok (.bipush (-2), 2) := by decide +kernel
theorem dX7_of_138 : decode cX7_of 138 = .ok (.ireturn, 1) := by decide +kernel
set_option maxRecDepth 20000 in
theorem ggX7_pixel_X7_isPlace : GoodIn wsX7_pixel wsX7_isPlace := goodIn_r _ [6, 7, 8, 5, 9] (by decide +kernel) (by decide +kernel)
set_option maxRecDepth 20000 in
theorem gX7_pixel_X7_isPlace : GoodIn wsX7_pixel (va_wsS RX7 156 yX7_isPlace wsX7_isPlace) := goodIn_app (goodIn_of _ (by decide +kernel)) ggX7_pixel_X7_isPlace
set_option maxRecDepth 20000 in
theorem ggX7_pixel_X3_pixelAt : GoodIn wsX7_pixel wsX3_pixelAt := goodIn_r _ [14, 15, 29] (by decide +kernel) (by decide +kernel)
set_option maxRecDepth 20000 in
theorem gX7_pixel_X3_pixelAt : GoodIn wsX7_pixel (wsV RX7 159 RX3 yX3_pixelAt wsX3_pixelAt) := goodIn_app (goodIn_of _ (by decide +kernel)) ggX7_pixel_X3_pixelAt
theorem dX7_pixel_0 : decode cX7_pixel 0 = .ok (.iload_n 1, 1) := by decide +kernel
theorem dX7_pixel_1 : decode cX7_pixel 1 = .ok (.iload_n 2, 1) := by decide +kernel
theorem dX7_pixel_2 : decode cX7_pixel 2 = .ok (.invokestatic 156, 3) := by decide +kernel
theorem dX7_pixel_5 : decode cX7_pixel 5 = .ok (.ifCond .ne 5, 3) := by decide +kernel
theorem dX7_pixel_8 : decode cX7_pixel 8 = .ok (.iconst (-1), 1) := by decide +kernel
theorem dX7_pixel_9 : decode cX7_pixel 9 = .ok (.ireturn, 1) := by decide +kernel
theorem dX7_pixel_10 : decode cX7_pixel 10 = .ok (.aload_n 0, 1) := by decide +kernel
theorem dX7_pixel_11 : decode cX7_pixel 11 = .ok (.getfield 10, 3) := by decide +kernel
theorem dX7_pixel_14 : decode cX7_pixel 14 = .ok (.getfield 129, 3) := by decide +kernel
theorem dX7_pixel_17 : decode cX7_pixel 17 = .ok (.iload_n 1, 1) := by decide +kernel
theorem dX7_pixel_18 : decode cX7_pixel 18 = .ok (.iload_n 2, 1) := by decide +kernel
theorem dX7_pixel_19 : decode cX7_pixel 19 = .ok (.invokevirtual 159, 3) := by decide +kernel
theorem dX7_pixel_22 : decode cX7_pixel 22 = .ok (.ireturn, 1) := by decide +kernel
set_option maxRecDepth 20000 in
theorem ggX7_joined_X7_isPlace : GoodIn wsX7_joined wsX7_isPlace := goodIn_r _ [11, 12, 13, 10, 14] (by decide +kernel) (by decide +kernel)
set_option maxRecDepth 20000 in
theorem gX7_joined_X7_isPlace : GoodIn wsX7_joined (va_wsS RX7 156 yX7_isPlace wsX7_isPlace) := goodIn_app (goodIn_of _ (by decide +kernel)) ggX7_joined_X7_isPlace
set_option maxRecDepth 20000 in
theorem ggX7_joined_X3_pixelAt : GoodIn wsX7_joined wsX3_pixelAt := goodIn_r _ [19, 20, 34] (by decide +kernel) (by decide +kernel)
set_option maxRecDepth 20000 in
theorem gX7_joined_X3_pixelAt : GoodIn wsX7_joined (wsV RX7 159 RX3 yX3_pixelAt wsX3_pixelAt) := goodIn_app (goodIn_of _ (by decide +kernel)) ggX7_joined_X3_pixelAt
theorem dX7_joined_0 : decode cX7_joined 0 = .ok (.aload_n 0, 1) := by decide +kernel
theorem dX7_joined_1 : decode cX7_joined 1 = .ok (.getfield 10, 3) := by decide +kernel
theorem dX7_joined_4 : decode cX7_joined 4 = .ok (.getfield 65, 3) := by decide +kernel
theorem dX7_joined_7 : decode cX7_joined 7 = .ok (.iconst 3, 1) := by decide +kernel
theorem dX7_joined_8 : decode cX7_joined 8 = .ok (.iaload, 1) := by decide +kernel
theorem dX7_joined_9 : decode cX7_joined 9 = .ok (.istore_n 3, 1) := by decide +kernel
theorem dX7_joined_10 : decode cX7_joined 10 = .ok (.iload_n 1, 1) := by decide +kernel
theorem dX7_joined_11 : decode cX7_joined 11 = .ok (.iload_n 2, 1) := by decide +kernel
theorem dX7_joined_12 : decode cX7_joined 12 = .ok (.invokestatic 156, 3) := by decide +kernel
theorem dX7_joined_15 : decode cX7_joined 15 = .ok (.ifCond .eq 11, 3) := by decide +kernel
theorem dX7_joined_18 : decode cX7_joined 18 = .ok (.iload_n 1, 1) := by decide +kernel
theorem dX7_joined_19 : decode cX7_joined 19 = .ok (.iload_n 3, 1) := by decide +kernel
theorem dX7_joined_20 : decode cX7_joined 20 = .ok (.imul, 1) := by decide +kernel
theorem dX7_joined_21 : decode cX7_joined 21 = .ok (.bipush 16, 2) := by decide +kernel
theorem dX7_joined_23 : decode cX7_joined 23 = .ok (.if_icmp .lt 5, 3) := by decide +kernel
theorem dX7_joined_26 : decode cX7_joined 26 = .ok (.iconst (-1), 1) := by decide +kernel
theorem dX7_joined_27 : decode cX7_joined 27 = .ok (.ireturn, 1) := by decide +kernel
theorem dX7_joined_28 : decode cX7_joined 28 = .ok (.bipush 16, 2) := by decide +kernel
theorem dX7_joined_30 : decode cX7_joined 30 = .ok (.iload_n 1, 1) := by decide +kernel
theorem dX7_joined_31 : decode cX7_joined 31 = .ok (.iload_n 3, 1) := by decide +kernel
theorem dX7_joined_32 : decode cX7_joined 32 = .ok (.imul, 1) := by decide +kernel
theorem dX7_joined_33 : decode cX7_joined 33 = .ok (.iload_n 3, 1) := by decide +kernel
theorem dX7_joined_34 : decode cX7_joined 34 = .ok (.iadd, 1) := by decide +kernel
theorem dX7_joined_35 : decode cX7_joined 35 = .ok (.invokestatic 162, 3) := by decide +kernel
theorem dX7_joined_38 : decode cX7_joined 38 = .ok (.istore 4, 2) := by decide +kernel
theorem dX7_joined_40 : decode cX7_joined 40 = .ok (.iconst 0, 1) := by decide +kernel
theorem dX7_joined_41 : decode cX7_joined 41 = .ok (.istore 5, 2) := by decide +kernel
theorem dX7_joined_43 : decode cX7_joined 43 = .ok (.iload_n 1, 1) := by decide +kernel
theorem dX7_joined_44 : decode cX7_joined 44 = .ok (.iload_n 3, 1) := by decide +kernel
theorem dX7_joined_45 : decode cX7_joined 45 = .ok (.imul, 1) := by decide +kernel
theorem dX7_joined_46 : decode cX7_joined 46 = .ok (.istore 6, 2) := by decide +kernel
theorem dX7_joined_48 : decode cX7_joined 48 = .ok (.iload 6, 2) := by decide +kernel
theorem dX7_joined_50 : decode cX7_joined 50 = .ok (.iload 4, 2) := by decide +kernel
theorem dX7_joined_52 : decode cX7_joined 52 = .ok (.if_icmp .ge 27, 3) := by decide +kernel
theorem dX7_joined_55 : decode cX7_joined 55 = .ok (.iload 5, 2) := by decide +kernel
theorem dX7_joined_57 : decode cX7_joined 57 = .ok (.aload_n 0, 1) := by decide +kernel
theorem dX7_joined_58 : decode cX7_joined 58 = .ok (.getfield 10, 3) := by decide +kernel
theorem dX7_joined_61 : decode cX7_joined 61 = .ok (.getfield 129, 3) := by decide +kernel
theorem dX7_joined_64 : decode cX7_joined 64 = .ok (.iload 6, 2) := by decide +kernel
theorem dX7_joined_66 : decode cX7_joined 66 = .ok (.iload_n 2, 1) := by decide +kernel
theorem dX7_joined_67 : decode cX7_joined 67 = .ok (.invokevirtual 159, 3) := by decide +kernel
theorem dX7_joined_70 : decode cX7_joined 70 = .ok (.iadd, 1) := by decide +kernel
theorem dX7_joined_71 : decode cX7_joined 71 = .ok (.istore 5, 2) := by decide +kernel
theorem dX7_joined_73 : decode cX7_joined 73 = .ok (.iinc 6 1, 3) := by decide +kernel
theorem dX7_joined_76 : decode cX7_joined 76 = .ok (.goto (-28), 3) := by decide +kernel
theorem dX7_joined_79 : decode cX7_joined 79 = .ok (.iload 5, 2) := by decide +kernel
theorem dX7_joined_81 : decode cX7_joined 81 = .ok (.ireturn, 1) := by decide +kernel
set_option maxRecDepth 20000 in
theorem ggX7_ofLine_X7_within : GoodIn wsX7_ofLine wsX7_within := goodIn_r _ [6] (by decide +kernel) (by decide +kernel)
set_option maxRecDepth 20000 in
theorem gX7_ofLine_X7_within : GoodIn wsX7_ofLine (va_wsS RX7 50 yX7_within wsX7_within) := goodIn_app (goodIn_of _ (by decide +kernel)) ggX7_ofLine_X7_within
set_option maxRecDepth 20000 in
theorem ggX7_ofLine_X3_columnsNotDark : GoodIn wsX7_ofLine wsX3_columnsNotDark := goodIn_r _ [11, 12, 13, 14, 10, 15, 16, 38] (by decide +kernel) (by decide +kernel)
set_option maxRecDepth 20000 in
theorem gX7_ofLine_X3_columnsNotDark : GoodIn wsX7_ofLine (wsV RX7 167 RX3 yX3_columnsNotDark wsX3_columnsNotDark) := goodIn_app (goodIn_of _ (by decide +kernel)) ggX7_ofLine_X3_columnsNotDark
set_option maxRecDepth 20000 in
theorem ggX7_ofLine_X3_sumOfLine : GoodIn wsX7_ofLine wsX3_sumOfLine := goodIn_r _ [20, 12, 13, 14, 10, 15, 16, 38] (by decide +kernel) (by decide +kernel)
set_option maxRecDepth 20000 in
theorem gX7_ofLine_X3_sumOfLine : GoodIn wsX7_ofLine (wsV RX7 170 RX3 yX3_sumOfLine wsX3_sumOfLine) := goodIn_app (goodIn_of _ (by decide +kernel)) ggX7_ofLine_X3_sumOfLine
set_option maxRecDepth 20000 in
theorem ggX7_ofLine_X3_leftmostNotDark : GoodIn wsX7_ofLine wsX3_leftmostNotDark := goodIn_r _ [24, 12, 13, 14, 10, 15, 16, 38] (by decide +kernel) (by decide +kernel)
set_option maxRecDepth 20000 in
theorem gX7_ofLine_X3_leftmostNotDark : GoodIn wsX7_ofLine (wsV RX7 173 RX3 yX3_leftmostNotDark wsX3_leftmostNotDark) := goodIn_app (goodIn_of _ (by decide +kernel)) ggX7_ofLine_X3_leftmostNotDark
theorem dX7_ofLine_0 : decode cX7_ofLine 0 = .ok (.iload_n 1, 1) := by decide +kernel
theorem dX7_ofLine_1 : decode cX7_ofLine 1 = .ok (.iconst 0, 1) := by decide +kernel
theorem dX7_ofLine_2 : decode cX7_ofLine 2 = .ok (.bipush 15, 2) := by decide +kernel
theorem dX7_ofLine_4 : decode cX7_ofLine 4 = .ok (.invokestatic 50, 3) := by decide +kernel
theorem dX7_ofLine_7 : decode cX7_ofLine 7 = .ok (.ifCond .ne 5, 3) := by decide +kernel
theorem dX7_ofLine_10 : decode cX7_ofLine 10 = .ok (.iconst (-1), 1) := by decide +kernel
theorem dX7_ofLine_11 : decode cX7_ofLine 11 = .ok (.ireturn, 1) := by decide +kernel
theorem dX7_ofLine_12 : decode cX7_ofLine 12 = .ok (.iload_n 2, 1) := by decide +kernel
theorem dX7_ofLine_13 : decode cX7_ofLine 13 = .ok (.tableswitch 63 0 2 #[27, 39, 51], 27) := by decide +kernel
theorem dX7_ofLine_40 : decode cX7_ofLine 40 = .ok (.aload_n 0, 1) := by decide +kernel
theorem dX7_ofLine_41 : decode cX7_ofLine 41 = .ok (.getfield 10, 3) := by decide +kernel
theorem dX7_ofLine_44 : decode cX7_ofLine 44 = .ok (.getfield 129, 3) := by decide +kernel
theorem dX7_ofLine_47 : decode cX7_ofLine 47 = .ok (.iload_n 1, 1) := by decide +kernel
theorem dX7_ofLine_48 : decode cX7_ofLine 48 = .ok (.invokevirtual 167, 3) := by decide +kernel
theorem dX7_ofLine_51 : decode cX7_ofLine 51 = .ok (.ireturn, 1) := by decide +kernel
theorem dX7_ofLine_52 : decode cX7_ofLine 52 = .ok (.aload_n 0, 1) := by decide +kernel
theorem dX7_ofLine_53 : decode cX7_ofLine 53 = .ok (.getfield 10, 3) := by decide +kernel
theorem dX7_ofLine_56 : decode cX7_ofLine 56 = .ok (.getfield 129, 3) := by decide +kernel
theorem dX7_ofLine_59 : decode cX7_ofLine 59 = .ok (.iload_n 1, 1) := by decide +kernel
theorem dX7_ofLine_60 : decode cX7_ofLine 60 = .ok (.invokevirtual 170, 3) := by decide +kernel
theorem dX7_ofLine_63 : decode cX7_ofLine 63 = .ok (.ireturn, 1) := by decide +kernel
theorem dX7_ofLine_64 : decode cX7_ofLine 64 = .ok (.aload_n 0, 1) := by decide +kernel
theorem dX7_ofLine_65 : decode cX7_ofLine 65 = .ok (.getfield 10, 3) := by decide +kernel
theorem dX7_ofLine_68 : decode cX7_ofLine 68 = .ok (.getfield 129, 3) := by decide +kernel
theorem dX7_ofLine_71 : decode cX7_ofLine 71 = .ok (.iload_n 1, 1) := by decide +kernel
theorem dX7_ofLine_72 : decode cX7_ofLine 72 = .ok (.invokevirtual 173, 3) := by decide +kernel
theorem dX7_ofLine_75 : decode cX7_ofLine 75 = .ok (.ireturn, 1) := by decide +kernel
theorem dX7_ofLine_76 : decode cX7_ofLine 76 = .ok (.bipush (-2), 2) := by decide +kernel
theorem dX7_ofLine_78 : decode cX7_ofLine 78 = .ok (.ireturn, 1) := by decide +kernel
set_option maxRecDepth 20000 in
theorem ggX7_count_X3_darkLines : GoodIn wsX7_count wsX3_darkLines := goodIn_r _ [18, 19, 20, 21, 17, 22, 23, 24, 25, 26, 27, 68] (by decide +kernel) (by decide +kernel)
set_option maxRecDepth 20000 in
theorem gX7_count_X3_darkLines : GoodIn wsX7_count (wsV RX7 182 RX3 yX3_darkLines wsX3_darkLines) := goodIn_app (goodIn_of _ (by decide +kernel)) ggX7_count_X3_darkLines
set_option maxRecDepth 20000 in
theorem ggX7_count_X3_brightest : GoodIn wsX7_count wsX3_brightest := goodIn_r _ [31, 32, 33, 34, 35, 23, 24, 25, 17, 26, 27, 68] (by decide +kernel) (by decide +kernel)
set_option maxRecDepth 20000 in
theorem gX7_count_X3_brightest : GoodIn wsX7_count (wsV RX7 185 RX3 yX3_brightest wsX3_brightest) := goodIn_app (goodIn_of _ (by decide +kernel)) ggX7_count_X3_brightest
set_option maxRecDepth 20000 in
theorem ggX7_count_X3_bands : GoodIn wsX7_count wsX3_bands := goodIn_r _ [39, 19, 20, 21, 17, 22, 23, 24, 25, 26, 27, 68] (by decide +kernel) (by decide +kernel)
set_option maxRecDepth 20000 in
theorem gX7_count_X3_bands : GoodIn wsX7_count (wsV RX7 188 RX3 yX3_bands wsX3_bands) := goodIn_app (goodIn_of _ (by decide +kernel)) ggX7_count_X3_bands
theorem dX7_count_0 : decode cX7_count 0 = .ok (.iload_n 1, 1) := by decide +kernel
theorem dX7_count_1 : decode cX7_count 1 = .ok (.tableswitch 203 0 13 #[71, 79, 90, 98, 109, 120, 131, 139, 147, 157, 167, 177, 187, 195], 71) := by decide +kernel
theorem dX7_count_72 : decode cX7_count 72 = .ok (.aload_n 0, 1) := by decide +kernel
theorem dX7_count_73 : decode cX7_count 73 = .ok (.getfield 10, 3) := by decide +kernel
theorem dX7_count_76 : decode cX7_count 76 = .ok (.getfield 76, 3) := by decide +kernel
theorem dX7_count_79 : decode cX7_count 79 = .ok (.ireturn, 1) := by decide +kernel
theorem dX7_count_80 : decode cX7_count 80 = .ok (.aload_n 0, 1) := by decide +kernel
theorem dX7_count_81 : decode cX7_count 81 = .ok (.getfield 10, 3) := by decide +kernel
theorem dX7_count_84 : decode cX7_count 84 = .ok (.getfield 72, 3) := by decide +kernel
theorem dX7_count_87 : decode cX7_count 87 = .ok (.getfield 176, 3) := by decide +kernel
theorem dX7_count_90 : decode cX7_count 90 = .ok (.ireturn, 1) := by decide +kernel
theorem dX7_count_91 : decode cX7_count 91 = .ok (.aload_n 0, 1) := by decide +kernel
theorem dX7_count_92 : decode cX7_count 92 = .ok (.getfield 10, 3) := by decide +kernel
theorem dX7_count_95 : decode cX7_count 95 = .ok (.getfield 179, 3) := by decide +kernel
theorem dX7_count_98 : decode cX7_count 98 = .ok (.ireturn, 1) := by decide +kernel
theorem dX7_count_99 : decode cX7_count 99 = .ok (.aload_n 0, 1) := by decide +kernel
theorem dX7_count_100 : decode cX7_count 100 = .ok (.getfield 10, 3) := by decide +kernel
theorem dX7_count_103 : decode cX7_count 103 = .ok (.getfield 129, 3) := by decide +kernel
theorem dX7_count_106 : decode cX7_count 106 = .ok (.invokevirtual 182, 3) := by decide +kernel
theorem dX7_count_109 : decode cX7_count 109 = .ok (.ireturn, 1) := by decide +kernel
theorem dX7_count_110 : decode cX7_count 110 = .ok (.aload_n 0, 1) := by decide +kernel
theorem dX7_count_111 : decode cX7_count 111 = .ok (.getfield 10, 3) := by decide +kernel
theorem dX7_count_114 : decode cX7_count 114 = .ok (.getfield 129, 3) := by decide +kernel
theorem dX7_count_117 : decode cX7_count 117 = .ok (.invokevirtual 185, 3) := by decide +kernel
theorem dX7_count_120 : decode cX7_count 120 = .ok (.ireturn, 1) := by decide +kernel
theorem dX7_count_121 : decode cX7_count 121 = .ok (.aload_n 0, 1) := by decide +kernel
theorem dX7_count_122 : decode cX7_count 122 = .ok (.getfield 10, 3) := by decide +kernel
theorem dX7_count_125 : decode cX7_count 125 = .ok (.getfield 129, 3) := by decide +kernel
theorem dX7_count_128 : decode cX7_count 128 = .ok (.invokevirtual 188, 3) := by decide +kernel
theorem dX7_count_131 : decode cX7_count 131 = .ok (.ireturn, 1) := by decide +kernel
theorem dX7_count_132 : decode cX7_count 132 = .ok (.aload_n 0, 1) := by decide +kernel
theorem dX7_count_133 : decode cX7_count 133 = .ok (.getfield 10, 3) := by decide +kernel
theorem dX7_count_136 : decode cX7_count 136 = .ok (.getfield 115, 3) := by decide +kernel
theorem dX7_count_139 : decode cX7_count 139 = .ok (.ireturn, 1) := by decide +kernel
theorem dX7_count_140 : decode cX7_count 140 = .ok (.aload_n 0, 1) := by decide +kernel
theorem dX7_count_141 : decode cX7_count 141 = .ok (.getfield 10, 3) := by decide +kernel
theorem dX7_count_144 : decode cX7_count 144 = .ok (.getfield 191, 3) := by decide +kernel
theorem dX7_count_147 : decode cX7_count 147 = .ok (.ireturn, 1) := by decide +kernel
theorem dX7_count_148 : decode cX7_count 148 = .ok (.aload_n 0, 1) := by decide +kernel
theorem dX7_count_149 : decode cX7_count 149 = .ok (.getfield 10, 3) := by decide +kernel
theorem dX7_count_152 : decode cX7_count 152 = .ok (.getfield 65, 3) := by decide +kernel
theorem dX7_count_155 : decode cX7_count 155 = .ok (.iconst 0, 1) := by decide +kernel
theorem dX7_count_156 : decode cX7_count 156 = .ok (.iaload, 1) := by decide +kernel
theorem dX7_count_157 : decode cX7_count 157 = .ok (.ireturn, 1) := by decide +kernel
theorem dX7_count_158 : decode cX7_count 158 = .ok (.aload_n 0, 1) := by decide +kernel
theorem dX7_count_159 : decode cX7_count 159 = .ok (.getfield 10, 3) := by decide +kernel
theorem dX7_count_162 : decode cX7_count 162 = .ok (.getfield 65, 3) := by decide +kernel
theorem dX7_count_165 : decode cX7_count 165 = .ok (.iconst 1, 1) := by decide +kernel
theorem dX7_count_166 : decode cX7_count 166 = .ok (.iaload, 1) := by decide +kernel
theorem dX7_count_167 : decode cX7_count 167 = .ok (.ireturn, 1) := by decide +kernel
theorem dX7_count_168 : decode cX7_count 168 = .ok (.aload_n 0, 1) := by decide +kernel
theorem dX7_count_169 : decode cX7_count 169 = .ok (.getfield 10, 3) := by decide +kernel
theorem dX7_count_172 : decode cX7_count 172 = .ok (.getfield 65, 3) := by decide +kernel
theorem dX7_count_175 : decode cX7_count 175 = .ok (.iconst 2, 1) := by decide +kernel
theorem dX7_count_176 : decode cX7_count 176 = .ok (.iaload, 1) := by decide +kernel
theorem dX7_count_177 : decode cX7_count 177 = .ok (.ireturn, 1) := by decide +kernel
theorem dX7_count_178 : decode cX7_count 178 = .ok (.aload_n 0, 1) := by decide +kernel
theorem dX7_count_179 : decode cX7_count 179 = .ok (.getfield 10, 3) := by decide +kernel
theorem dX7_count_182 : decode cX7_count 182 = .ok (.getfield 65, 3) := by decide +kernel
theorem dX7_count_185 : decode cX7_count 185 = .ok (.iconst 3, 1) := by decide +kernel
theorem dX7_count_186 : decode cX7_count 186 = .ok (.iaload, 1) := by decide +kernel
theorem dX7_count_187 : decode cX7_count 187 = .ok (.ireturn, 1) := by decide +kernel
theorem dX7_count_188 : decode cX7_count 188 = .ok (.aload_n 0, 1) := by decide +kernel
theorem dX7_count_189 : decode cX7_count 189 = .ok (.getfield 37, 3) := by decide +kernel
theorem dX7_count_192 : decode cX7_count 192 = .ok (.getfield 194, 3) := by decide +kernel
theorem dX7_count_195 : decode cX7_count 195 = .ok (.ireturn, 1) := by decide +kernel
theorem dX7_count_196 : decode cX7_count 196 = .ok (.aload_n 0, 1) := by decide +kernel
theorem dX7_count_197 : decode cX7_count 197 = .ok (.getfield 26, 3) := by decide +kernel
theorem dX7_count_200 : decode cX7_count 200 = .ok (.getfield 197, 3) := by decide +kernel
theorem dX7_count_203 : decode cX7_count 203 = .ok (.ireturn, 1) := by decide +kernel
theorem dX7_count_204 : decode cX7_count 204 = .ok (.bipush (-2), 2) := by decide +kernel
theorem dX7_count_206 : decode cX7_count 206 = .ok (.ireturn, 1) := by decide +kernel
set_option maxRecDepth 20000 in
theorem ggX7_seen_X7_isPlace : GoodIn wsX7_seen wsX7_isPlace := goodIn_r _ [7, 8, 9, 6, 10] (by decide +kernel) (by decide +kernel)
set_option maxRecDepth 20000 in
theorem gX7_seen_X7_isPlace : GoodIn wsX7_seen (va_wsS RX7 156 yX7_isPlace wsX7_isPlace) := goodIn_app (goodIn_of _ (by decide +kernel)) ggX7_seen_X7_isPlace
set_option maxRecDepth 20000 in
theorem ggX7_seen_X7_within : GoodIn wsX7_seen wsX7_within := goodIn_r _ [10] (by decide +kernel) (by decide +kernel)
set_option maxRecDepth 20000 in
theorem gX7_seen_X7_within : GoodIn wsX7_seen (va_wsS RX7 50 yX7_within wsX7_within) := goodIn_app (goodIn_of _ (by decide +kernel)) ggX7_seen_X7_within
set_option maxRecDepth 20000 in
theorem ggX7_seen_X0_brightnessAt : GoodIn wsX7_seen wsX0_brightnessAt := goodIn_r _ [15, 16, 17, 18, 19, 14, 20, 21, 22, 23, 24, 25, 26, 27, 28, 29, 30, 31, 32, 33, 9, 6, 10, 34, 35, 36, 37, 38, 39, 40, 41, 42, 43, 44, 45, 46, 47, 48, 49, 50, 51, 52, 53, 54, 55, 56, 57, 58, 59, 60, 61, 62, 63, 64, 65, 66, 67, 68, 69, 70, 71, 72, 73, 74, 75, 76, 90, 91, 92, 83, 84, 85, 86, 87, 88, 89, 93, 94, 95, 96, 97, 98, 99, 100, 101, 102] (by decide +kernel) (by decide +kernel)
set_option maxRecDepth 20000 in
theorem gX7_seen_X0_brightnessAt : GoodIn wsX7_seen (wsV RX7 198 RX0 yX0_brightnessAt wsX0_brightnessAt) := goodIn_app (goodIn_of _ (by decide +kernel)) ggX7_seen_X0_brightnessAt
theorem dX7_seen_0 : decode cX7_seen 0 = .ok (.iload_n 1, 1) := by decide +kernel
theorem dX7_seen_1 : decode cX7_seen 1 = .ok (.iload_n 2, 1) := by decide +kernel
theorem dX7_seen_2 : decode cX7_seen 2 = .ok (.invokestatic 156, 3) := by decide +kernel
theorem dX7_seen_5 : decode cX7_seen 5 = .ok (.ifCond .ne 5, 3) := by decide +kernel
theorem dX7_seen_8 : decode cX7_seen 8 = .ok (.iconst (-1), 1) := by decide +kernel
theorem dX7_seen_9 : decode cX7_seen 9 = .ok (.ireturn, 1) := by decide +kernel
theorem dX7_seen_10 : decode cX7_seen 10 = .ok (.iload_n 3, 1) := by decide +kernel
theorem dX7_seen_11 : decode cX7_seen 11 = .ok (.iconst 0, 1) := by decide +kernel
theorem dX7_seen_12 : decode cX7_seen 12 = .ok (.bipush 99, 2) := by decide +kernel
theorem dX7_seen_14 : decode cX7_seen 14 = .ok (.invokestatic 50, 3) := by decide +kernel
theorem dX7_seen_17 : decode cX7_seen 17 = .ok (.ifCond .ne 6, 3) := by decide +kernel
theorem dX7_seen_20 : decode cX7_seen 20 = .ok (.bipush (-2), 2) := by decide +kernel
theorem dX7_seen_22 : decode cX7_seen 22 = .ok (.ireturn, 1) := by decide +kernel
theorem dX7_seen_23 : decode cX7_seen 23 = .ok (.aload_n 0, 1) := by decide +kernel
theorem dX7_seen_24 : decode cX7_seen 24 = .ok (.getfield 19, 3) := by decide +kernel
theorem dX7_seen_27 : decode cX7_seen 27 = .ok (.aload_n 0, 1) := by decide +kernel
theorem dX7_seen_28 : decode cX7_seen 28 = .ok (.getfield 10, 3) := by decide +kernel
theorem dX7_seen_31 : decode cX7_seen 31 = .ok (.iload_n 1, 1) := by decide +kernel
theorem dX7_seen_32 : decode cX7_seen 32 = .ok (.iload_n 2, 1) := by decide +kernel
theorem dX7_seen_33 : decode cX7_seen 33 = .ok (.aload_n 0, 1) := by decide +kernel
theorem dX7_seen_34 : decode cX7_seen 34 = .ok (.getfield 10, 3) := by decide +kernel
theorem dX7_seen_37 : decode cX7_seen 37 = .ok (.getfield 76, 3) := by decide +kernel
theorem dX7_seen_40 : decode cX7_seen 40 = .ok (.iload_n 3, 1) := by decide +kernel
theorem dX7_seen_41 : decode cX7_seen 41 = .ok (.iadd, 1) := by decide +kernel
theorem dX7_seen_42 : decode cX7_seen 42 = .ok (.invokevirtual 198, 3) := by decide +kernel
theorem dX7_seen_45 : decode cX7_seen 45 = .ok (.ireturn, 1) := by decide +kernel
set_option maxRecDepth 20000 in
theorem ggX7_leans_X7_isThing : GoodIn wsX7_leans wsX7_isThing := goodIn_r _ [9, 1, 2, 10, 11, 12, 8, 13, 36, 37, 38, 39, 40, 41, 42, 43, 44, 45, 46, 47, 48, 49, 50, 51, 52, 53, 54, 55, 56, 57, 58] (by decide +kernel) (by decide +kernel)
set_option maxRecDepth 20000 in
theorem gX7_leans_X7_isThing : GoodIn wsX7_leans (wsV RX7 86 RX7 yX7_isThing wsX7_isThing) := goodIn_app (goodIn_of _ (by decide +kernel)) ggX7_leans_X7_isThing
set_option maxRecDepth 20000 in
theorem ggX7_leans_X5_beginOf : GoodIn wsX7_leans wsX5_beginOf := goodIn_r _ [18, 19, 20, 42, 43, 44, 45, 46, 47, 48] (by decide +kernel) (by decide +kernel)
set_option maxRecDepth 20000 in
theorem gX7_leans_X5_beginOf : GoodIn wsX7_leans (wsV RX7 202 RX5 yX5_beginOf wsX5_beginOf) := goodIn_app (goodIn_of _ (by decide +kernel)) ggX7_leans_X5_beginOf
set_option maxRecDepth 20000 in
theorem ggX7_leans_X6_leftAt : GoodIn wsX7_leans wsX6_leftAt := goodIn_r _ [25, 26, 27, 28, 29, 30, 31, 32, 33, 34, 35, 49, 50, 51, 52, 53, 54, 55, 56, 57, 58] (by decide +kernel) (by decide +kernel)
set_option maxRecDepth 20000 in
theorem gX7_leans_X6_leftAt : GoodIn wsX7_leans (wsV RX7 141 RX6 yX6_leftAt wsX6_leftAt) := goodIn_app (goodIn_of _ (by decide +kernel)) ggX7_leans_X6_leftAt
theorem dX7_leans_0 : decode cX7_leans 0 = .ok (.aload_n 0, 1) := by decide +kernel
theorem dX7_leans_1 : decode cX7_leans 1 = .ok (.iload_n 1, 1) := by decide +kernel
theorem dX7_leans_2 : decode cX7_leans 2 = .ok (.invokevirtual 86, 3) := by decide +kernel
theorem dX7_leans_5 : decode cX7_leans 5 = .ok (.ifCond .ne 5, 3) := by decide +kernel
theorem dX7_leans_8 : decode cX7_leans 8 = .ok (.iconst (-1), 1) := by decide +kernel
theorem dX7_leans_9 : decode cX7_leans 9 = .ok (.ireturn, 1) := by decide +kernel
theorem dX7_leans_10 : decode cX7_leans 10 = .ok (.aload_n 0, 1) := by decide +kernel
theorem dX7_leans_11 : decode cX7_leans 11 = .ok (.getfield 10, 3) := by decide +kernel
theorem dX7_leans_14 : decode cX7_leans 14 = .ok (.getfield 72, 3) := by decide +kernel
theorem dX7_leans_17 : decode cX7_leans 17 = .ok (.astore_n 2, 1) := by decide +kernel
theorem dX7_leans_18 : decode cX7_leans 18 = .ok (.aload_n 2, 1) := by decide +kernel
theorem dX7_leans_19 : decode cX7_leans 19 = .ok (.getfield 138, 3) := by decide +kernel
theorem dX7_leans_22 : decode cX7_leans 22 = .ok (.iload_n 1, 1) := by decide +kernel
theorem dX7_leans_23 : decode cX7_leans 23 = .ok (.iaload, 1) := by decide +kernel
theorem dX7_leans_24 : decode cX7_leans 24 = .ok (.istore_n 3, 1) := by decide +kernel
theorem dX7_leans_25 : decode cX7_leans 25 = .ok (.iload_n 3, 1) := by decide +kernel
theorem dX7_leans_26 : decode cX7_leans 26 = .ok (.aload_n 2, 1) := by decide +kernel
theorem dX7_leans_27 : decode cX7_leans 27 = .ok (.getfield 144, 3) := by decide +kernel
theorem dX7_leans_30 : decode cX7_leans 30 = .ok (.iload_n 1, 1) := by decide +kernel
theorem dX7_leans_31 : decode cX7_leans 31 = .ok (.iaload, 1) := by decide +kernel
theorem dX7_leans_32 : decode cX7_leans 32 = .ok (.iadd, 1) := by decide +kernel
theorem dX7_leans_33 : decode cX7_leans 33 = .ok (.iconst 1, 1) := by decide +kernel
theorem dX7_leans_34 : decode cX7_leans 34 = .ok (.isub, 1) := by decide +kernel
theorem dX7_leans_35 : decode cX7_leans 35 = .ok (.istore 4, 2) := by decide +kernel
theorem dX7_leans_37 : decode cX7_leans 37 = .ok (.aload_n 2, 1) := by decide +kernel
theorem dX7_leans_38 : decode cX7_leans 38 = .ok (.iload_n 1, 1) := by decide +kernel
theorem dX7_leans_39 : decode cX7_leans 39 = .ok (.aload_n 0, 1) := by decide +kernel
theorem dX7_leans_40 : decode cX7_leans 40 = .ok (.getfield 10, 3) := by decide +kernel
theorem dX7_leans_43 : decode cX7_leans 43 = .ok (.iload_n 3, 1) := by decide +kernel
theorem dX7_leans_44 : decode cX7_leans 44 = .ok (.invokevirtual 202, 3) := by decide +kernel
theorem dX7_leans_47 : decode cX7_leans 47 = .ok (.invokevirtual 141, 3) := by decide +kernel
theorem dX7_leans_50 : decode cX7_leans 50 = .ok (.istore 5, 2) := by decide +kernel
theorem dX7_leans_52 : decode cX7_leans 52 = .ok (.aload_n 2, 1) := by decide +kernel
theorem dX7_leans_53 : decode cX7_leans 53 = .ok (.iload_n 1, 1) := by decide +kernel
theorem dX7_leans_54 : decode cX7_leans 54 = .ok (.aload_n 0, 1) := by decide +kernel
theorem dX7_leans_55 : decode cX7_leans 55 = .ok (.getfield 10, 3) := by decide +kernel
theorem dX7_leans_58 : decode cX7_leans 58 = .ok (.iload 4, 2) := by decide +kernel
theorem dX7_leans_60 : decode cX7_leans 60 = .ok (.invokevirtual 202, 3) := by decide +kernel
theorem dX7_leans_63 : decode cX7_leans 63 = .ok (.invokevirtual 141, 3) := by decide +kernel
theorem dX7_leans_66 : decode cX7_leans 66 = .ok (.iload 5, 2) := by decide +kernel
theorem dX7_leans_68 : decode cX7_leans 68 = .ok (.isub, 1) := by decide +kernel
theorem dX7_leans_69 : decode cX7_leans 69 = .ok (.sipush 1000, 3) := by decide +kernel
theorem dX7_leans_72 : decode cX7_leans 72 = .ok (.iadd, 1) := by decide +kernel
theorem dX7_leans_73 : decode cX7_leans 73 = .ok (.ireturn, 1) := by decide +kernel
set_option maxRecDepth 20000 in
theorem ggX7_bent_X0_pixelsBent : GoodIn wsX7_bent wsX0_pixelsBent := goodIn_r _ [7, 8, 9, 10, 11, 12, 13, 14, 15, 16, 17, 18, 19, 20, 21, 6, 22, 23, 24, 25, 26, 27, 28, 29, 30, 31, 32, 33, 34, 35, 36, 37, 38, 39, 40, 41, 42, 43, 44, 45, 46, 47, 48, 49, 50, 51, 52, 53, 54, 55, 56, 57, 58, 59, 60, 61, 62, 63, 64, 65, 66, 67, 68, 69, 70, 71, 72, 73, 74, 75, 76, 77, 78, 79, 86, 87, 88, 89, 90, 91, 92, 93, 94, 95, 96, 97, 98, 99, 100, 101, 102, 103, 104, 105] (by decide +kernel) (by decide +kernel)
set_option maxRecDepth 20000 in
theorem gX7_bent_X0_pixelsBent : GoodIn wsX7_bent (wsV RX7 205 RX0 yX0_pixelsBent wsX0_pixelsBent) := goodIn_app (goodIn_of _ (by decide +kernel)) ggX7_bent_X0_pixelsBent
theorem dX7_bent_0 : decode cX7_bent 0 = .ok (.aload_n 0, 1) := by decide +kernel
theorem dX7_bent_1 : decode cX7_bent 1 = .ok (.getfield 19, 3) := by decide +kernel
theorem dX7_bent_4 : decode cX7_bent 4 = .ok (.aload_n 0, 1) := by decide +kernel
theorem dX7_bent_5 : decode cX7_bent 5 = .ok (.getfield 10, 3) := by decide +kernel
theorem dX7_bent_8 : decode cX7_bent 8 = .ok (.invokevirtual 205, 3) := by decide +kernel
theorem dX7_bent_11 : decode cX7_bent 11 = .ok (.ireturn, 1) := by decide +kernel
set_option maxRecDepth 20000 in
theorem ggX7_flashed_X5_linesFlashed : GoodIn wsX7_flashed wsX5_linesFlashed := goodIn_r _ [8, 9, 10, 11, 12, 7, 13, 14, 21, 22, 23, 24, 25, 26, 27] (by decide +kernel) (by decide +kernel)
set_option maxRecDepth 20000 in
theorem gX7_flashed_X5_linesFlashed : GoodIn wsX7_flashed (wsV RX7 209 RX5 yX5_linesFlashed wsX5_linesFlashed) := goodIn_app (goodIn_of _ (by decide +kernel)) ggX7_flashed_X5_linesFlashed
theorem dX7_flashed_0 : decode cX7_flashed 0 = .ok (.aload_n 0, 1) := by decide +kernel
theorem dX7_flashed_1 : decode cX7_flashed 1 = .ok (.getfield 10, 3) := by decide +kernel
theorem dX7_flashed_4 : decode cX7_flashed 4 = .ok (.aload_n 0, 1) := by decide +kernel
theorem dX7_flashed_5 : decode cX7_flashed 5 = .ok (.getfield 10, 3) := by decide +kernel
theorem dX7_flashed_8 : decode cX7_flashed 8 = .ok (.getfield 115, 3) := by decide +kernel
theorem dX7_flashed_11 : decode cX7_flashed 11 = .ok (.aload_n 0, 1) := by decide +kernel
theorem dX7_flashed_12 : decode cX7_flashed 12 = .ok (.getfield 10, 3) := by decide +kernel
theorem dX7_flashed_15 : decode cX7_flashed 15 = .ok (.getfield 191, 3) := by decide +kernel
theorem dX7_flashed_18 : decode cX7_flashed 18 = .ok (.invokevirtual 209, 3) := by decide +kernel
theorem dX7_flashed_21 : decode cX7_flashed 21 = .ok (.ireturn, 1) := by decide +kernel
set_option maxRecDepth 20000 in
theorem ggX7_bestFlash_X7_within : GoodIn wsX7_bestFlash wsX7_within := goodIn_r _ [6] (by decide +kernel) (by decide +kernel)
set_option maxRecDepth 20000 in
theorem gX7_bestFlash_X7_within : GoodIn wsX7_bestFlash (va_wsS RX7 50 yX7_within wsX7_within) := goodIn_app (goodIn_of _ (by decide +kernel)) ggX7_bestFlash_X7_within
set_option maxRecDepth 20000 in
theorem ggX7_bestFlash_X5_linesFlashed : GoodIn wsX7_bestFlash wsX5_linesFlashed := goodIn_r _ [11, 12, 13, 14, 15, 10, 16, 17, 31, 32, 33, 34, 35, 36, 37] (by decide +kernel) (by decide +kernel)
set_option maxRecDepth 20000 in
theorem gX7_bestFlash_X5_linesFlashed : GoodIn wsX7_bestFlash (wsV RX7 209 RX5 yX5_linesFlashed wsX5_linesFlashed) := goodIn_app (goodIn_of _ (by decide +kernel)) ggX7_bestFlash_X5_linesFlashed
set_option maxRecDepth 20000 in
theorem ggX7_bestFlash_J6_bitCount_0f7a4 : GoodIn wsX7_bestFlash wsJ6_bitCount_0f7a4 := goodIn_r _ [21, 22, 23, 24] (by decide +kernel) (by decide +kernel)
set_option maxRecDepth 20000 in
theorem gX7_bestFlash_J6_bitCount_0f7a4 : GoodIn wsX7_bestFlash (va_wsS RX7 212 yJ6_bitCount_0f7a4 wsJ6_bitCount_0f7a4) := goodIn_app (goodIn_of _ (by decide +kernel)) ggX7_bestFlash_J6_bitCount_0f7a4
theorem dX7_bestFlash_0 : decode cX7_bestFlash 0 = .ok (.iload_n 1, 1) := by decide +kernel
theorem dX7_bestFlash_1 : decode cX7_bestFlash 1 = .ok (.iconst 1, 1) := by decide +kernel
theorem dX7_bestFlash_2 : decode cX7_bestFlash 2 = .ok (.bipush 20, 2) := by decide +kernel
theorem dX7_bestFlash_4 : decode cX7_bestFlash 4 = .ok (.invokestatic 50, 3) := by decide +kernel
theorem dX7_bestFlash_7 : decode cX7_bestFlash 7 = .ok (.ifCond .eq 12, 3) := by decide +kernel
theorem dX7_bestFlash_10 : decode cX7_bestFlash 10 = .ok (.iload_n 2, 1) := by decide +kernel
theorem dX7_bestFlash_11 : decode cX7_bestFlash 11 = .ok (.iconst 0, 1) := by decide +kernel
theorem dX7_bestFlash_12 : decode cX7_bestFlash 12 = .ok (.iconst 1, 1) := by decide +kernel
theorem dX7_bestFlash_13 : decode cX7_bestFlash 13 = .ok (.invokestatic 50, 3) := by decide +kernel
theorem dX7_bestFlash_16 : decode cX7_bestFlash 16 = .ok (.ifCond .ne 6, 3) := by decide +kernel
theorem dX7_bestFlash_19 : decode cX7_bestFlash 19 = .ok (.bipush (-2), 2) := by decide +kernel
theorem dX7_bestFlash_21 : decode cX7_bestFlash 21 = .ok (.ireturn, 1) := by decide +kernel
theorem dX7_bestFlash_22 : decode cX7_bestFlash 22 = .ok (.iconst 0, 1) := by decide +kernel
theorem dX7_bestFlash_23 : decode cX7_bestFlash 23 = .ok (.istore_n 3, 1) := by decide +kernel
theorem dX7_bestFlash_24 : decode cX7_bestFlash 24 = .ok (.iconst 0, 1) := by decide +kernel
theorem dX7_bestFlash_25 : decode cX7_bestFlash 25 = .ok (.istore 4, 2) := by decide +kernel
theorem dX7_bestFlash_27 : decode cX7_bestFlash 27 = .ok (.iconst 0, 1) := by decide +kernel
theorem dX7_bestFlash_28 : decode cX7_bestFlash 28 = .ok (.istore 5, 2) := by decide +kernel
theorem dX7_bestFlash_30 : decode cX7_bestFlash 30 = .ok (.iload 5, 2) := by decide +kernel
theorem dX7_bestFlash_32 : decode cX7_bestFlash 32 = .ok (.bipush 99, 2) := by decide +kernel
theorem dX7_bestFlash_34 : decode cX7_bestFlash 34 = .ok (.if_icmp .gt 46, 3) := by decide +kernel
theorem dX7_bestFlash_37 : decode cX7_bestFlash 37 = .ok (.aload_n 0, 1) := by decide +kernel
theorem dX7_bestFlash_38 : decode cX7_bestFlash 38 = .ok (.getfield 10, 3) := by decide +kernel
theorem dX7_bestFlash_41 : decode cX7_bestFlash 41 = .ok (.aload_n 0, 1) := by decide +kernel
theorem dX7_bestFlash_42 : decode cX7_bestFlash 42 = .ok (.getfield 10, 3) := by decide +kernel
theorem dX7_bestFlash_45 : decode cX7_bestFlash 45 = .ok (.getfield 76, 3) := by decide +kernel
theorem dX7_bestFlash_48 : decode cX7_bestFlash 48 = .ok (.iload 5, 2) := by decide +kernel
theorem dX7_bestFlash_50 : decode cX7_bestFlash 50 = .ok (.iadd, 1) := by decide +kernel
theorem dX7_bestFlash_51 : decode cX7_bestFlash 51 = .ok (.iload_n 1, 1) := by decide +kernel
theorem dX7_bestFlash_52 : decode cX7_bestFlash 52 = .ok (.invokevirtual 209, 3) := by decide +kernel
theorem dX7_bestFlash_55 : decode cX7_bestFlash 55 = .ok (.invokestatic 212, 3) := by decide +kernel
theorem dX7_bestFlash_58 : decode cX7_bestFlash 58 = .ok (.istore 6, 2) := by decide +kernel
theorem dX7_bestFlash_60 : decode cX7_bestFlash 60 = .ok (.iload 6, 2) := by decide +kernel
theorem dX7_bestFlash_62 : decode cX7_bestFlash 62 = .ok (.iload 4, 2) := by decide +kernel
theorem dX7_bestFlash_64 : decode cX7_bestFlash 64 = .ok (.if_icmp .le 10, 3) := by decide +kernel
theorem dX7_bestFlash_67 : decode cX7_bestFlash 67 = .ok (.iload 6, 2) := by decide +kernel
theorem dX7_bestFlash_69 : decode cX7_bestFlash 69 = .ok (.istore 4, 2) := by decide +kernel
theorem dX7_bestFlash_71 : decode cX7_bestFlash 71 = .ok (.iload 5, 2) := by decide +kernel
theorem dX7_bestFlash_73 : decode cX7_bestFlash 73 = .ok (.istore_n 3, 1) := by decide +kernel
theorem dX7_bestFlash_74 : decode cX7_bestFlash 74 = .ok (.iinc 5 1, 3) := by decide +kernel
theorem dX7_bestFlash_77 : decode cX7_bestFlash 77 = .ok (.goto (-47), 3) := by decide +kernel
theorem dX7_bestFlash_80 : decode cX7_bestFlash 80 = .ok (.iload_n 2, 1) := by decide +kernel
theorem dX7_bestFlash_81 : decode cX7_bestFlash 81 = .ok (.ifCond .ne 7, 3) := by decide +kernel
theorem dX7_bestFlash_84 : decode cX7_bestFlash 84 = .ok (.iload_n 3, 1) := by decide +kernel
theorem dX7_bestFlash_85 : decode cX7_bestFlash 85 = .ok (.goto 5, 3) := by decide +kernel
theorem dX7_bestFlash_88 : decode cX7_bestFlash 88 = .ok (.iload 4, 2) := by decide +kernel
theorem dX7_bestFlash_90 : decode cX7_bestFlash 90 = .ok (.ireturn, 1) := by decide +kernel
set_option maxRecDepth 20000 in
theorem ggX7_put_X2_charactersIn : GoodIn wsX7_put wsX2_charactersIn := goodIn_r _ [6, 7, 8, 9, 10] (by decide +kernel) (by decide +kernel)
set_option maxRecDepth 20000 in
theorem gX7_put_X2_charactersIn : GoodIn wsX7_put (va_wsS RX7 217 yX2_charactersIn wsX2_charactersIn) := goodIn_app (goodIn_of _ (by decide +kernel)) ggX7_put_X2_charactersIn
set_option maxRecDepth 20000 in
theorem ggX7_put_X2_append : GoodIn wsX7_put wsX2_append := goodIn_r _ [14, 15, 16, 7, 23, 24] (by decide +kernel) (by decide +kernel)
set_option maxRecDepth 20000 in
theorem gX7_put_X2_append : GoodIn wsX7_put (wsV RX7 221 RX2 yX2_append wsX2_append) := goodIn_app (goodIn_of _ (by decide +kernel)) ggX7_put_X2_append
theorem dX7_put_0 : decode cX7_put 0 = .ok (.lload_n 1, 1) := by decide +kernel
theorem dX7_put_1 : decode cX7_put 1 = .ok (.invokestatic 217, 3) := by decide +kernel
theorem dX7_put_4 : decode cX7_put 4 = .ok (.istore_n 3, 1) := by decide +kernel
theorem dX7_put_5 : decode cX7_put 5 = .ok (.iload_n 3, 1) := by decide +kernel
theorem dX7_put_6 : decode cX7_put 6 = .ok (.ifCond .ne 6, 3) := by decide +kernel
theorem dX7_put_9 : decode cX7_put 9 = .ok (.bipush (-2), 2) := by decide +kernel
theorem dX7_put_11 : decode cX7_put 11 = .ok (.ireturn, 1) := by decide +kernel
theorem dX7_put_12 : decode cX7_put 12 = .ok (.aload_n 0, 1) := by decide +kernel
theorem dX7_put_13 : decode cX7_put 13 = .ok (.getfield 37, 3) := by decide +kernel
theorem dX7_put_16 : decode cX7_put 16 = .ok (.getfield 194, 3) := by decide +kernel
theorem dX7_put_19 : decode cX7_put 19 = .ok (.iload_n 3, 1) := by decide +kernel
theorem dX7_put_20 : decode cX7_put 20 = .ok (.iadd, 1) := by decide +kernel
theorem dX7_put_21 : decode cX7_put 21 = .ok (.bipush 80, 2) := by decide +kernel
theorem dX7_put_23 : decode cX7_put 23 = .ok (.if_icmp .le 6, 3) := by decide +kernel
theorem dX7_put_26 : decode cX7_put 26 = .ok (.bipush (-4), 2) := by decide +kernel
theorem dX7_put_28 : decode cX7_put 28 = .ok (.ireturn, 1) := by decide +kernel
theorem dX7_put_29 : decode cX7_put 29 = .ok (.aload_n 0, 1) := by decide +kernel
theorem dX7_put_30 : decode cX7_put 30 = .ok (.getfield 37, 3) := by decide +kernel
theorem dX7_put_33 : decode cX7_put 33 = .ok (.lload_n 1, 1) := by decide +kernel
theorem dX7_put_34 : decode cX7_put 34 = .ok (.iload_n 3, 1) := by decide +kernel
theorem dX7_put_35 : decode cX7_put 35 = .ok (.invokevirtual 221, 3) := by decide +kernel
theorem dX7_put_38 : decode cX7_put 38 = .ok (.aload_n 0, 1) := by decide +kernel
theorem dX7_put_39 : decode cX7_put 39 = .ok (.getfield 37, 3) := by decide +kernel
theorem dX7_put_42 : decode cX7_put 42 = .ok (.getfield 194, 3) := by decide +kernel
theorem dX7_put_45 : decode cX7_put 45 = .ok (.ireturn, 1) := by decide +kernel
theorem dX7_wipe_0 : decode cX7_wipe 0 = .ok (.aload_n 0, 1) := by decide +kernel
theorem dX7_wipe_1 : decode cX7_wipe 1 = .ok (.getfield 37, 3) := by decide +kernel
theorem dX7_wipe_4 : decode cX7_wipe 4 = .ok (.getfield 194, 3) := by decide +kernel
theorem dX7_wipe_7 : decode cX7_wipe 7 = .ok (.istore_n 1, 1) := by decide +kernel
theorem dX7_wipe_8 : decode cX7_wipe 8 = .ok (.aload_n 0, 1) := by decide +kernel
theorem dX7_wipe_9 : decode cX7_wipe 9 = .ok (.getfield 37, 3) := by decide +kernel
theorem dX7_wipe_12 : decode cX7_wipe 12 = .ok (.iconst 0, 1) := by decide +kernel
theorem dX7_wipe_13 : decode cX7_wipe 13 = .ok (.putfield 194, 3) := by decide +kernel
theorem dX7_wipe_16 : decode cX7_wipe 16 = .ok (.iload_n 1, 1) := by decide +kernel
theorem dX7_wipe_17 : decode cX7_wipe 17 = .ok (.ireturn, 1) := by decide +kernel
set_option maxRecDepth 20000 in
theorem ggX7_fault_X4_findFault : GoodIn wsX7_fault wsX4_findFault := goodIn_r _ [6, 7, 8, 9, 10, 11, 12, 5, 13, 14, 15, 16, 17, 18, 19, 20, 21, 22, 23, 24, 25, 26, 27, 28, 29, 30, 31, 32, 33, 34, 35, 36, 37, 38, 39, 40, 41, 48, 49, 50, 51, 52, 53] (by decide +kernel) (by decide +kernel)
set_option maxRecDepth 20000 in
theorem gX7_fault_X4_findFault : GoodIn wsX7_fault (wsV RX7 225 RX4 yX4_findFault wsX4_findFault) := goodIn_app (goodIn_of _ (by decide +kernel)) ggX7_fault_X4_findFault
theorem dX7_fault_0 : decode cX7_fault 0 = .ok (.aload_n 0, 1) := by decide +kernel
theorem dX7_fault_1 : decode cX7_fault 1 = .ok (.getfield 46, 3) := by decide +kernel
theorem dX7_fault_4 : decode cX7_fault 4 = .ok (.invokevirtual 225, 3) := by decide +kernel
theorem dX7_fault_7 : decode cX7_fault 7 = .ok (.ireturn, 1) := by decide +kernel
set_option maxRecDepth 20000 in
theorem ggX7_carryOut_X4_findFault : GoodIn wsX7_carryOut wsX4_findFault := goodIn_r _ [11, 12, 13, 14, 15, 16, 17, 10, 18, 19, 20, 21, 22, 23, 24, 25, 26, 27, 28, 29, 30, 31, 32, 33, 34, 35, 36, 37, 38, 39, 40, 41, 42, 43, 44, 45, 46, 262, 263, 264, 265, 266, 267] (by decide +kernel) (by decide +kernel)
set_option maxRecDepth 20000 in
theorem gX7_carryOut_X4_findFault : GoodIn wsX7_carryOut (wsV RX7 225 RX4 yX4_findFault wsX4_findFault) := goodIn_app (goodIn_of _ (by decide +kernel)) ggX7_carryOut_X4_findFault
set_option maxRecDepth 20000 in
theorem ggX7_carryOut_X1_record : GoodIn wsX7_carryOut wsX1_record := goodIn_r _ [51, 52, 53, 54, 55, 56, 57, 58, 59, 60, 61, 62, 63, 64, 65, 66, 67, 68, 69, 70, 71, 72, 73, 74, 75, 76, 77, 78, 79, 80, 81, 82, 83, 84, 85, 86, 87, 88, 89, 90, 91, 92, 93, 94, 95, 96, 97, 98, 99, 100, 101, 102, 103, 104, 105, 106, 107, 108, 109, 110, 111, 112, 113, 114, 115, 116, 117, 118, 119, 120, 121, 268, 269, 270, 271, 272, 273, 274, 275, 276, 277, 278, 279, 280, 281, 282, 283, 284, 285, 286, 287, 288] (by decide +kernel) (by decide +kernel)
set_option maxRecDepth 20000 in
theorem gX7_carryOut_X1_record : GoodIn wsX7_carryOut (wsV RX7 61 RX1 yX1_record wsX1_record) := goodIn_app (goodIn_of _ (by decide +kernel)) ggX7_carryOut_X1_record
set_option maxRecDepth 20000 in
theorem ggX7_carryOut_X4_readOrder : GoodIn wsX7_carryOut wsX4_readOrder := goodIn_r _ [18, 13, 12, 19, 20, 21, 22, 23, 24, 25, 26, 27, 28, 29, 10, 30, 31, 32, 33, 34, 35, 36, 37, 38, 39, 40, 41, 42, 43, 44, 45, 46, 262, 263, 264, 265, 266, 267] (by decide +kernel) (by decide +kernel)
set_option maxRecDepth 20000 in
theorem gX7_carryOut_X4_readOrder : GoodIn wsX7_carryOut (wsV RX7 231 RX4 yX4_readOrder wsX4_readOrder) := goodIn_app (goodIn_of _ (by decide +kernel)) ggX7_carryOut_X4_readOrder
set_option maxRecDepth 20000 in
theorem ggX7_carryOut_X7_carryOutOrder : GoodIn wsX7_carryOut wsX7_carryOutOrder := goodIn_r _ [127, 1, 128, 129, 3, 130, 131, 132, 126, 133, 134, 135, 136, 137, 138, 139, 140, 141, 142, 143, 144, 145, 146, 147, 148, 149, 150, 151, 152, 153, 154, 155, 156, 76, 157, 115, 90, 91, 92, 93, 94, 95, 96, 97, 98, 158, 159, 160, 161, 162, 163, 164, 165, 166, 167, 168, 169, 170, 171, 172, 173, 174, 175, 176, 177, 178, 179, 180, 56, 181, 82, 84, 85, 182, 183, 184, 185, 186, 187, 188, 189, 190, 191, 192, 193, 194, 195, 196, 197, 73, 198, 199, 200, 201, 202, 203, 204, 205, 206, 207, 208, 209, 210, 211, 212, 213, 214, 215, 216, 217, 218, 219, 220, 221, 222, 223, 224, 225, 226, 227, 228, 229, 230, 231, 232, 233, 234, 235, 236, 237, 238, 239, 240, 241, 242, 59, 60, 61, 243, 244, 245, 246, 247, 248, 249, 250, 251, 252, 80, 253, 102, 121, 108, 109, 110, 254, 256, 257, 258, 259, 260, 261, 262, 263, 264, 265, 271, 272, 273, 274, 275, 276, 277, 278, 279, 280, 281, 282, 283, 284, 285, 286, 287, 289, 290, 291, 288] (by decide +kernel) (by decide +kernel)
set_option maxRecDepth 20000 in
theorem gX7_carryOut_X7_carryOutOrder : GoodIn wsX7_carryOut (wsV RX7 235 RX7 yX7_carryOutOrder wsX7_carryOutOrder) := goodIn_app (goodIn_of _ (by decide +kernel)) ggX7_carryOut_X7_carryOutOrder
set_option maxRecDepth 20000 in
theorem ggX7_carryOut_X4_take : GoodIn wsX7_carryOut wsX4_take := goodIn_r _ [30, 13, 12, 20, 21, 22, 23, 24, 25, 26, 262, 263, 264, 265, 266, 267] (by decide +kernel) (by decide +kernel)
set_option maxRecDepth 20000 in
theorem gX7_carryOut_X4_take : GoodIn wsX7_carryOut (wsV RX7 238 RX4 yX4_take wsX4_take) := goodIn_app (goodIn_of _ (by decide +kernel)) ggX7_carryOut_X4_take
theorem dX7_carryOut_0 : decode cX7_carryOut 0 = .ok (.aload_n 0, 1) := by decide +kernel
theorem dX7_carryOut_1 : decode cX7_carryOut 1 = .ok (.getfield 46, 3) := by decide +kernel
theorem dX7_carryOut_4 : decode cX7_carryOut 4 = .ok (.invokevirtual 225, 3) := by decide +kernel
theorem dX7_carryOut_7 : decode cX7_carryOut 7 = .ok (.bipush (-6), 2) := by decide +kernel
theorem dX7_carryOut_9 : decode cX7_carryOut 9 = .ok (.if_icmp .eq 6, 3) := by decide +kernel
theorem dX7_carryOut_12 : decode cX7_carryOut 12 = .ok (.bipush (-3), 2) := by decide +kernel
theorem dX7_carryOut_14 : decode cX7_carryOut 14 = .ok (.ireturn, 1) := by decide +kernel
theorem dX7_carryOut_15 : decode cX7_carryOut 15 = .ok (.aload_n 0, 1) := by decide +kernel
theorem dX7_carryOut_16 : decode cX7_carryOut 16 = .ok (.getfield 26, 3) := by decide +kernel
theorem dX7_carryOut_19 : decode cX7_carryOut 19 = .ok (.aload_n 0, 1) := by decide +kernel
theorem dX7_carryOut_20 : decode cX7_carryOut 20 = .ok (.getfield 10, 3) := by decide +kernel
theorem dX7_carryOut_23 : decode cX7_carryOut 23 = .ok (.invokevirtual 61, 3) := by decide +kernel
theorem dX7_carryOut_26 : decode cX7_carryOut 26 = .ok (.iconst 0, 1) := by decide +kernel
theorem dX7_carryOut_27 : decode cX7_carryOut 27 = .ok (.istore_n 1, 1) := by decide +kernel
theorem dX7_carryOut_28 : decode cX7_carryOut 28 = .ok (.aload_n 0, 1) := by decide +kernel
theorem dX7_carryOut_29 : decode cX7_carryOut 29 = .ok (.getfield 46, 3) := by decide +kernel
theorem dX7_carryOut_32 : decode cX7_carryOut 32 = .ok (.iconst 0, 1) := by decide +kernel
theorem dX7_carryOut_33 : decode cX7_carryOut 33 = .ok (.putfield 228, 3) := by decide +kernel
theorem dX7_carryOut_36 : decode cX7_carryOut 36 = .ok (.iconst 1, 1) := by decide +kernel
theorem dX7_carryOut_37 : decode cX7_carryOut 37 = .ok (.istore_n 2, 1) := by decide +kernel
theorem dX7_carryOut_38 : decode cX7_carryOut 38 = .ok (.iconst 0, 1) := by decide +kernel
theorem dX7_carryOut_39 : decode cX7_carryOut 39 = .ok (.istore_n 3, 1) := by decide +kernel
theorem dX7_carryOut_40 : decode cX7_carryOut 40 = .ok (.iload_n 2, 1) := by decide +kernel
theorem dX7_carryOut_41 : decode cX7_carryOut 41 = .ok (.ifCond .eq 55, 3) := by decide +kernel
theorem dX7_carryOut_44 : decode cX7_carryOut 44 = .ok (.iload_n 3, 1) := by decide +kernel
theorem dX7_carryOut_45 : decode cX7_carryOut 45 = .ok (.bipush 80, 2) := by decide +kernel
theorem dX7_carryOut_47 : decode cX7_carryOut 47 = .ok (.if_icmp .ge 49, 3) := by decide +kernel
theorem dX7_carryOut_50 : decode cX7_carryOut 50 = .ok (.aload_n 0, 1) := by decide +kernel
theorem dX7_carryOut_51 : decode cX7_carryOut 51 = .ok (.getfield 46, 3) := by decide +kernel
theorem dX7_carryOut_54 : decode cX7_carryOut 54 = .ok (.invokevirtual 231, 3) := by decide +kernel
theorem dX7_carryOut_57 : decode cX7_carryOut 57 = .ok (.ifCond .eq 14, 3) := by decide +kernel
theorem dX7_carryOut_60 : decode cX7_carryOut 60 = .ok (.aload_n 0, 1) := by decide +kernel
theorem dX7_carryOut_61 : decode cX7_carryOut 61 = .ok (.invokevirtual 235, 3) := by decide +kernel
theorem dX7_carryOut_64 : decode cX7_carryOut 64 = .ok (.ifCond .ne 7, 3) := by decide +kernel
theorem dX7_carryOut_67 : decode cX7_carryOut 67 = .ok (.iconst 1, 1) := by decide +kernel
theorem dX7_carryOut_68 : decode cX7_carryOut 68 = .ok (.goto 4, 3) := by decide +kernel
theorem dX7_carryOut_71 : decode cX7_carryOut 71 = .ok (.iconst 0, 1) := by decide +kernel
theorem dX7_carryOut_72 : decode cX7_carryOut 72 = .ok (.istore_n 2, 1) := by decide +kernel
theorem dX7_carryOut_73 : decode cX7_carryOut 73 = .ok (.iload_n 2, 1) := by decide +kernel
theorem dX7_carryOut_74 : decode cX7_carryOut 74 = .ok (.ifCond .eq 16, 3) := by decide +kernel
theorem dX7_carryOut_77 : decode cX7_carryOut 77 = .ok (.iinc 1 1, 3) := by decide +kernel
theorem dX7_carryOut_80 : decode cX7_carryOut 80 = .ok (.aload_n 0, 1) := by decide +kernel
theorem dX7_carryOut_81 : decode cX7_carryOut 81 = .ok (.getfield 46, 3) := by decide +kernel
theorem dX7_carryOut_84 : decode cX7_carryOut 84 = .ok (.bipush 59, 2) := by decide +kernel
theorem dX7_carryOut_86 : decode cX7_carryOut 86 = .ok (.invokevirtual 238, 3) := by decide +kernel
theorem dX7_carryOut_89 : decode cX7_carryOut 89 = .ok (.istore_n 2, 1) := by decide +kernel
theorem dX7_carryOut_90 : decode cX7_carryOut 90 = .ok (.iinc 3 1, 3) := by decide +kernel
theorem dX7_carryOut_93 : decode cX7_carryOut 93 = .ok (.goto (-53), 3) := by decide +kernel
theorem dX7_carryOut_96 : decode cX7_carryOut 96 = .ok (.aload_n 0, 1) := by decide +kernel
theorem dX7_carryOut_97 : decode cX7_carryOut 97 = .ok (.getfield 37, 3) := by decide +kernel
theorem dX7_carryOut_100 : decode cX7_carryOut 100 = .ok (.iconst 0, 1) := by decide +kernel
theorem dX7_carryOut_101 : decode cX7_carryOut 101 = .ok (.putfield 194, 3) := by decide +kernel
theorem dX7_carryOut_104 : decode cX7_carryOut 104 = .ok (.iload_n 1, 1) := by decide +kernel
theorem dX7_carryOut_105 : decode cX7_carryOut 105 = .ok (.ireturn, 1) := by decide +kernel
set_option maxRecDepth 20000 in
theorem ggX7_undo_X1_takeBack : GoodIn wsX7_undo wsX1_takeBack := goodIn_r _ [8, 9, 10, 11, 12, 13, 14, 15, 16, 17, 18, 19, 20, 21, 22, 23, 24, 25, 26, 27, 28, 29, 30, 31, 32, 33, 34, 35, 36, 37, 38, 39, 40, 41, 42, 43, 44, 45, 46, 47, 48, 49, 50, 57, 58, 59, 60, 61, 62, 63, 64, 65, 66, 67, 68, 69, 70, 71, 72, 73, 74, 75, 76, 77] (by decide +kernel) (by decide +kernel)
set_option maxRecDepth 20000 in
theorem gX7_undo_X1_takeBack : GoodIn wsX7_undo (wsV RX7 242 RX1 yX1_takeBack wsX1_takeBack) := goodIn_app (goodIn_of _ (by decide +kernel)) ggX7_undo_X1_takeBack
theorem dX7_undo_0 : decode cX7_undo 0 = .ok (.aload_n 0, 1) := by decide +kernel
theorem dX7_undo_1 : decode cX7_undo 1 = .ok (.getfield 26, 3) := by decide +kernel
theorem dX7_undo_4 : decode cX7_undo 4 = .ok (.aload_n 0, 1) := by decide +kernel
theorem dX7_undo_5 : decode cX7_undo 5 = .ok (.getfield 10, 3) := by decide +kernel
theorem dX7_undo_8 : decode cX7_undo 8 = .ok (.invokevirtual 242, 3) := by decide +kernel
theorem dX7_undo_11 : decode cX7_undo 11 = .ok (.ifCond .ne 6, 3) := by decide +kernel
theorem dX7_undo_14 : decode cX7_undo 14 = .ok (.bipush (-5), 2) := by decide +kernel
theorem dX7_undo_16 : decode cX7_undo 16 = .ok (.ireturn, 1) := by decide +kernel
theorem dX7_undo_17 : decode cX7_undo 17 = .ok (.aload_n 0, 1) := by decide +kernel
theorem dX7_undo_18 : decode cX7_undo 18 = .ok (.getfield 26, 3) := by decide +kernel
theorem dX7_undo_21 : decode cX7_undo 21 = .ok (.getfield 197, 3) := by decide +kernel
theorem dX7_undo_24 : decode cX7_undo 24 = .ok (.ireturn, 1) := by decide +kernel
set_option maxRecDepth 20000 in
theorem ggX7_save_X7_within : GoodIn wsX7_save wsX7_within := goodIn_r _ [11] (by decide +kernel) (by decide +kernel)
set_option maxRecDepth 20000 in
theorem gX7_save_X7_within : GoodIn wsX7_save (va_wsS RX7 50 yX7_within wsX7_within) := goodIn_app (goodIn_of _ (by decide +kernel)) ggX7_save_X7_within
set_option maxRecDepth 20000 in
theorem ggX7_save_X5_init : GoodIn wsX7_save wsX5_init := goodIn_r _ [13, 14, 15, 16, 17, 18, 19, 20, 21, 22, 23, 24, 25, 26, 27, 28, 29, 30, 31, 32, 33, 34, 35, 36, 37, 38, 39, 40, 41, 42, 43, 44, 45, 46, 47, 48, 49, 50, 51, 52, 78, 79, 80, 81, 82, 83, 84, 85, 86, 87, 88, 89, 90, 91, 92, 93, 94, 95] (by decide +kernel) (by decide +kernel)
set_option maxRecDepth 20000 in
theorem gX7_save_X5_init_n9 : GoodIn wsX7_save (wsX5_init) := ggX7_save_X5_init
set_option maxRecDepth 20000 in
theorem ggX7_save_X5_copyFrom : GoodIn wsX7_save wsX5_copyFrom := goodIn_r _ [56, 23, 57, 58, 59, 60, 27, 31, 32, 33, 34, 35, 61, 62, 63, 26, 64, 65, 40, 66, 41, 42, 43, 44, 45, 46, 47, 48, 67, 68, 69, 30, 70, 52, 71, 78, 79, 80, 81, 82, 83, 84, 85, 86, 87, 88, 89, 90, 91, 92, 93, 94, 95] (by decide +kernel) (by decide +kernel)
set_option maxRecDepth 20000 in
theorem gX7_save_X5_copyFrom : GoodIn wsX7_save (wsV RX7 246 RX5 yX5_copyFrom wsX5_copyFrom) := goodIn_app (goodIn_of _ (by decide +kernel)) ggX7_save_X5_copyFrom
theorem dX7_save_0 : decode cX7_save 0 = .ok (.iload_n 1, 1) := by decide +kernel
theorem dX7_save_1 : decode cX7_save 1 = .ok (.iconst 0, 1) := by decide +kernel
theorem dX7_save_2 : decode cX7_save 2 = .ok (.iconst 1, 1) := by decide +kernel
theorem dX7_save_3 : decode cX7_save 3 = .ok (.invokestatic 50, 3) := by decide +kernel
theorem dX7_save_6 : decode cX7_save 6 = .ok (.ifCond .ne 6, 3) := by decide +kernel
theorem dX7_save_9 : decode cX7_save 9 = .ok (.bipush (-2), 2) := by decide +kernel
theorem dX7_save_11 : decode cX7_save 11 = .ok (.ireturn, 1) := by decide +kernel
theorem dX7_save_12 : decode cX7_save 12 = .ok (.aload_n 0, 1) := by decide +kernel
theorem dX7_save_13 : decode cX7_save 13 = .ok (.getfield 30, 3) := by decide +kernel
theorem dX7_save_16 : decode cX7_save 16 = .ok (.iload_n 1, 1) := by decide +kernel
