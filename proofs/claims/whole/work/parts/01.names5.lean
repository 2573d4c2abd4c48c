theorem dX7_save_17 : decode cX7_save 17 = .ok (.aaload, 1) := by decide +kernel
theorem dX7_save_18 : decode cX7_save 18 = .ok (.astore_n 2, 1) := by decide +kernel
theorem dX7_save_19 : decode cX7_save 19 = .ok (.aload_n 2, 1) := by decide +kernel
theorem dX7_save_20 : decode cX7_save 20 = .ok (.ifnonnull 18, 3) := by decide +kernel
theorem dX7_save_23 : decode cX7_save 23 = .ok (.new 7, 3) := by decide +kernel
theorem dX7_save_26 : decode cX7_save 26 = .ok (.dup, 1) := by decide +kernel
theorem dX7_save_27 : decode cX7_save 27 = .ok (.invokespecial 9, 3) := by decide +kernel
theorem dX7_save_30 : decode cX7_save 30 = .ok (.astore_n 2, 1) := by decide +kernel
theorem dX7_save_31 : decode cX7_save 31 = .ok (.aload_n 0, 1) := by decide +kernel
theorem dX7_save_32 : decode cX7_save 32 = .ok (.getfield 30, 3) := by decide +kernel
theorem dX7_save_35 : decode cX7_save 35 = .ok (.iload_n 1, 1) := by decide +kernel
theorem dX7_save_36 : decode cX7_save 36 = .ok (.aload_n 2, 1) := by decide +kernel
theorem dX7_save_37 : decode cX7_save 37 = .ok (.aastore, 1) := by decide +kernel
theorem dX7_save_38 : decode cX7_save 38 = .ok (.aload_n 2, 1) := by decide +kernel
theorem dX7_save_39 : decode cX7_save 39 = .ok (.aload_n 0, 1) := by decide +kernel
theorem dX7_save_40 : decode cX7_save 40 = .ok (.getfield 10, 3) := by decide +kernel
theorem dX7_save_43 : decode cX7_save 43 = .ok (.invokevirtual 246, 3) := by decide +kernel
theorem dX7_save_46 : decode cX7_save 46 = .ok (.aload_n 0, 1) := by decide +kernel
theorem dX7_save_47 : decode cX7_save 47 = .ok (.getfield 10, 3) := by decide +kernel
theorem dX7_save_50 : decode cX7_save 50 = .ok (.getfield 72, 3) := by decide +kernel
theorem dX7_save_53 : decode cX7_save 53 = .ok (.getfield 176, 3) := by decide +kernel
theorem dX7_save_56 : decode cX7_save 56 = .ok (.ireturn, 1) := by decide +kernel
set_option maxRecDepth 20000 in
theorem ggX7_restore_X7_within : GoodIn wsX7_restore wsX7_within := goodIn_r _ [9] (by decide +kernel) (by decide +kernel)
set_option maxRecDepth 20000 in
theorem gX7_restore_X7_within : GoodIn wsX7_restore (va_wsS RX7 50 yX7_within wsX7_within) := goodIn_app (goodIn_of _ (by decide +kernel)) ggX7_restore_X7_within
set_option maxRecDepth 20000 in
theorem ggX7_restore_X1_record : GoodIn wsX7_restore wsX1_record := goodIn_r _ [14, 15, 16, 17, 18, 19, 20, 21, 22, 23, 24, 25, 26, 27, 28, 29, 30, 31, 32, 33, 34, 35, 36, 37, 38, 39, 40, 41, 42, 43, 44, 45, 46, 47, 48, 49, 50, 51, 52, 53, 54, 55, 56, 57, 58, 59, 60, 61, 62, 63, 64, 65, 66, 67, 68, 69, 70, 71, 72, 73, 74, 75, 76, 77, 78, 79, 80, 81, 82, 83, 84, 109, 110, 111, 92, 93, 94, 95, 96, 97, 98, 99, 100, 101, 102, 103, 104, 105, 106, 107, 108, 112] (by decide +kernel) (by decide +kernel)
set_option maxRecDepth 20000 in
theorem gX7_restore_X1_record : GoodIn wsX7_restore (wsV RX7 61 RX1 yX1_record wsX1_record) := goodIn_app (goodIn_of _ (by decide +kernel)) ggX7_restore_X1_record
set_option maxRecDepth 20000 in
theorem ggX7_restore_X5_copyFrom : GoodIn wsX7_restore wsX5_copyFrom := goodIn_r _ [69, 36, 70, 71, 72, 73, 40, 44, 45, 46, 47, 48, 74, 75, 76, 39, 77, 78, 53, 79, 54, 55, 56, 57, 58, 59, 60, 61, 80, 81, 82, 43, 83, 65, 84, 92, 93, 94, 95, 96, 97, 98, 99, 100, 101, 102, 103, 104, 105, 106, 107, 108, 112] (by decide +kernel) (by decide +kernel)
set_option maxRecDepth 20000 in
theorem gX7_restore_X5_copyFrom : GoodIn wsX7_restore (wsV RX7 246 RX5 yX5_copyFrom wsX5_copyFrom) := goodIn_app (goodIn_of _ (by decide +kernel)) ggX7_restore_X5_copyFrom
theorem dX7_restore_0 : decode cX7_restore 0 = .ok (.iload_n 1, 1) := by decide +kernel
theorem dX7_restore_1 : decode cX7_restore 1 = .ok (.iconst 0, 1) := by decide +kernel
theorem dX7_restore_2 : decode cX7_restore 2 = .ok (.iconst 1, 1) := by decide +kernel
theorem dX7_restore_3 : decode cX7_restore 3 = .ok (.invokestatic 50, 3) := by decide +kernel
theorem dX7_restore_6 : decode cX7_restore 6 = .ok (.ifCond .ne 6, 3) := by decide +kernel
theorem dX7_restore_9 : decode cX7_restore 9 = .ok (.bipush (-2), 2) := by decide +kernel
theorem dX7_restore_11 : decode cX7_restore 11 = .ok (.ireturn, 1) := by decide +kernel
theorem dX7_restore_12 : decode cX7_restore 12 = .ok (.aload_n 0, 1) := by decide +kernel
theorem dX7_restore_13 : decode cX7_restore 13 = .ok (.getfield 30, 3) := by decide +kernel
theorem dX7_restore_16 : decode cX7_restore 16 = .ok (.iload_n 1, 1) := by decide +kernel
theorem dX7_restore_17 : decode cX7_restore 17 = .ok (.aaload, 1) := by decide +kernel
theorem dX7_restore_18 : decode cX7_restore 18 = .ok (.astore_n 2, 1) := by decide +kernel
theorem dX7_restore_19 : decode cX7_restore 19 = .ok (.aload_n 2, 1) := by decide +kernel
theorem dX7_restore_20 : decode cX7_restore 20 = .ok (.ifnonnull 6, 3) := by decide +kernel
theorem dX7_restore_23 : decode cX7_restore 23 = .ok (.bipush (-5), 2) := by decide +kernel
theorem dX7_restore_25 : decode cX7_restore 25 = .ok (.ireturn, 1) := by decide +kernel
theorem dX7_restore_26 : decode cX7_restore 26 = .ok (.aload_n 0, 1) := by decide +kernel
theorem dX7_restore_27 : decode cX7_restore 27 = .ok (.getfield 26, 3) := by decide +kernel
theorem dX7_restore_30 : decode cX7_restore 30 = .ok (.aload_n 0, 1) := by decide +kernel
theorem dX7_restore_31 : decode cX7_restore 31 = .ok (.getfield 10, 3) := by decide +kernel
theorem dX7_restore_34 : decode cX7_restore 34 = .ok (.invokevirtual 61, 3) := by decide +kernel
theorem dX7_restore_37 : decode cX7_restore 37 = .ok (.aload_n 0, 1) := by decide +kernel
theorem dX7_restore_38 : decode cX7_restore 38 = .ok (.getfield 10, 3) := by decide +kernel
theorem dX7_restore_41 : decode cX7_restore 41 = .ok (.aload_n 2, 1) := by decide +kernel
theorem dX7_restore_42 : decode cX7_restore 42 = .ok (.invokevirtual 246, 3) := by decide +kernel
theorem dX7_restore_45 : decode cX7_restore 45 = .ok (.aload_n 0, 1) := by decide +kernel
theorem dX7_restore_46 : decode cX7_restore 46 = .ok (.getfield 10, 3) := by decide +kernel
theorem dX7_restore_49 : decode cX7_restore 49 = .ok (.getfield 72, 3) := by decide +kernel
theorem dX7_restore_52 : decode cX7_restore 52 = .ok (.getfield 176, 3) := by decide +kernel
theorem dX7_restore_55 : decode cX7_restore 55 = .ok (.ireturn, 1) := by decide +kernel
theorem dX7_within_0 : decode cX7_within 0 = .ok (.iload_n 0, 1) := by decide +kernel
theorem dX7_within_1 : decode cX7_within 1 = .ok (.iload_n 1, 1) := by decide +kernel
theorem dX7_within_2 : decode cX7_within 2 = .ok (.if_icmp .lt 12, 3) := by decide +kernel
theorem dX7_within_5 : decode cX7_within 5 = .ok (.iload_n 0, 1) := by decide +kernel
theorem dX7_within_6 : decode cX7_within 6 = .ok (.iload_n 2, 1) := by decide +kernel
theorem dX7_within_7 : decode cX7_within 7 = .ok (.if_icmp .gt 7, 3) := by decide +kernel
theorem dX7_within_10 : decode cX7_within 10 = .ok (.iconst 1, 1) := by decide +kernel
theorem dX7_within_11 : decode cX7_within 11 = .ok (.goto 4, 3) := by decide +kernel
theorem dX7_within_14 : decode cX7_within 14 = .ok (.iconst 0, 1) := by decide +kernel
theorem dX7_within_15 : decode cX7_within 15 = .ok (.ireturn, 1) := by decide +kernel
set_option maxRecDepth 20000 in
theorem ggX7_isPlace_X7_within : GoodIn wsX7_isPlace wsX7_within := goodIn_r _ [4] (by decide +kernel) (by decide +kernel)
set_option maxRecDepth 20000 in
theorem gX7_isPlace_X7_within : GoodIn wsX7_isPlace (va_wsS RX7 50 yX7_within wsX7_within) := goodIn_app (goodIn_of _ (by decide +kernel)) ggX7_isPlace_X7_within
theorem dX7_isPlace_0 : decode cX7_isPlace 0 = .ok (.iload_n 0, 1) := by decide +kernel
theorem dX7_isPlace_1 : decode cX7_isPlace 1 = .ok (.iconst 0, 1) := by decide +kernel
theorem dX7_isPlace_2 : decode cX7_isPlace 2 = .ok (.bipush 15, 2) := by decide +kernel
theorem dX7_isPlace_4 : decode cX7_isPlace 4 = .ok (.invokestatic 50, 3) := by decide +kernel
theorem dX7_isPlace_7 : decode cX7_isPlace 7 = .ok (.ifCond .eq 17, 3) := by decide +kernel
theorem dX7_isPlace_10 : decode cX7_isPlace 10 = .ok (.iload_n 1, 1) := by decide +kernel
theorem dX7_isPlace_11 : decode cX7_isPlace 11 = .ok (.iconst 0, 1) := by decide +kernel
theorem dX7_isPlace_12 : decode cX7_isPlace 12 = .ok (.bipush 23, 2) := by decide +kernel
theorem dX7_isPlace_14 : decode cX7_isPlace 14 = .ok (.invokestatic 50, 3) := by decide +kernel
theorem dX7_isPlace_17 : decode cX7_isPlace 17 = .ok (.ifCond .eq 7, 3) := by decide +kernel
theorem dX7_isPlace_20 : decode cX7_isPlace 20 = .ok (.iconst 1, 1) := by decide +kernel
theorem dX7_isPlace_21 : decode cX7_isPlace 21 = .ok (.goto 4, 3) := by decide +kernel
theorem dX7_isPlace_24 : decode cX7_isPlace 24 = .ok (.iconst 0, 1) := by decide +kernel
theorem dX7_isPlace_25 : decode cX7_isPlace 25 = .ok (.ireturn, 1) := by decide +kernel
set_option maxRecDepth 20000 in
theorem ggX7_isSpeed_X7_within : GoodIn wsX7_isSpeed wsX7_within := goodIn_r _ [4] (by decide +kernel) (by decide +kernel)
set_option maxRecDepth 20000 in
theorem gX7_isSpeed_X7_within : GoodIn wsX7_isSpeed (va_wsS RX7 50 yX7_within wsX7_within) := goodIn_app (goodIn_of _ (by decide +kernel)) ggX7_isSpeed_X7_within
theorem dX7_isSpeed_0 : decode cX7_isSpeed 0 = .ok (.iload_n 0, 1) := by decide +kernel
theorem dX7_isSpeed_1 : decode cX7_isSpeed 1 = .ok (.bipush (-40), 2) := by decide +kernel
theorem dX7_isSpeed_3 : decode cX7_isSpeed 3 = .ok (.bipush 40, 2) := by decide +kernel
theorem dX7_isSpeed_5 : decode cX7_isSpeed 5 = .ok (.invokestatic 50, 3) := by decide +kernel
theorem dX7_isSpeed_8 : decode cX7_isSpeed 8 = .ok (.ireturn, 1) := by decide +kernel
set_option maxRecDepth 20000 in
theorem ggX7_canRide_X7_within : GoodIn wsX7_canRide wsX7_within := goodIn_r _ [4] (by decide +kernel) (by decide +kernel)
set_option maxRecDepth 20000 in
theorem gX7_canRide_X7_within : GoodIn wsX7_canRide (va_wsS RX7 50 yX7_within wsX7_within) := goodIn_app (goodIn_of _ (by decide +kernel)) ggX7_canRide_X7_within
theorem dX7_canRide_0 : decode cX7_canRide 0 = .ok (.iload_n 1, 1) := by decide +kernel
theorem dX7_canRide_1 : decode cX7_canRide 1 = .ok (.bipush (-6), 2) := by decide +kernel
theorem dX7_canRide_3 : decode cX7_canRide 3 = .ok (.if_icmp .eq 14, 3) := by decide +kernel
theorem dX7_canRide_6 : decode cX7_canRide 6 = .ok (.iload_n 1, 1) := by decide +kernel
theorem dX7_canRide_7 : decode cX7_canRide 7 = .ok (.iconst 0, 1) := by decide +kernel
theorem dX7_canRide_8 : decode cX7_canRide 8 = .ok (.iload_n 0, 1) := by decide +kernel
theorem dX7_canRide_9 : decode cX7_canRide 9 = .ok (.iconst 1, 1) := by decide +kernel
theorem dX7_canRide_10 : decode cX7_canRide 10 = .ok (.isub, 1) := by decide +kernel
theorem dX7_canRide_11 : decode cX7_canRide 11 = .ok (.invokestatic 50, 3) := by decide +kernel
theorem dX7_canRide_14 : decode cX7_canRide 14 = .ok (.ifCond .eq 7, 3) := by decide +kernel
theorem dX7_canRide_17 : decode cX7_canRide 17 = .ok (.iconst 1, 1) := by decide +kernel
theorem dX7_canRide_18 : decode cX7_canRide 18 = .ok (.goto 4, 3) := by decide +kernel
theorem dX7_canRide_21 : decode cX7_canRide 21 = .ok (.iconst 0, 1) := by decide +kernel
theorem dX7_canRide_22 : decode cX7_canRide 22 = .ok (.ireturn, 1) := by decide +kernel
set_option maxRecDepth 20000 in
theorem ggX7_isThing_X7_within : GoodIn wsX7_isThing wsX7_within := goodIn_r _ [7] (by decide +kernel) (by decide +kernel)
set_option maxRecDepth 20000 in
theorem gX7_isThing_X7_within : GoodIn wsX7_isThing (va_wsS RX7 50 yX7_within wsX7_within) := goodIn_app (goodIn_of _ (by decide +kernel)) ggX7_isThing_X7_within
theorem dX7_isThing_0 : decode cX7_isThing 0 = .ok (.iload_n 1, 1) := by decide +kernel
theorem dX7_isThing_1 : decode cX7_isThing 1 = .ok (.iconst 0, 1) := by decide +kernel
theorem dX7_isThing_2 : decode cX7_isThing 2 = .ok (.aload_n 0, 1) := by decide +kernel
theorem dX7_isThing_3 : decode cX7_isThing 3 = .ok (.getfield 10, 3) := by decide +kernel
theorem dX7_isThing_6 : decode cX7_isThing 6 = .ok (.getfield 72, 3) := by decide +kernel
theorem dX7_isThing_9 : decode cX7_isThing 9 = .ok (.getfield 176, 3) := by decide +kernel
theorem dX7_isThing_12 : decode cX7_isThing 12 = .ok (.iconst 1, 1) := by decide +kernel
theorem dX7_isThing_13 : decode cX7_isThing 13 = .ok (.isub, 1) := by decide +kernel
theorem dX7_isThing_14 : decode cX7_isThing 14 = .ok (.invokestatic 50, 3) := by decide +kernel
theorem dX7_isThing_17 : decode cX7_isThing 17 = .ok (.ireturn, 1) := by decide +kernel
set_option maxRecDepth 20000 in
theorem ggX7_errorOfThing_X7_isPlace : GoodIn wsX7_errorOfThing wsX7_isPlace := goodIn_r _ [7, 8, 9, 6, 10] (by decide +kernel) (by decide +kernel)
set_option maxRecDepth 20000 in
theorem gX7_errorOfThing_X7_isPlace : GoodIn wsX7_errorOfThing (va_wsS RX7 156 yX7_isPlace wsX7_isPlace) := goodIn_app (goodIn_of _ (by decide +kernel)) ggX7_errorOfThing_X7_isPlace
set_option maxRecDepth 20000 in
theorem ggX7_errorOfThing_X7_within : GoodIn wsX7_errorOfThing wsX7_within := goodIn_r _ [10] (by decide +kernel) (by decide +kernel)
set_option maxRecDepth 20000 in
theorem gX7_errorOfThing_X7_within : GoodIn wsX7_errorOfThing (va_wsS RX7 50 yX7_within wsX7_within) := goodIn_app (goodIn_of _ (by decide +kernel)) ggX7_errorOfThing_X7_within
theorem dX7_errorOfThing_0 : decode cX7_errorOfThing 0 = .ok (.iload_n 1, 1) := by decide +kernel
theorem dX7_errorOfThing_1 : decode cX7_errorOfThing 1 = .ok (.iload_n 2, 1) := by decide +kernel
theorem dX7_errorOfThing_2 : decode cX7_errorOfThing 2 = .ok (.invokestatic 156, 3) := by decide +kernel
theorem dX7_errorOfThing_5 : decode cX7_errorOfThing 5 = .ok (.ifCond .eq 35, 3) := by decide +kernel
theorem dX7_errorOfThing_8 : decode cX7_errorOfThing 8 = .ok (.iload_n 3, 1) := by decide +kernel
theorem dX7_errorOfThing_9 : decode cX7_errorOfThing 9 = .ok (.iconst 1, 1) := by decide +kernel
theorem dX7_errorOfThing_10 : decode cX7_errorOfThing 10 = .ok (.bipush 16, 2) := by decide +kernel
theorem dX7_errorOfThing_12 : decode cX7_errorOfThing 12 = .ok (.invokestatic 50, 3) := by decide +kernel
theorem dX7_errorOfThing_15 : decode cX7_errorOfThing 15 = .ok (.ifCond .eq 25, 3) := by decide +kernel
theorem dX7_errorOfThing_18 : decode cX7_errorOfThing 18 = .ok (.iload 4, 2) := by decide +kernel
theorem dX7_errorOfThing_20 : decode cX7_errorOfThing 20 = .ok (.iconst 1, 1) := by decide +kernel
theorem dX7_errorOfThing_21 : decode cX7_errorOfThing 21 = .ok (.bipush 24, 2) := by decide +kernel
theorem dX7_errorOfThing_23 : decode cX7_errorOfThing 23 = .ok (.invokestatic 50, 3) := by decide +kernel
theorem dX7_errorOfThing_26 : decode cX7_errorOfThing 26 = .ok (.ifCond .eq 14, 3) := by decide +kernel
theorem dX7_errorOfThing_29 : decode cX7_errorOfThing 29 = .ok (.iload 5, 2) := by decide +kernel
theorem dX7_errorOfThing_31 : decode cX7_errorOfThing 31 = .ok (.iconst 1, 1) := by decide +kernel
theorem dX7_errorOfThing_32 : decode cX7_errorOfThing 32 = .ok (.bipush 9, 2) := by decide +kernel
theorem dX7_errorOfThing_34 : decode cX7_errorOfThing 34 = .ok (.invokestatic 50, 3) := by decide +kernel
theorem dX7_errorOfThing_37 : decode cX7_errorOfThing 37 = .ok (.ifCond .ne 6, 3) := by decide +kernel
theorem dX7_errorOfThing_40 : decode cX7_errorOfThing 40 = .ok (.bipush (-2), 2) := by decide +kernel
theorem dX7_errorOfThing_42 : decode cX7_errorOfThing 42 = .ok (.ireturn, 1) := by decide +kernel
theorem dX7_errorOfThing_43 : decode cX7_errorOfThing 43 = .ok (.aload_n 0, 1) := by decide +kernel
theorem dX7_errorOfThing_44 : decode cX7_errorOfThing 44 = .ok (.getfield 10, 3) := by decide +kernel
theorem dX7_errorOfThing_47 : decode cX7_errorOfThing 47 = .ok (.getfield 72, 3) := by decide +kernel
theorem dX7_errorOfThing_50 : decode cX7_errorOfThing 50 = .ok (.getfield 176, 3) := by decide +kernel
theorem dX7_errorOfThing_53 : decode cX7_errorOfThing 53 = .ok (.bipush 8, 2) := by decide +kernel
theorem dX7_errorOfThing_55 : decode cX7_errorOfThing 55 = .ok (.if_icmp .ge 7, 3) := by decide +kernel
theorem dX7_errorOfThing_58 : decode cX7_errorOfThing 58 = .ok (.iconst 0, 1) := by decide +kernel
theorem dX7_errorOfThing_59 : decode cX7_errorOfThing 59 = .ok (.goto 5, 3) := by decide +kernel
theorem dX7_errorOfThing_62 : decode cX7_errorOfThing 62 = .ok (.bipush (-4), 2) := by decide +kernel
theorem dX7_errorOfThing_64 : decode cX7_errorOfThing 64 = .ok (.ireturn, 1) := by decide +kernel
set_option maxRecDepth 20000 in
theorem ggX7_errorOfFlash_X7_within : GoodIn wsX7_errorOfFlash wsX7_within := goodIn_r _ [4] (by decide +kernel) (by decide +kernel)
set_option maxRecDepth 20000 in
theorem gX7_errorOfFlash_X7_within : GoodIn wsX7_errorOfFlash (va_wsS RX7 50 yX7_within wsX7_within) := goodIn_app (goodIn_of _ (by decide +kernel)) ggX7_errorOfFlash_X7_within
theorem dX7_errorOfFlash_0 : decode cX7_errorOfFlash 0 = .ok (.iload_n 1, 1) := by decide +kernel
theorem dX7_errorOfFlash_1 : decode cX7_errorOfFlash 1 = .ok (.iconst 0, 1) := by decide +kernel
theorem dX7_errorOfFlash_2 : decode cX7_errorOfFlash 2 = .ok (.bipush 99, 2) := by decide +kernel
theorem dX7_errorOfFlash_4 : decode cX7_errorOfFlash 4 = .ok (.invokestatic 50, 3) := by decide +kernel
theorem dX7_errorOfFlash_7 : decode cX7_errorOfFlash 7 = .ok (.ifCond .eq 17, 3) := by decide +kernel
theorem dX7_errorOfFlash_10 : decode cX7_errorOfFlash 10 = .ok (.iload_n 2, 1) := by decide +kernel
theorem dX7_errorOfFlash_11 : decode cX7_errorOfFlash 11 = .ok (.iconst 1, 1) := by decide +kernel
theorem dX7_errorOfFlash_12 : decode cX7_errorOfFlash 12 = .ok (.bipush 20, 2) := by decide +kernel
theorem dX7_errorOfFlash_14 : decode cX7_errorOfFlash 14 = .ok (.invokestatic 50, 3) := by decide +kernel
theorem dX7_errorOfFlash_17 : decode cX7_errorOfFlash 17 = .ok (.ifCond .eq 7, 3) := by decide +kernel
theorem dX7_errorOfFlash_20 : decode cX7_errorOfFlash 20 = .ok (.iconst 0, 1) := by decide +kernel
theorem dX7_errorOfFlash_21 : decode cX7_errorOfFlash 21 = .ok (.goto 5, 3) := by decide +kernel
theorem dX7_errorOfFlash_24 : decode cX7_errorOfFlash 24 = .ok (.bipush (-2), 2) := by decide +kernel
theorem dX7_errorOfFlash_26 : decode cX7_errorOfFlash 26 = .ok (.ireturn, 1) := by decide +kernel
set_option maxRecDepth 20000 in
theorem ggX7_errorOfPass_X7_within : GoodIn wsX7_errorOfPass wsX7_within := goodIn_r _ [6] (by decide +kernel) (by decide +kernel)
set_option maxRecDepth 20000 in
theorem gX7_errorOfPass_X7_within : GoodIn wsX7_errorOfPass (va_wsS RX7 50 yX7_within wsX7_within) := goodIn_app (goodIn_of _ (by decide +kernel)) ggX7_errorOfPass_X7_within
theorem dX7_errorOfPass_0 : decode cX7_errorOfPass 0 = .ok (.iload_n 1, 1) := by decide +kernel
theorem dX7_errorOfPass_1 : decode cX7_errorOfPass 1 = .ok (.iconst 1, 1) := by decide +kernel
theorem dX7_errorOfPass_2 : decode cX7_errorOfPass 2 = .ok (.bipush 99, 2) := by decide +kernel
theorem dX7_errorOfPass_4 : decode cX7_errorOfPass 4 = .ok (.invokestatic 50, 3) := by decide +kernel
theorem dX7_errorOfPass_7 : decode cX7_errorOfPass 7 = .ok (.ifCond .ne 6, 3) := by decide +kernel
theorem dX7_errorOfPass_10 : decode cX7_errorOfPass 10 = .ok (.bipush (-2), 2) := by decide +kernel
theorem dX7_errorOfPass_12 : decode cX7_errorOfPass 12 = .ok (.ireturn, 1) := by decide +kernel
theorem dX7_errorOfPass_13 : decode cX7_errorOfPass 13 = .ok (.aload_n 0, 1) := by decide +kernel
theorem dX7_errorOfPass_14 : decode cX7_errorOfPass 14 = .ok (.getfield 10, 3) := by decide +kernel
theorem dX7_errorOfPass_17 : decode cX7_errorOfPass 17 = .ok (.getfield 76, 3) := by decide +kernel
theorem dX7_errorOfPass_20 : decode cX7_errorOfPass 20 = .ok (.iload_n 1, 1) := by decide +kernel
theorem dX7_errorOfPass_21 : decode cX7_errorOfPass 21 = .ok (.iadd, 1) := by decide +kernel
theorem dX7_errorOfPass_22 : decode cX7_errorOfPass 22 = .ok (.sipush 9999, 3) := by decide +kernel
theorem dX7_errorOfPass_25 : decode cX7_errorOfPass 25 = .ok (.if_icmp .gt 7, 3) := by decide +kernel
theorem dX7_errorOfPass_28 : decode cX7_errorOfPass 28 = .ok (.iconst 0, 1) := by decide +kernel
theorem dX7_errorOfPass_29 : decode cX7_errorOfPass 29 = .ok (.goto 5, 3) := by decide +kernel
theorem dX7_errorOfPass_32 : decode cX7_errorOfPass 32 = .ok (.bipush (-5), 2) := by decide +kernel
theorem dX7_errorOfPass_34 : decode cX7_errorOfPass 34 = .ok (.ireturn, 1) := by decide +kernel
set_option maxRecDepth 20000 in
theorem ggX7_errorOfShoot_X5_endOfPicture : GoodIn wsX7_errorOfShoot wsX5_endOfPicture := goodIn_r _ [6, 7, 8, 9, 10, 5, 11, 12, 19, 20, 21, 22, 23, 24, 25] (by decide +kernel) (by decide +kernel)
set_option maxRecDepth 20000 in
theorem gX7_errorOfShoot_X5_endOfPicture : GoodIn wsX7_errorOfShoot (wsV RX7 249 RX5 yX5_endOfPicture wsX5_endOfPicture) := goodIn_app (goodIn_of _ (by decide +kernel)) ggX7_errorOfShoot_X5_endOfPicture
theorem dX7_errorOfShoot_0 : decode cX7_errorOfShoot 0 = .ok (.aload_n 0, 1) := by decide +kernel
theorem dX7_errorOfShoot_1 : decode cX7_errorOfShoot 1 = .ok (.getfield 10, 3) := by decide +kernel
theorem dX7_errorOfShoot_4 : decode cX7_errorOfShoot 4 = .ok (.invokevirtual 249, 3) := by decide +kernel
theorem dX7_errorOfShoot_7 : decode cX7_errorOfShoot 7 = .ok (.sipush 9999, 3) := by decide +kernel
theorem dX7_errorOfShoot_10 : decode cX7_errorOfShoot 10 = .ok (.if_icmp .gt 7, 3) := by decide +kernel
theorem dX7_errorOfShoot_13 : decode cX7_errorOfShoot 13 = .ok (.iconst 0, 1) := by decide +kernel
theorem dX7_errorOfShoot_14 : decode cX7_errorOfShoot 14 = .ok (.goto 5, 3) := by decide +kernel
theorem dX7_errorOfShoot_17 : decode cX7_errorOfShoot 17 = .ok (.bipush (-5), 2) := by decide +kernel
theorem dX7_errorOfShoot_19 : decode cX7_errorOfShoot 19 = .ok (.ireturn, 1) := by decide +kernel
set_option maxRecDepth 20000 in
theorem ggX7_carryOutOrder_X7_carryOutThing : GoodIn wsX7_carryOutOrder wsX7_carryOutThing := goodIn_r _ [9, 1, 10, 4, 11, 12, 13, 14, 15, 16, 8, 17, 18, 19, 20, 21, 22, 23, 24, 25, 26, 27, 28, 29, 30, 31, 32, 33, 34, 35, 36, 37, 38, 39, 40, 41, 42, 43, 44, 45, 46, 47, 48, 49, 50, 51, 52, 53, 54, 55, 56, 156, 157, 158, 159, 160, 161, 162, 163, 164, 165, 166, 167, 168, 169, 170, 171, 172, 173, 174, 175, 176, 177, 178, 179, 180, 181, 182] (by decide +kernel) (by decide +kernel)
set_option maxRecDepth 20000 in
theorem gX7_carryOutOrder_X7_carryOutThing : GoodIn wsX7_carryOutOrder (wsV RX7 256 RX7 yX7_carryOutThing wsX7_carryOutThing) := goodIn_app (goodIn_of _ (by decide +kernel)) ggX7_carryOutOrder_X7_carryOutThing
set_option maxRecDepth 20000 in
theorem ggX7_carryOutOrder_X7_carryOutFlash : GoodIn wsX7_carryOutOrder wsX7_carryOutFlash := goodIn_r _ [60, 1, 10, 4, 61, 62, 63, 8, 64, 21, 22, 23, 65, 66, 67, 68, 69, 70, 71, 72, 156, 157, 158, 159, 160, 161, 162, 163, 164, 165, 166, 167, 168, 169, 170, 171, 172] (by decide +kernel) (by decide +kernel)
set_option maxRecDepth 20000 in
theorem gX7_carryOutOrder_X7_carryOutFlash : GoodIn wsX7_carryOutOrder (wsV RX7 259 RX7 yX7_carryOutFlash wsX7_carryOutFlash) := goodIn_app (goodIn_of _ (by decide +kernel)) ggX7_carryOutOrder_X7_carryOutFlash
set_option maxRecDepth 20000 in
theorem ggX7_carryOutOrder_X7_carryOutPass : GoodIn wsX7_carryOutOrder wsX7_carryOutPass := goodIn_r _ [76, 1, 10, 4, 13, 77, 78, 79, 8, 80, 21, 22, 23, 156, 157, 158, 159, 160, 161, 162, 163, 164, 165, 166, 167, 168, 169, 170, 171, 172] (by decide +kernel) (by decide +kernel)
set_option maxRecDepth 20000 in
theorem gX7_carryOutOrder_X7_carryOutPass : GoodIn wsX7_carryOutOrder (wsV RX7 262 RX7 yX7_carryOutPass wsX7_carryOutPass) := goodIn_app (goodIn_of _ (by decide +kernel)) ggX7_carryOutOrder_X7_carryOutPass
set_option maxRecDepth 20000 in
theorem ggX7_carryOutOrder_X7_errorOfShoot : GoodIn wsX7_carryOutOrder wsX7_errorOfShoot := goodIn_r _ [84, 4, 85, 86, 87, 68, 88, 89, 90, 91, 92, 93, 70, 156, 157, 158, 159, 160, 161, 166, 167, 168, 169, 170, 171, 172] (by decide +kernel) (by decide +kernel)
set_option maxRecDepth 20000 in
theorem gX7_carryOutOrder_X7_errorOfShoot : GoodIn wsX7_carryOutOrder (wsV RX7 122 RX7 yX7_errorOfShoot wsX7_errorOfShoot) := goodIn_app (goodIn_of _ (by decide +kernel)) ggX7_carryOutOrder_X7_errorOfShoot
set_option maxRecDepth 20000 in
theorem ggX7_carryOutOrder_X0_takePicture : GoodIn wsX7_carryOutOrder wsX0_takePicture := goodIn_r _ [98, 99, 100, 101, 102, 103, 104, 91, 92, 68, 93, 70, 89, 105, 106, 107, 97, 108, 109, 110, 111, 112, 113, 114, 115, 116, 117, 71, 72, 22, 8, 23, 118, 119, 120, 121, 122, 123, 124, 125, 126, 127, 128, 33, 129, 36, 37, 130, 50, 51, 52, 35, 42, 40, 41, 44, 43, 53, 54, 55, 56, 131, 132, 133, 134, 135, 136, 137, 138, 139, 140, 141, 142, 143, 144, 145, 146, 147, 148, 149, 150, 151, 152, 153, 154, 155, 86, 87, 88, 90, 166, 167, 168, 169, 170, 171, 172, 183, 184, 185, 173, 174, 175, 176, 177, 178, 179, 180, 181, 182, 186] (by decide +kernel) (by decide +kernel)
set_option maxRecDepth 20000 in
theorem gX7_carryOutOrder_X0_takePicture : GoodIn wsX7_carryOutOrder (wsV RX7 126 RX0 yX0_takePicture wsX0_takePicture) := goodIn_app (goodIn_of _ (by decide +kernel)) ggX7_carryOutOrder_X0_takePicture
theorem dX7_carryOutOrder_0 : decode cX7_carryOutOrder 0 = .ok (.aload_n 0, 1) := by decide +kernel
theorem dX7_carryOutOrder_1 : decode cX7_carryOutOrder 1 = .ok (.getfield 46, 3) := by decide +kernel
theorem dX7_carryOutOrder_4 : decode cX7_carryOutOrder 4 = .ok (.getfield 252, 3) := by decide +kernel
theorem dX7_carryOutOrder_7 : decode cX7_carryOutOrder 7 = .ok (.bipush 103, 2) := by decide +kernel
theorem dX7_carryOutOrder_9 : decode cX7_carryOutOrder 9 = .ok (.if_icmp .ne 8, 3) := by decide +kernel
theorem dX7_carryOutOrder_12 : decode cX7_carryOutOrder 12 = .ok (.aload_n 0, 1) := by decide +kernel
theorem dX7_carryOutOrder_13 : decode cX7_carryOutOrder 13 = .ok (.invokevirtual 256, 3) := by decide +kernel
theorem dX7_carryOutOrder_16 : decode cX7_carryOutOrder 16 = .ok (.ireturn, 1) := by decide +kernel
theorem dX7_carryOutOrder_17 : decode cX7_carryOutOrder 17 = .ok (.aload_n 0, 1) := by decide +kernel
theorem dX7_carryOutOrder_18 : decode cX7_carryOutOrder 18 = .ok (.getfield 46, 3) := by decide +kernel
theorem dX7_carryOutOrder_21 : decode cX7_carryOutOrder 21 = .ok (.getfield 252, 3) := by decide +kernel
theorem dX7_carryOutOrder_24 : decode cX7_carryOutOrder 24 = .ok (.bipush 102, 2) := by decide +kernel
theorem dX7_carryOutOrder_26 : decode cX7_carryOutOrder 26 = .ok (.if_icmp .ne 8, 3) := by decide +kernel
theorem dX7_carryOutOrder_29 : decode cX7_carryOutOrder 29 = .ok (.aload_n 0, 1) := by decide +kernel
theorem dX7_carryOutOrder_30 : decode cX7_carryOutOrder 30 = .ok (.invokevirtual 259, 3) := by decide +kernel
theorem dX7_carryOutOrder_33 : decode cX7_carryOutOrder 33 = .ok (.ireturn, 1) := by decide +kernel
theorem dX7_carryOutOrder_34 : decode cX7_carryOutOrder 34 = .ok (.aload_n 0, 1) := by decide +kernel
theorem dX7_carryOutOrder_35 : decode cX7_carryOutOrder 35 = .ok (.getfield 46, 3) := by decide +kernel
theorem dX7_carryOutOrder_38 : decode cX7_carryOutOrder 38 = .ok (.getfield 252, 3) := by decide +kernel
theorem dX7_carryOutOrder_41 : decode cX7_carryOutOrder 41 = .ok (.bipush 119, 2) := by decide +kernel
theorem dX7_carryOutOrder_43 : decode cX7_carryOutOrder 43 = .ok (.if_icmp .ne 8, 3) := by decide +kernel
theorem dX7_carryOutOrder_46 : decode cX7_carryOutOrder 46 = .ok (.aload_n 0, 1) := by decide +kernel
theorem dX7_carryOutOrder_47 : decode cX7_carryOutOrder 47 = .ok (.invokevirtual 262, 3) := by decide +kernel
theorem dX7_carryOutOrder_50 : decode cX7_carryOutOrder 50 = .ok (.ireturn, 1) := by decide +kernel
theorem dX7_carryOutOrder_51 : decode cX7_carryOutOrder 51 = .ok (.aload_n 0, 1) := by decide +kernel
theorem dX7_carryOutOrder_52 : decode cX7_carryOutOrder 52 = .ok (.invokevirtual 122, 3) := by decide +kernel
theorem dX7_carryOutOrder_55 : decode cX7_carryOutOrder 55 = .ok (.istore_n 1, 1) := by decide +kernel
theorem dX7_carryOutOrder_56 : decode cX7_carryOutOrder 56 = .ok (.iload_n 1, 1) := by decide +kernel
theorem dX7_carryOutOrder_57 : decode cX7_carryOutOrder 57 = .ok (.ifCond .ne 14, 3) := by decide +kernel
theorem dX7_carryOutOrder_60 : decode cX7_carryOutOrder 60 = .ok (.aload_n 0, 1) := by decide +kernel
theorem dX7_carryOutOrder_61 : decode cX7_carryOutOrder 61 = .ok (.getfield 19, 3) := by decide +kernel
theorem dX7_carryOutOrder_64 : decode cX7_carryOutOrder 64 = .ok (.aload_n 0, 1) := by decide +kernel
theorem dX7_carryOutOrder_65 : decode cX7_carryOutOrder 65 = .ok (.getfield 10, 3) := by decide +kernel
theorem dX7_carryOutOrder_68 : decode cX7_carryOutOrder 68 = .ok (.invokevirtual 126, 3) := by decide +kernel
theorem dX7_carryOutOrder_71 : decode cX7_carryOutOrder 71 = .ok (.iload_n 1, 1) := by decide +kernel
theorem dX7_carryOutOrder_72 : decode cX7_carryOutOrder 72 = .ok (.ireturn, 1) := by decide +kernel
set_option maxRecDepth 20000 in
theorem ggX7_carryOutThing_X7_errorOfThing : GoodIn wsX7_carryOutThing wsX7_errorOfThing := goodIn_r _ [11, 3, 4, 5, 12, 13, 10, 14, 15, 16, 17, 51, 52, 53, 54, 55, 56, 61, 62, 63, 64, 65, 66, 67, 68, 69, 70, 71, 72, 73, 74, 75, 76, 77] (by decide +kernel) (by decide +kernel)
set_option maxRecDepth 20000 in
theorem gX7_carryOutThing_X7_errorOfThing : GoodIn wsX7_carryOutThing (wsV RX7 68 RX7 yX7_errorOfThing wsX7_errorOfThing) := goodIn_app (goodIn_of _ (by decide +kernel)) ggX7_carryOutThing_X7_errorOfThing
set_option maxRecDepth 20000 in
theorem ggX7_carryOutThing_X7_isSpeed : GoodIn wsX7_carryOutThing wsX7_isSpeed := goodIn_r _ [20, 15, 16, 10, 17] (by decide +kernel) (by decide +kernel)
set_option maxRecDepth 20000 in
theorem gX7_carryOutThing_X7_isSpeed : GoodIn wsX7_carryOutThing (va_wsS RX7 90 yX7_isSpeed wsX7_isSpeed) := goodIn_app (goodIn_of _ (by decide +kernel)) ggX7_carryOutThing_X7_isSpeed
set_option maxRecDepth 20000 in
theorem ggX7_carryOutThing_X7_canRide : GoodIn wsX7_carryOutThing wsX7_canRide := goodIn_r _ [23, 15, 16, 10, 17] (by decide +kernel) (by decide +kernel)
set_option maxRecDepth 20000 in
theorem gX7_carryOutThing_X7_canRide : GoodIn wsX7_carryOutThing (va_wsS RX7 103 yX7_canRide wsX7_canRide) := goodIn_app (goodIn_of _ (by decide +kernel)) ggX7_carryOutThing_X7_canRide
set_option maxRecDepth 20000 in
theorem ggX7_carryOutThing_X6_add : GoodIn wsX7_carryOutThing wsX6_add := goodIn_r _ [28, 29, 30, 31, 32, 33, 34, 35, 36, 37, 38, 68, 69, 70, 71, 72, 73, 74, 75, 76, 77] (by decide +kernel) (by decide +kernel)
set_option maxRecDepth 20000 in
theorem gX7_carryOutThing_X6_add : GoodIn wsX7_carryOutThing (wsV RX7 80 RX6 yX6_add wsX6_add) := goodIn_app (goodIn_of _ (by decide +kernel)) ggX7_carryOutThing_X6_add
set_option maxRecDepth 20000 in
theorem ggX7_carryOutThing_X6_comeAnew : GoodIn wsX7_carryOutThing wsX6_comeAnew := goodIn_r _ [42, 36, 35, 34, 37, 38, 43, 44, 45, 27, 46, 29, 47, 48, 49, 50, 68, 69, 70, 71, 72, 73, 74, 75, 76, 77] (by decide +kernel) (by decide +kernel)
set_option maxRecDepth 20000 in
theorem gX7_carryOutThing_X6_comeAnew : GoodIn wsX7_carryOutThing (wsV RX7 99 RX6 yX6_comeAnew wsX6_comeAnew) := goodIn_app (goodIn_of _ (by decide +kernel)) ggX7_carryOutThing_X6_comeAnew
theorem dX7_carryOutThing_0 : decode cX7_carryOutThing 0 = .ok (.aload_n 0, 1) := by decide +kernel
theorem dX7_carryOutThing_1 : decode cX7_carryOutThing 1 = .ok (.getfield 46, 3) := by decide +kernel
theorem dX7_carryOutThing_4 : decode cX7_carryOutThing 4 = .ok (.getfield 265, 3) := by decide +kernel
theorem dX7_carryOutThing_7 : decode cX7_carryOutThing 7 = .ok (.astore_n 1, 1) := by decide +kernel
theorem dX7_carryOutThing_8 : decode cX7_carryOutThing 8 = .ok (.aload_n 0, 1) := by decide +kernel
theorem dX7_carryOutThing_9 : decode cX7_carryOutThing 9 = .ok (.getfield 10, 3) := by decide +kernel
theorem dX7_carryOutThing_12 : decode cX7_carryOutThing 12 = .ok (.getfield 72, 3) := by decide +kernel
theorem dX7_carryOutThing_15 : decode cX7_carryOutThing 15 = .ok (.astore_n 2, 1) := by decide +kernel
theorem dX7_carryOutThing_16 : decode cX7_carryOutThing 16 = .ok (.aload_n 1, 1) := by decide +kernel
theorem dX7_carryOutThing_17 : decode cX7_carryOutThing 17 = .ok (.iconst 5, 1) := by decide +kernel
theorem dX7_carryOutThing_18 : decode cX7_carryOutThing 18 = .ok (.iaload, 1) := by decide +kernel
theorem dX7_carryOutThing_19 : decode cX7_carryOutThing 19 = .ok (.istore_n 3, 1) := by decide +kernel
theorem dX7_carryOutThing_20 : decode cX7_carryOutThing 20 = .ok (.aload_n 1, 1) := by decide +kernel
theorem dX7_carryOutThing_21 : decode cX7_carryOutThing 21 = .ok (.bipush 6, 2) := by decide +kernel
theorem dX7_carryOutThing_23 : decode cX7_carryOutThing 23 = .ok (.iaload, 1) := by decide +kernel
theorem dX7_carryOutThing_24 : decode cX7_carryOutThing 24 = .ok (.istore 4, 2) := by decide +kernel
theorem dX7_carryOutThing_26 : decode cX7_carryOutThing 26 = .ok (.aload_n 0, 1) := by decide +kernel
theorem dX7_carryOutThing_27 : decode cX7_carryOutThing 27 = .ok (.aload_n 1, 1) := by decide +kernel
theorem dX7_carryOutThing_28 : decode cX7_carryOutThing 28 = .ok (.iconst 0, 1) := by decide +kernel
theorem dX7_carryOutThing_29 : decode cX7_carryOutThing 29 = .ok (.iaload, 1) := by decide +kernel
theorem dX7_carryOutThing_30 : decode cX7_carryOutThing 30 = .ok (.aload_n 1, 1) := by decide +kernel
theorem dX7_carryOutThing_31 : decode cX7_carryOutThing 31 = .ok (.iconst 1, 1) := by decide +kernel
theorem dX7_carryOutThing_32 : decode cX7_carryOutThing 32 = .ok (.iaload, 1) := by decide +kernel
theorem dX7_carryOutThing_33 : decode cX7_carryOutThing 33 = .ok (.aload_n 1, 1) := by decide +kernel
theorem dX7_carryOutThing_34 : decode cX7_carryOutThing 34 = .ok (.iconst 2, 1) := by decide +kernel
theorem dX7_carryOutThing_35 : decode cX7_carryOutThing 35 = .ok (.iaload, 1) := by decide +kernel
theorem dX7_carryOutThing_36 : decode cX7_carryOutThing 36 = .ok (.aload_n 1, 1) := by decide +kernel
theorem dX7_carryOutThing_37 : decode cX7_carryOutThing 37 = .ok (.iconst 3, 1) := by decide +kernel
theorem dX7_carryOutThing_38 : decode cX7_carryOutThing 38 = .ok (.iaload, 1) := by decide +kernel
theorem dX7_carryOutThing_39 : decode cX7_carryOutThing 39 = .ok (.aload_n 1, 1) := by decide +kernel
theorem dX7_carryOutThing_40 : decode cX7_carryOutThing 40 = .ok (.iconst 4, 1) := by decide +kernel
theorem dX7_carryOutThing_41 : decode cX7_carryOutThing 41 = .ok (.iaload, 1) := by decide +kernel
theorem dX7_carryOutThing_42 : decode cX7_carryOutThing 42 = .ok (.invokevirtual 68, 3) := by decide +kernel
theorem dX7_carryOutThing_45 : decode cX7_carryOutThing 45 = .ok (.istore 5, 2) := by decide +kernel
theorem dX7_carryOutThing_47 : decode cX7_carryOutThing 47 = .ok (.iload 5, 2) := by decide +kernel
theorem dX7_carryOutThing_49 : decode cX7_carryOutThing 49 = .ok (.ifCond .eq 6, 3) := by decide +kernel
theorem dX7_carryOutThing_52 : decode cX7_carryOutThing 52 = .ok (.iload 5, 2) := by decide +kernel
theorem dX7_carryOutThing_54 : decode cX7_carryOutThing 54 = .ok (.ireturn, 1) := by decide +kernel
theorem dX7_carryOutThing_55 : decode cX7_carryOutThing 55 = .ok (.iload_n 3, 1) := by decide +kernel
theorem dX7_carryOutThing_56 : decode cX7_carryOutThing 56 = .ok (.invokestatic 90, 3) := by decide +kernel
theorem dX7_carryOutThing_59 : decode cX7_carryOutThing 59 = .ok (.ifCond .eq 15, 3) := by decide +kernel
theorem dX7_carryOutThing_62 : decode cX7_carryOutThing 62 = .ok (.aload_n 2, 1) := by decide +kernel
theorem dX7_carryOutThing_63 : decode cX7_carryOutThing 63 = .ok (.getfield 176, 3) := by decide +kernel
theorem dX7_carryOutThing_66 : decode cX7_carryOutThing 66 = .ok (.iload 4, 2) := by decide +kernel
theorem dX7_carryOutThing_68 : decode cX7_carryOutThing 68 = .ok (.invokestatic 103, 3) := by decide +kernel
theorem dX7_carryOutThing_71 : decode cX7_carryOutThing 71 = .ok (.ifCond .ne 6, 3) := by decide +kernel
theorem dX7_carryOutThing_74 : decode cX7_carryOutThing 74 = .ok (.bipush (-2), 2) := by decide +kernel
theorem dX7_carryOutThing_76 : decode cX7_carryOutThing 76 = .ok (.ireturn, 1) := by decide +kernel
theorem dX7_carryOutThing_77 : decode cX7_carryOutThing 77 = .ok (.aload_n 2, 1) := by decide +kernel
theorem dX7_carryOutThing_78 : decode cX7_carryOutThing 78 = .ok (.aload_n 1, 1) := by decide +kernel
theorem dX7_carryOutThing_79 : decode cX7_carryOutThing 79 = .ok (.iconst 0, 1) := by decide +kernel
theorem dX7_carryOutThing_80 : decode cX7_carryOutThing 80 = .ok (.iaload, 1) := by decide +kernel
theorem dX7_carryOutThing_81 : decode cX7_carryOutThing 81 = .ok (.aload_n 1, 1) := by decide +kernel
theorem dX7_carryOutThing_82 : decode cX7_carryOutThing 82 = .ok (.iconst 1, 1) := by decide +kernel
theorem dX7_carryOutThing_83 : decode cX7_carryOutThing 83 = .ok (.iaload, 1) := by decide +kernel
theorem dX7_carryOutThing_84 : decode cX7_carryOutThing 84 = .ok (.aload_n 1, 1) := by decide +kernel
theorem dX7_carryOutThing_85 : decode cX7_carryOutThing 85 = .ok (.iconst 2, 1) := by decide +kernel
theorem dX7_carryOutThing_86 : decode cX7_carryOutThing 86 = .ok (.iaload, 1) := by decide +kernel
theorem dX7_carryOutThing_87 : decode cX7_carryOutThing 87 = .ok (.aload_n 1, 1) := by decide +kernel
theorem dX7_carryOutThing_88 : decode cX7_carryOutThing 88 = .ok (.iconst 3, 1) := by decide +kernel
theorem dX7_carryOutThing_89 : decode cX7_carryOutThing 89 = .ok (.iaload, 1) := by decide +kernel
theorem dX7_carryOutThing_90 : decode cX7_carryOutThing 90 = .ok (.aload_n 1, 1) := by decide +kernel
theorem dX7_carryOutThing_91 : decode cX7_carryOutThing 91 = .ok (.iconst 4, 1) := by decide +kernel
theorem dX7_carryOutThing_92 : decode cX7_carryOutThing 92 = .ok (.iaload, 1) := by decide +kernel
theorem dX7_carryOutThing_93 : decode cX7_carryOutThing 93 = .ok (.aload_n 0, 1) := by decide +kernel
theorem dX7_carryOutThing_94 : decode cX7_carryOutThing 94 = .ok (.getfield 10, 3) := by decide +kernel
theorem dX7_carryOutThing_97 : decode cX7_carryOutThing 97 = .ok (.getfield 76, 3) := by decide +kernel
theorem dX7_carryOutThing_100 : decode cX7_carryOutThing 100 = .ok (.invokevirtual 80, 3) := by decide +kernel
theorem dX7_carryOutThing_103 : decode cX7_carryOutThing 103 = .ok (.istore 6, 2) := by decide +kernel
theorem dX7_carryOutThing_105 : decode cX7_carryOutThing 105 = .ok (.aload_n 2, 1) := by decide +kernel
theorem dX7_carryOutThing_106 : decode cX7_carryOutThing 106 = .ok (.iload 6, 2) := by decide +kernel
theorem dX7_carryOutThing_108 : decode cX7_carryOutThing 108 = .ok (.iload_n 3, 1) := by decide +kernel
theorem dX7_carryOutThing_109 : decode cX7_carryOutThing 109 = .ok (.iload 4, 2) := by decide +kernel
theorem dX7_carryOutThing_111 : decode cX7_carryOutThing 111 = .ok (.aload_n 0, 1) := by decide +kernel
theorem dX7_carryOutThing_112 : decode cX7_carryOutThing 112 = .ok (.getfield 10, 3) := by decide +kernel
theorem dX7_carryOutThing_115 : decode cX7_carryOutThing 115 = .ok (.getfield 76, 3) := by decide +kernel
theorem dX7_carryOutThing_118 : decode cX7_carryOutThing 118 = .ok (.invokevirtual 99, 3) := by decide +kernel
theorem dX7_carryOutThing_121 : decode cX7_carryOutThing 121 = .ok (.iconst 0, 1) := by decide +kernel
theorem dX7_carryOutThing_122 : decode cX7_carryOutThing 122 = .ok (.ireturn, 1) := by decide +kernel
set_option maxRecDepth 20000 in
theorem ggX7_carryOutFlash_X7_errorOfFlash : GoodIn wsX7_carryOutFlash wsX7_errorOfFlash := goodIn_r _ [8, 9, 10, 7, 11] (by decide +kernel) (by decide +kernel)
set_option maxRecDepth 20000 in
theorem gX7_carryOutFlash_X7_errorOfFlash : GoodIn wsX7_carryOutFlash (wsV RX7 107 RX7 yX7_errorOfFlash wsX7_errorOfFlash) := goodIn_app (goodIn_of _ (by decide +kernel)) ggX7_carryOutFlash_X7_errorOfFlash
set_option maxRecDepth 20000 in
theorem ggX7_carryOutFlash_X5_setFlash : GoodIn wsX7_carryOutFlash wsX5_setFlash := goodIn_r _ [16, 17, 18, 19, 30, 31, 32, 33, 34, 35, 36] (by decide +kernel) (by decide +kernel)
set_option maxRecDepth 20000 in
theorem gX7_carryOutFlash_X5_setFlash : GoodIn wsX7_carryOutFlash (wsV RX7 111 RX5 yX5_setFlash wsX5_setFlash) := goodIn_app (goodIn_of _ (by decide +kernel)) ggX7_carryOutFlash_X5_setFlash
theorem dX7_carryOutFlash_0 : decode cX7_carryOutFlash 0 = .ok (.aload_n 0, 1) := by decide +kernel
theorem dX7_carryOutFlash_1 : decode cX7_carryOutFlash 1 = .ok (.getfield 46, 3) := by decide +kernel
theorem dX7_carryOutFlash_4 : decode cX7_carryOutFlash 4 = .ok (.getfield 265, 3) := by decide +kernel
theorem dX7_carryOutFlash_7 : decode cX7_carryOutFlash 7 = .ok (.iconst 0, 1) := by decide +kernel
theorem dX7_carryOutFlash_8 : decode cX7_carryOutFlash 8 = .ok (.iaload, 1) := by decide +kernel
theorem dX7_carryOutFlash_9 : decode cX7_carryOutFlash 9 = .ok (.istore_n 1, 1) := by decide +kernel
theorem dX7_carryOutFlash_10 : decode cX7_carryOutFlash 10 = .ok (.aload_n 0, 1) := by decide +kernel
theorem dX7_carryOutFlash_11 : decode cX7_carryOutFlash 11 = .ok (.getfield 46, 3) := by decide +kernel
theorem dX7_carryOutFlash_14 : decode cX7_carryOutFlash 14 = .ok (.getfield 265, 3) := by decide +kernel
theorem dX7_carryOutFlash_17 : decode cX7_carryOutFlash 17 = .ok (.iconst 1, 1) := by decide +kernel
theorem dX7_carryOutFlash_18 : decode cX7_carryOutFlash 18 = .ok (.iaload, 1) := by decide +kernel
theorem dX7_carryOutFlash_19 : decode cX7_carryOutFlash 19 = .ok (.istore_n 2, 1) := by decide +kernel
theorem dX7_carryOutFlash_20 : decode cX7_carryOutFlash 20 = .ok (.aload_n 0, 1) := by decide +kernel
theorem dX7_carryOutFlash_21 : decode cX7_carryOutFlash 21 = .ok (.iload_n 1, 1) := by decide +kernel
theorem dX7_carryOutFlash_22 : decode cX7_carryOutFlash 22 = .ok (.iload_n 2, 1) := by decide +kernel
theorem dX7_carryOutFlash_23 : decode cX7_carryOutFlash 23 = .ok (.invokevirtual 107, 3) := by decide +kernel
theorem dX7_carryOutFlash_26 : decode cX7_carryOutFlash 26 = .ok (.istore_n 3, 1) := by decide +kernel
theorem dX7_carryOutFlash_27 : decode cX7_carryOutFlash 27 = .ok (.iload_n 3, 1) := by decide +kernel
theorem dX7_carryOutFlash_28 : decode cX7_carryOutFlash 28 = .ok (.ifCond .ne 12, 3) := by decide +kernel
theorem dX7_carryOutFlash_31 : decode cX7_carryOutFlash 31 = .ok (.aload_n 0, 1) := by decide +kernel
theorem dX7_carryOutFlash_32 : decode cX7_carryOutFlash 32 = .ok (.getfield 10, 3) := by decide +kernel
theorem dX7_carryOutFlash_35 : decode cX7_carryOutFlash 35 = .ok (.iload_n 1, 1) := by decide +kernel
theorem dX7_carryOutFlash_36 : decode cX7_carryOutFlash 36 = .ok (.iload_n 2, 1) := by decide +kernel
theorem dX7_carryOutFlash_37 : decode cX7_carryOutFlash 37 = .ok (.invokevirtual 111, 3) := by decide +kernel
theorem dX7_carryOutFlash_40 : decode cX7_carryOutFlash 40 = .ok (.iload_n 3, 1) := by decide +kernel
theorem dX7_carryOutFlash_41 : decode cX7_carryOutFlash 41 = .ok (.ireturn, 1) := by decide +kernel
set_option maxRecDepth 20000 in
theorem ggX7_carryOutPass_X7_errorOfPass : GoodIn wsX7_carryOutPass wsX7_errorOfPass := goodIn_r _ [9, 3, 4, 10, 11, 8, 12, 13, 14, 15, 16, 17, 18, 23, 24, 25, 26, 27, 28, 29] (by decide +kernel) (by decide +kernel)
set_option maxRecDepth 20000 in
theorem gX7_carryOutPass_X7_errorOfPass : GoodIn wsX7_carryOutPass (wsV RX7 118 RX7 yX7_errorOfPass wsX7_errorOfPass) := goodIn_app (goodIn_of _ (by decide +kernel)) ggX7_carryOutPass_X7_errorOfPass
theorem dX7_carryOutPass_0 : decode cX7_carryOutPass 0 = .ok (.aload_n 0, 1) := by decide +kernel
theorem dX7_carryOutPass_1 : decode cX7_carryOutPass 1 = .ok (.getfield 46, 3) := by decide +kernel
theorem dX7_carryOutPass_4 : decode cX7_carryOutPass 4 = .ok (.getfield 265, 3) := by decide +kernel
theorem dX7_carryOutPass_7 : decode cX7_carryOutPass 7 = .ok (.iconst 0, 1) := by decide +kernel
theorem dX7_carryOutPass_8 : decode cX7_carryOutPass 8 = .ok (.iaload, 1) := by decide +kernel
theorem dX7_carryOutPass_9 : decode cX7_carryOutPass 9 = .ok (.istore_n 1, 1) := by decide +kernel
theorem dX7_carryOutPass_10 : decode cX7_carryOutPass 10 = .ok (.aload_n 0, 1) := by decide +kernel
theorem dX7_carryOutPass_11 : decode cX7_carryOutPass 11 = .ok (.iload_n 1, 1) := by decide +kernel
theorem dX7_carryOutPass_12 : decode cX7_carryOutPass 12 = .ok (.invokevirtual 118, 3) := by decide +kernel
theorem dX7_carryOutPass_15 : decode cX7_carryOutPass 15 = .ok (.istore_n 2, 1) := by decide +kernel
theorem dX7_carryOutPass_16 : decode cX7_carryOutPass 16 = .ok (.iload_n 2, 1) := by decide +kernel
theorem dX7_carryOutPass_17 : decode cX7_carryOutPass 17 = .ok (.ifCond .ne 16, 3) := by decide +kernel
theorem dX7_carryOutPass_20 : decode cX7_carryOutPass 20 = .ok (.aload_n 0, 1) := by decide +kernel
theorem dX7_carryOutPass_21 : decode cX7_carryOutPass 21 = .ok (.getfield 10, 3) := by decide +kernel
theorem dX7_carryOutPass_24 : decode cX7_carryOutPass 24 = .ok (.dup, 1) := by decide +kernel
theorem dX7_carryOutPass_25 : decode cX7_carryOutPass 25 = .ok (.getfield 76, 3) := by decide +kernel
theorem dX7_carryOutPass_28 : decode cX7_carryOutPass 28 = .ok (.iload_n 1, 1) := by decide +kernel
theorem dX7_carryOutPass_29 : decode cX7_carryOutPass 29 = .ok (.iadd, 1) := by decide +kernel
theorem dX7_carryOutPass_30 : decode cX7_carryOutPass 30 = .ok (.putfield 76, 3) := by decide +kernel
theorem dX7_carryOutPass_33 : decode cX7_carryOutPass 33 = .ok (.iload_n 2, 1) := by decide +kernel
theorem dX7_carryOutPass_34 : decode cX7_carryOutPass 34 = .ok (.ireturn, 1) := by decide +kernel
theorem dX8_init_0 : decode cX8_init 0 = .ok (.aload_n 0, 1) := by decide +kernel
theorem dX8_init_1 : decode cX8_init 1 = .ok (.invokespecial 1, 3) := by decide +kernel
theorem dX8_init_4 : decode cX8_init 4 = .ok (.aload_n 0, 1) := by decide +kernel
theorem dX8_init_5 : decode cX8_init 5 = .ok (.sipush 465, 3) := by decide +kernel
theorem dX8_init_8 : decode cX8_init 8 = .ok (.newarray .int, 2) := by decide +kernel
theorem dX8_init_10 : decode cX8_init 10 = .ok (.putfield 7, 3) := by decide +kernel
theorem dX8_init_13 : decode cX8_init 13 = .ok (.aload_n 0, 1) := by decide +kernel
theorem dX8_init_14 : decode cX8_init 14 = .ok (.sipush 2790, 3) := by decide +kernel
theorem dX8_init_17 : decode cX8_init 17 = .ok (.newarray .int, 2) := by decide +kernel
theorem dX8_init_19 : decode cX8_init 19 = .ok (.putfield 13, 3) := by decide +kernel
theorem dX8_init_22 : decode cX8_init 22 = .ok (.aload_n 0, 1) := by decide +kernel
theorem dX8_init_23 : decode cX8_init 23 = .ok (.sipush 930, 3) := by decide +kernel
theorem dX8_init_26 : decode cX8_init 26 = .ok (.newarray .int, 2) := by decide +kernel
theorem dX8_init_28 : decode cX8_init 28 = .ok (.putfield 16, 3) := by decide +kernel
theorem dX8_init_31 : decode cX8_init 31 = .ok (.aload_n 0, 1) := by decide +kernel
theorem dX8_init_32 : decode cX8_init 32 = .ok (.iconst 2, 1) := by decide +kernel
theorem dX8_init_33 : decode cX8_init 33 = .ok (.newarray .boolean, 2) := by decide +kernel
theorem dX8_init_35 : decode cX8_init 35 = .ok (.putfield 19, 3) := by decide +kernel
theorem dX8_init_38 : decode cX8_init 38 = .ok (.aload_n 0, 1) := by decide +kernel
theorem dX8_init_39 : decode cX8_init 39 = .ok (.bipush 80, 2) := by decide +kernel
theorem dX8_init_41 : decode cX8_init 41 = .ok (.newarray .int, 2) := by decide +kernel
theorem dX8_init_43 : decode cX8_init 43 = .ok (.putfield 23, 3) := by decide +kernel
theorem dX8_init_46 : decode cX8_init 46 = .ok (.aload_n 0, 1) := by decide +kernel
theorem dX8_init_47 : decode cX8_init 47 = .ok (.getfield 7, 3) := by decide +kernel
theorem dX8_init_50 : decode cX8_init 50 = .ok (.iconst 0, 1) := by decide +kernel
theorem dX8_init_51 : decode cX8_init 51 = .ok (.iconst 2, 1) := by decide +kernel
theorem dX8_init_52 : decode cX8_init 52 = .ok (.iastore, 1) := by decide +kernel
theorem dX8_init_53 : decode cX8_init 53 = .ok (.aload_n 0, 1) := by decide +kernel
theorem dX8_init_54 : decode cX8_init 54 = .ok (.getfield 7, 3) := by decide +kernel
theorem dX8_init_57 : decode cX8_init 57 = .ok (.iconst 1, 1) := by decide +kernel
theorem dX8_init_58 : decode cX8_init 58 = .ok (.iconst 4, 1) := by decide +kernel
theorem dX8_init_59 : decode cX8_init 59 = .ok (.iastore, 1) := by decide +kernel
theorem dX8_init_60 : decode cX8_init 60 = .ok (.aload_n 0, 1) := by decide +kernel
theorem dX8_init_61 : decode cX8_init 61 = .ok (.getfield 7, 3) := by decide +kernel
theorem dX8_init_64 : decode cX8_init 64 = .ok (.iconst 3, 1) := by decide +kernel
theorem dX8_init_65 : decode cX8_init 65 = .ok (.iconst 1, 1) := by decide +kernel
theorem dX8_init_66 : decode cX8_init 66 = .ok (.iastore, 1) := by decide +kernel
theorem dX8_init_67 : decode cX8_init 67 = .ok (.aload_n 0, 1) := by decide +kernel
theorem dX8_init_68 : decode cX8_init 68 = .ok (.getfield 7, 3) := by decide +kernel
theorem dX8_init_71 : decode cX8_init 71 = .ok (.bipush 7, 2) := by decide +kernel
theorem dX8_init_73 : decode cX8_init 73 = .ok (.iconst (-1), 1) := by decide +kernel
theorem dX8_init_74 : decode cX8_init 74 = .ok (.iastore, 1) := by decide +kernel
theorem dX8_init_75 : decode cX8_init 75 = .ok (.return_, 1) := by decide +kernel
theorem dX8_in_0 : decode cX8_in 0 = .ok (.iload_n 0, 1) := by decide +kernel
theorem dX8_in_1 : decode cX8_in 1 = .ok (.iload_n 1, 1) := by decide +kernel
theorem dX8_in_2 : decode cX8_in 2 = .ok (.if_icmp .lt 12, 3) := by decide +kernel
theorem dX8_in_5 : decode cX8_in 5 = .ok (.iload_n 0, 1) := by decide +kernel
theorem dX8_in_6 : decode cX8_in 6 = .ok (.iload_n 2, 1) := by decide +kernel
theorem dX8_in_7 : decode cX8_in 7 = .ok (.if_icmp .gt 7, 3) := by decide +kernel
theorem dX8_in_10 : decode cX8_in 10 = .ok (.iconst 1, 1) := by decide +kernel
theorem dX8_in_11 : decode cX8_in 11 = .ok (.goto 4, 3) := by decide +kernel
theorem dX8_in_14 : decode cX8_in 14 = .ok (.iconst 0, 1) := by decide +kernel
theorem dX8_in_15 : decode cX8_in 15 = .ok (.ireturn, 1) := by decide +kernel
theorem dX8_remembers_0 : decode cX8_remembers 0 = .ok (.aload_n 0, 1) := by decide +kernel
theorem dX8_remembers_1 : decode cX8_remembers 1 = .ok (.getfield 26, 3) := by decide +kernel
theorem dX8_remembers_4 : decode cX8_remembers 4 = .ok (.bipush 6, 2) := by decide +kernel
theorem dX8_remembers_6 : decode cX8_remembers 6 = .ok (.if_icmp .ne 44, 3) := by decide +kernel
theorem dX8_remembers_9 : decode cX8_remembers 9 = .ok (.iconst 0, 1) := by decide +kernel
theorem dX8_remembers_10 : decode cX8_remembers 10 = .ok (.istore_n 1, 1) := by decide +kernel
theorem dX8_remembers_11 : decode cX8_remembers 11 = .ok (.iload_n 1, 1) := by decide +kernel
theorem dX8_remembers_12 : decode cX8_remembers 12 = .ok (.sipush 2325, 3) := by decide +kernel
theorem dX8_remembers_15 : decode cX8_remembers 15 = .ok (.if_icmp .ge 25, 3) := by decide +kernel
theorem dX8_remembers_18 : decode cX8_remembers 18 = .ok (.aload_n 0, 1) := by decide +kernel
theorem dX8_remembers_19 : decode cX8_remembers 19 = .ok (.getfield 13, 3) := by decide +kernel
theorem dX8_remembers_22 : decode cX8_remembers 22 = .ok (.iload_n 1, 1) := by decide +kernel
theorem dX8_remembers_23 : decode cX8_remembers 23 = .ok (.aload_n 0, 1) := by decide +kernel
theorem dX8_remembers_24 : decode cX8_remembers 24 = .ok (.getfield 13, 3) := by decide +kernel
theorem dX8_remembers_27 : decode cX8_remembers 27 = .ok (.sipush 465, 3) := by decide +kernel
theorem dX8_remembers_30 : decode cX8_remembers 30 = .ok (.iload_n 1, 1) := by decide +kernel
theorem dX8_remembers_31 : decode cX8_remembers 31 = .ok (.iadd, 1) := by decide +kernel
theorem dX8_remembers_32 : decode cX8_remembers 32 = .ok (.iaload, 1) := by decide +kernel
theorem dX8_remembers_33 : decode cX8_remembers 33 = .ok (.iastore, 1) := by decide +kernel
theorem dX8_remembers_34 : decode cX8_remembers 34 = .ok (.iinc 1 1, 3) := by decide +kernel
theorem dX8_remembers_37 : decode cX8_remembers 37 = .ok (.goto (-26), 3) := by decide +kernel
theorem dX8_remembers_40 : decode cX8_remembers 40 = .ok (.aload_n 0, 1) := by decide +kernel
theorem dX8_remembers_41 : decode cX8_remembers 41 = .ok (.dup, 1) := by decide +kernel
theorem dX8_remembers_42 : decode cX8_remembers 42 = .ok (.getfield 26, 3) := by decide +kernel
theorem dX8_remembers_45 : decode cX8_remembers 45 = .ok (.iconst 1, 1) := by decide +kernel
theorem dX8_remembers_46 : decode cX8_remembers 46 = .ok (.isub, 1) := by decide +kernel
theorem dX8_remembers_47 : decode cX8_remembers 47 = .ok (.putfield 26, 3) := by decide +kernel
theorem dX8_remembers_50 : decode cX8_remembers 50 = .ok (.iconst 0, 1) := by decide +kernel
theorem dX8_remembers_51 : decode cX8_remembers 51 = .ok (.istore_n 1, 1) := by decide +kernel
theorem dX8_remembers_52 : decode cX8_remembers 52 = .ok (.iload_n 1, 1) := by decide +kernel
theorem dX8_remembers_53 : decode cX8_remembers 53 = .ok (.sipush 465, 3) := by decide +kernel
theorem dX8_remembers_56 : decode cX8_remembers 56 = .ok (.if_icmp .ge 30, 3) := by decide +kernel
theorem dX8_remembers_59 : decode cX8_remembers 59 = .ok (.aload_n 0, 1) := by decide +kernel
theorem dX8_remembers_60 : decode cX8_remembers 60 = .ok (.getfield 13, 3) := by decide +kernel
theorem dX8_remembers_63 : decode cX8_remembers 63 = .ok (.sipush 465, 3) := by decide +kernel
theorem dX8_remembers_66 : decode cX8_remembers 66 = .ok (.aload_n 0, 1) := by decide +kernel
theorem dX8_remembers_67 : decode cX8_remembers 67 = .ok (.getfield 26, 3) := by decide +kernel
theorem dX8_remembers_70 : decode cX8_remembers 70 = .ok (.imul, 1) := by decide +kernel
theorem dX8_remembers_71 : decode cX8_remembers 71 = .ok (.iload_n 1, 1) := by decide +kernel
theorem dX8_remembers_72 : decode cX8_remembers 72 = .ok (.iadd, 1) := by decide +kernel
theorem dX8_remembers_73 : decode cX8_remembers 73 = .ok (.aload_n 0, 1) := by decide +kernel
theorem dX8_remembers_74 : decode cX8_remembers 74 = .ok (.getfield 7, 3) := by decide +kernel
theorem dX8_remembers_77 : decode cX8_remembers 77 = .ok (.iload_n 1, 1) := by decide +kernel
theorem dX8_remembers_78 : decode cX8_remembers 78 = .ok (.iaload, 1) := by decide +kernel
theorem dX8_remembers_79 : decode cX8_remembers 79 = .ok (.iastore, 1) := by decide +kernel
theorem dX8_remembers_80 : decode cX8_remembers 80 = .ok (.iinc 1 1, 3) := by decide +kernel
theorem dX8_remembers_83 : decode cX8_remembers 83 = .ok (.goto (-31), 3) := by decide +kernel
theorem dX8_remembers_86 : decode cX8_remembers 86 = .ok (.aload_n 0, 1) := by decide +kernel
theorem dX8_remembers_87 : decode cX8_remembers 87 = .ok (.dup, 1) := by decide +kernel
theorem dX8_remembers_88 : decode cX8_remembers 88 = .ok (.getfield 26, 3) := by decide +kernel
theorem dX8_remembers_91 : decode cX8_remembers 91 = .ok (.iconst 1, 1) := by decide +kernel
theorem dX8_remembers_92 : decode cX8_remembers 92 = .ok (.iadd, 1) := by decide +kernel
theorem dX8_remembers_93 : decode cX8_remembers 93 = .ok (.putfield 26, 3) := by decide +kernel
theorem dX8_remembers_96 : decode cX8_remembers 96 = .ok (.return_, 1) := by decide +kernel
set_option maxRecDepth 20000 in
theorem ggX8_isThing_X8_in : GoodIn wsX8_isThing wsX8_in := goodIn_r _ [5] (by decide +kernel) (by decide +kernel)
set_option maxRecDepth 20000 in
theorem gX8_isThing_X8_in : GoodIn wsX8_isThing (va_wsS RX8 30 yX8_in wsX8_in) := goodIn_app (goodIn_of _ (by decide +kernel)) ggX8_isThing_X8_in
theorem dX8_isThing_0 : decode cX8_isThing 0 = .ok (.iload_n 1, 1) := by decide +kernel
theorem dX8_isThing_1 : decode cX8_isThing 1 = .ok (.iconst 0, 1) := by decide +kernel
theorem dX8_isThing_2 : decode cX8_isThing 2 = .ok (.aload_n 0, 1) := by decide +kernel
theorem dX8_isThing_3 : decode cX8_isThing 3 = .ok (.getfield 7, 3) := by decide +kernel
theorem dX8_isThing_6 : decode cX8_isThing 6 = .ok (.iconst 5, 1) := by decide +kernel
theorem dX8_isThing_7 : decode cX8_isThing 7 = .ok (.iaload, 1) := by decide +kernel
theorem dX8_isThing_8 : decode cX8_isThing 8 = .ok (.iconst 1, 1) := by decide +kernel
theorem dX8_isThing_9 : decode cX8_isThing 9 = .ok (.isub, 1) := by decide +kernel
theorem dX8_isThing_10 : decode cX8_isThing 10 = .ok (.invokestatic 30, 3) := by decide +kernel
theorem dX8_isThing_13 : decode cX8_isThing 13 = .ok (.ireturn, 1) := by decide +kernel
theorem dX8_its_0 : decode cX8_its 0 = .ok (.aload_n 0, 1) := by decide +kernel
theorem dX8_its_1 : decode cX8_its 1 = .ok (.getfield 7, 3) := by decide +kernel
theorem dX8_its_4 : decode cX8_its 4 = .ok (.bipush 9, 2) := by decide +kernel
theorem dX8_its_6 : decode cX8_its 6 = .ok (.bipush 9, 2) := by decide +kernel
theorem dX8_its_8 : decode cX8_its 8 = .ok (.iload_n 1, 1) := by decide +kernel
theorem dX8_its_9 : decode cX8_its 9 = .ok (.imul, 1) := by decide +kernel
theorem dX8_its_10 : decode cX8_its 10 = .ok (.iadd, 1) := by decide +kernel
theorem dX8_its_11 : decode cX8_its 11 = .ok (.iload_n 2, 1) := by decide +kernel
theorem dX8_its_12 : decode cX8_its 12 = .ok (.iadd, 1) := by decide +kernel
theorem dX8_its_13 : decode cX8_its 13 = .ok (.iaload, 1) := by decide +kernel
theorem dX8_its_14 : decode cX8_its 14 = .ok (.ireturn, 1) := by decide +kernel
theorem dX8_tenth_0 : decode cX8_tenth 0 = .ok (.iload_n 0, 1) := by decide +kernel
theorem dX8_tenth_1 : decode cX8_tenth 1 = .ok (.ifCond .lt 10, 3) := by decide +kernel
theorem dX8_tenth_4 : decode cX8_tenth 4 = .ok (.iload_n 0, 1) := by decide +kernel
theorem dX8_tenth_5 : decode cX8_tenth 5 = .ok (.bipush 10, 2) := by decide +kernel
theorem dX8_tenth_7 : decode cX8_tenth 7 = .ok (.idiv, 1) := by decide +kernel
theorem dX8_tenth_8 : decode cX8_tenth 8 = .ok (.goto 11, 3) := by decide +kernel
theorem dX8_tenth_11 : decode cX8_tenth 11 = .ok (.bipush 9, 2) := by decide +kernel
theorem dX8_tenth_13 : decode cX8_tenth 13 = .ok (.iload_n 0, 1) := by decide +kernel
theorem dX8_tenth_14 : decode cX8_tenth 14 = .ok (.isub, 1) := by decide +kernel
theorem dX8_tenth_15 : decode cX8_tenth 15 = .ok (.bipush 10, 2) := by decide +kernel
theorem dX8_tenth_17 : decode cX8_tenth 17 = .ok (.idiv, 1) := by decide +kernel
theorem dX8_tenth_18 : decode cX8_tenth 18 = .ok (.ineg, 1) := by decide +kernel
theorem dX8_tenth_19 : decode cX8_tenth 19 = .ok (.ireturn, 1) := by decide +kernel
set_option maxRecDepth 20000 in
theorem ggX8_left_X8_its : GoodIn wsX8_left wsX8_its := goodIn_r _ [5, 6, 10, 11, 12, 13, 14, 15, 16] (by decide +kernel) (by decide +kernel)
set_option maxRecDepth 20000 in
theorem gX8_left_X8_its : GoodIn wsX8_left (wsV RX8 34 RX8 yX8_its wsX8_its) := goodIn_app (goodIn_of _ (by decide +kernel)) ggX8_left_X8_its
set_option maxRecDepth 20000 in
theorem ggX8_left_X8_tenth : GoodIn wsX8_left wsX8_tenth := goodIn_r _ [9] (by decide +kernel) (by decide +kernel)
set_option maxRecDepth 20000 in
theorem gX8_left_X8_tenth : GoodIn wsX8_left (va_wsS RX8 38 yX8_tenth wsX8_tenth) := goodIn_app (goodIn_of _ (by decide +kernel)) ggX8_left_X8_tenth
theorem dX8_left_0 : decode cX8_left 0 = .ok (.iconst 0, 1) := by decide +kernel
theorem dX8_left_1 : decode cX8_left 1 = .ok (.istore_n 3, 1) := by decide +kernel
theorem dX8_left_2 : decode cX8_left 2 = .ok (.iload_n 1, 1) := by decide +kernel
theorem dX8_left_3 : decode cX8_left 3 = .ok (.istore 4, 2) := by decide +kernel
theorem dX8_left_5 : decode cX8_left 5 = .ok (.iload 4, 2) := by decide +kernel
theorem dX8_left_7 : decode cX8_left 7 = .ok (.ifCond .lt 74, 3) := by decide +kernel
theorem dX8_left_10 : decode cX8_left 10 = .ok (.iload_n 3, 1) := by decide +kernel
theorem dX8_left_11 : decode cX8_left 11 = .ok (.aload_n 0, 1) := by decide +kernel
theorem dX8_left_12 : decode cX8_left 12 = .ok (.iload 4, 2) := by decide +kernel
theorem dX8_left_14 : decode cX8_left 14 = .ok (.iconst 1, 1) := by decide +kernel
theorem dX8_left_15 : decode cX8_left 15 = .ok (.invokevirtual 34, 3) := by decide +kernel
theorem dX8_left_18 : decode cX8_left 18 = .ok (.aload_n 0, 1) := by decide +kernel
theorem dX8_left_19 : decode cX8_left 19 = .ok (.iload 4, 2) := by decide +kernel
theorem dX8_left_21 : decode cX8_left 21 = .ok (.iconst 5, 1) := by decide +kernel
theorem dX8_left_22 : decode cX8_left 22 = .ok (.invokevirtual 34, 3) := by decide +kernel
theorem dX8_left_25 : decode cX8_left 25 = .ok (.iload_n 2, 1) := by decide +kernel
theorem dX8_left_26 : decode cX8_left 26 = .ok (.aload_n 0, 1) := by decide +kernel
theorem dX8_left_27 : decode cX8_left 27 = .ok (.iload 4, 2) := by decide +kernel
theorem dX8_left_29 : decode cX8_left 29 = .ok (.bipush 6, 2) := by decide +kernel
theorem dX8_left_31 : decode cX8_left 31 = .ok (.invokevirtual 34, 3) := by decide +kernel
theorem dX8_left_34 : decode cX8_left 34 = .ok (.isub, 1) := by decide +kernel
theorem dX8_left_35 : decode cX8_left 35 = .ok (.imul, 1) := by decide +kernel
theorem dX8_left_36 : decode cX8_left 36 = .ok (.invokestatic 38, 3) := by decide +kernel
theorem dX8_left_39 : decode cX8_left 39 = .ok (.iadd, 1) := by decide +kernel
theorem dX8_left_40 : decode cX8_left 40 = .ok (.iadd, 1) := by decide +kernel
theorem dX8_left_41 : decode cX8_left 41 = .ok (.istore_n 3, 1) := by decide +kernel
theorem dX8_left_42 : decode cX8_left 42 = .ok (.iload_n 3, 1) := by decide +kernel
theorem dX8_left_43 : decode cX8_left 43 = .ok (.aload_n 0, 1) := by decide +kernel
theorem dX8_left_44 : decode cX8_left 44 = .ok (.iload 4, 2) := by decide +kernel
theorem dX8_left_46 : decode cX8_left 46 = .ok (.bipush 7, 2) := by decide +kernel
theorem dX8_left_48 : decode cX8_left 48 = .ok (.invokevirtual 34, 3) := by decide +kernel
theorem dX8_left_51 : decode cX8_left 51 = .ok (.ifCond .lt 14, 3) := by decide +kernel
theorem dX8_left_54 : decode cX8_left 54 = .ok (.aload_n 0, 1) := by decide +kernel
theorem dX8_left_55 : decode cX8_left 55 = .ok (.iload 4, 2) := by decide +kernel
theorem dX8_left_57 : decode cX8_left 57 = .ok (.bipush 8, 2) := by decide +kernel
theorem dX8_left_59 : decode cX8_left 59 = .ok (.invokevirtual 34, 3) := by decide +kernel
theorem dX8_left_62 : decode cX8_left 62 = .ok (.goto 4, 3) := by decide +kernel
theorem dX8_left_65 : decode cX8_left 65 = .ok (.iconst 0, 1) := by decide +kernel
theorem dX8_left_66 : decode cX8_left 66 = .ok (.isub, 1) := by decide +kernel
theorem dX8_left_67 : decode cX8_left 67 = .ok (.istore_n 3, 1) := by decide +kernel
theorem dX8_left_68 : decode cX8_left 68 = .ok (.aload_n 0, 1) := by decide +kernel
theorem dX8_left_69 : decode cX8_left 69 = .ok (.iload 4, 2) := by decide +kernel
theorem dX8_left_71 : decode cX8_left 71 = .ok (.bipush 7, 2) := by decide +kernel
theorem dX8_left_73 : decode cX8_left 73 = .ok (.invokevirtual 34, 3) := by decide +kernel
theorem dX8_left_76 : decode cX8_left 76 = .ok (.istore 4, 2) := by decide +kernel
theorem dX8_left_78 : decode cX8_left 78 = .ok (.goto (-73), 3) := by decide +kernel
theorem dX8_left_81 : decode cX8_left 81 = .ok (.iload_n 3, 1) := by decide +kernel
theorem dX8_left_82 : decode cX8_left 82 = .ok (.ireturn, 1) := by decide +kernel
set_option maxRecDepth 20000 in
theorem ggX8_anew_X8_left : GoodIn wsX8_anew wsX8_left := goodIn_r _ [6, 7, 8, 9, 5, 10, 1, 11, 12, 13, 14, 15, 16, 17, 18, 19, 20] (by decide +kernel) (by decide +kernel)
set_option maxRecDepth 20000 in
theorem gX8_anew_X8_left : GoodIn wsX8_anew (wsV RX8 42 RX8 yX8_left wsX8_left) := goodIn_app (goodIn_of _ (by decide +kernel)) ggX8_anew_X8_left
theorem dX8_anew_0 : decode cX8_anew 0 = .ok (.bipush 9, 2) := by decide +kernel
theorem dX8_anew_2 : decode cX8_anew 2 = .ok (.bipush 9, 2) := by decide +kernel
theorem dX8_anew_4 : decode cX8_anew 4 = .ok (.iload_n 1, 1) := by decide +kernel
theorem dX8_anew_5 : decode cX8_anew 5 = .ok (.imul, 1) := by decide +kernel
theorem dX8_anew_6 : decode cX8_anew 6 = .ok (.iadd, 1) := by decide +kernel
theorem dX8_anew_7 : decode cX8_anew 7 = .ok (.istore 4, 2) := by decide +kernel
theorem dX8_anew_9 : decode cX8_anew 9 = .ok (.aload_n 0, 1) := by decide +kernel
theorem dX8_anew_10 : decode cX8_anew 10 = .ok (.getfield 7, 3) := by decide +kernel
theorem dX8_anew_13 : decode cX8_anew 13 = .ok (.iload 4, 2) := by decide +kernel
theorem dX8_anew_15 : decode cX8_anew 15 = .ok (.iconst 1, 1) := by decide +kernel
theorem dX8_anew_16 : decode cX8_anew 16 = .ok (.iadd, 1) := by decide +kernel
theorem dX8_anew_17 : decode cX8_anew 17 = .ok (.aload_n 0, 1) := by decide +kernel
theorem dX8_anew_18 : decode cX8_anew 18 = .ok (.iload_n 1, 1) := by decide +kernel
theorem dX8_anew_19 : decode cX8_anew 19 = .ok (.aload_n 0, 1) := by decide +kernel
theorem dX8_anew_20 : decode cX8_anew 20 = .ok (.getfield 7, 3) := by decide +kernel
theorem dX8_anew_23 : decode cX8_anew 23 = .ok (.iconst 4, 1) := by decide +kernel
theorem dX8_anew_24 : decode cX8_anew 24 = .ok (.iaload, 1) := by decide +kernel
theorem dX8_anew_25 : decode cX8_anew 25 = .ok (.invokevirtual 42, 3) := by decide +kernel
theorem dX8_anew_28 : decode cX8_anew 28 = .ok (.iastore, 1) := by decide +kernel
theorem dX8_anew_29 : decode cX8_anew 29 = .ok (.aload_n 0, 1) := by decide +kernel
theorem dX8_anew_30 : decode cX8_anew 30 = .ok (.getfield 7, 3) := by decide +kernel
theorem dX8_anew_33 : decode cX8_anew 33 = .ok (.iload 4, 2) := by decide +kernel
theorem dX8_anew_35 : decode cX8_anew 35 = .ok (.iconst 5, 1) := by decide +kernel
theorem dX8_anew_36 : decode cX8_anew 36 = .ok (.iadd, 1) := by decide +kernel
theorem dX8_anew_37 : decode cX8_anew 37 = .ok (.iload_n 2, 1) := by decide +kernel
theorem dX8_anew_38 : decode cX8_anew 38 = .ok (.iastore, 1) := by decide +kernel
theorem dX8_anew_39 : decode cX8_anew 39 = .ok (.aload_n 0, 1) := by decide +kernel
theorem dX8_anew_40 : decode cX8_anew 40 = .ok (.getfield 7, 3) := by decide +kernel
theorem dX8_anew_43 : decode cX8_anew 43 = .ok (.iload 4, 2) := by decide +kernel
theorem dX8_anew_45 : decode cX8_anew 45 = .ok (.bipush 6, 2) := by decide +kernel
theorem dX8_anew_47 : decode cX8_anew 47 = .ok (.iadd, 1) := by decide +kernel
theorem dX8_anew_48 : decode cX8_anew 48 = .ok (.aload_n 0, 1) := by decide +kernel
theorem dX8_anew_49 : decode cX8_anew 49 = .ok (.getfield 7, 3) := by decide +kernel
theorem dX8_anew_52 : decode cX8_anew 52 = .ok (.iconst 4, 1) := by decide +kernel
theorem dX8_anew_53 : decode cX8_anew 53 = .ok (.iaload, 1) := by decide +kernel
theorem dX8_anew_54 : decode cX8_anew 54 = .ok (.iastore, 1) := by decide +kernel
theorem dX8_anew_55 : decode cX8_anew 55 = .ok (.aload_n 0, 1) := by decide +kernel
theorem dX8_anew_56 : decode cX8_anew 56 = .ok (.getfield 7, 3) := by decide +kernel
theorem dX8_anew_59 : decode cX8_anew 59 = .ok (.iload 4, 2) := by decide +kernel
theorem dX8_anew_61 : decode cX8_anew 61 = .ok (.bipush 7, 2) := by decide +kernel
theorem dX8_anew_63 : decode cX8_anew 63 = .ok (.iadd, 1) := by decide +kernel
theorem dX8_anew_64 : decode cX8_anew 64 = .ok (.iload_n 3, 1) := by decide +kernel
theorem dX8_anew_65 : decode cX8_anew 65 = .ok (.iastore, 1) := by decide +kernel
theorem dX8_anew_66 : decode cX8_anew 66 = .ok (.aload_n 0, 1) := by decide +kernel
theorem dX8_anew_67 : decode cX8_anew 67 = .ok (.getfield 7, 3) := by decide +kernel
theorem dX8_anew_70 : decode cX8_anew 70 = .ok (.iload 4, 2) := by decide +kernel
theorem dX8_anew_72 : decode cX8_anew 72 = .ok (.bipush 8, 2) := by decide +kernel
theorem dX8_anew_74 : decode cX8_anew 74 = .ok (.iadd, 1) := by decide +kernel
theorem dX8_anew_75 : decode cX8_anew 75 = .ok (.iload_n 3, 1) := by decide +kernel
theorem dX8_anew_76 : decode cX8_anew 76 = .ok (.ifCond .lt 17, 3) := by decide +kernel
theorem dX8_anew_79 : decode cX8_anew 79 = .ok (.aload_n 0, 1) := by decide +kernel
theorem dX8_anew_80 : decode cX8_anew 80 = .ok (.iload_n 3, 1) := by decide +kernel
theorem dX8_anew_81 : decode cX8_anew 81 = .ok (.aload_n 0, 1) := by decide +kernel
theorem dX8_anew_82 : decode cX8_anew 82 = .ok (.getfield 7, 3) := by decide +kernel
theorem dX8_anew_85 : decode cX8_anew 85 = .ok (.iconst 4, 1) := by decide +kernel
theorem dX8_anew_86 : decode cX8_anew 86 = .ok (.iaload, 1) := by decide +kernel
theorem dX8_anew_87 : decode cX8_anew 87 = .ok (.invokevirtual 42, 3) := by decide +kernel
theorem dX8_anew_90 : decode cX8_anew 90 = .ok (.goto 4, 3) := by decide +kernel
theorem dX8_anew_93 : decode cX8_anew 93 = .ok (.iconst 0, 1) := by decide +kernel
theorem dX8_anew_94 : decode cX8_anew 94 = .ok (.iastore, 1) := by decide +kernel
theorem dX8_anew_95 : decode cX8_anew 95 = .ok (.return_, 1) := by decide +kernel
set_option maxRecDepth 20000 in
theorem ggX8_covers_X8_its : GoodIn wsX8_covers wsX8_its := goodIn_r _ [5, 6, 17, 18, 19, 20, 21, 22, 23] (by decide +kernel) (by decide +kernel)
set_option maxRecDepth 20000 in
theorem gX8_covers_X8_its : GoodIn wsX8_covers (wsV RX8 34 RX8 yX8_its wsX8_its) := goodIn_app (goodIn_of _ (by decide +kernel)) ggX8_covers_X8_its
set_option maxRecDepth 20000 in
theorem ggX8_covers_X8_in : GoodIn wsX8_covers wsX8_in := goodIn_r _ [9] (by decide +kernel) (by decide +kernel)
set_option maxRecDepth 20000 in
theorem gX8_covers_X8_in : GoodIn wsX8_covers (va_wsS RX8 30 yX8_in wsX8_in) := goodIn_app (goodIn_of _ (by decide +kernel)) ggX8_covers_X8_in
set_option maxRecDepth 20000 in
theorem ggX8_covers_X8_left : GoodIn wsX8_covers wsX8_left := goodIn_r _ [13, 1, 2, 3, 4, 5, 6, 14, 15, 16, 17, 18, 19, 20, 21, 22, 23] (by decide +kernel) (by decide +kernel)
set_option maxRecDepth 20000 in
theorem gX8_covers_X8_left : GoodIn wsX8_covers (wsV RX8 42 RX8 yX8_left wsX8_left) := goodIn_app (goodIn_of _ (by decide +kernel)) ggX8_covers_X8_left
theorem dX8_covers_0 : decode cX8_covers 0 = .ok (.iload_n 2, 1) := by decide +kernel
theorem dX8_covers_1 : decode cX8_covers 1 = .ok (.aload_n 0, 1) := by decide +kernel
theorem dX8_covers_2 : decode cX8_covers 2 = .ok (.iload_n 1, 1) := by decide +kernel
theorem dX8_covers_3 : decode cX8_covers 3 = .ok (.iconst 0, 1) := by decide +kernel
theorem dX8_covers_4 : decode cX8_covers 4 = .ok (.invokevirtual 34, 3) := by decide +kernel
theorem dX8_covers_7 : decode cX8_covers 7 = .ok (.aload_n 0, 1) := by decide +kernel
theorem dX8_covers_8 : decode cX8_covers 8 = .ok (.iload_n 1, 1) := by decide +kernel
theorem dX8_covers_9 : decode cX8_covers 9 = .ok (.iconst 0, 1) := by decide +kernel
theorem dX8_covers_10 : decode cX8_covers 10 = .ok (.invokevirtual 34, 3) := by decide +kernel
theorem dX8_covers_13 : decode cX8_covers 13 = .ok (.aload_n 0, 1) := by decide +kernel
theorem dX8_covers_14 : decode cX8_covers 14 = .ok (.iload_n 1, 1) := by decide +kernel
theorem dX8_covers_15 : decode cX8_covers 15 = .ok (.iconst 2, 1) := by decide +kernel
theorem dX8_covers_16 : decode cX8_covers 16 = .ok (.invokevirtual 34, 3) := by decide +kernel
theorem dX8_covers_19 : decode cX8_covers 19 = .ok (.iadd, 1) := by decide +kernel
theorem dX8_covers_20 : decode cX8_covers 20 = .ok (.iconst 1, 1) := by decide +kernel
theorem dX8_covers_21 : decode cX8_covers 21 = .ok (.isub, 1) := by decide +kernel
theorem dX8_covers_22 : decode cX8_covers 22 = .ok (.invokestatic 30, 3) := by decide +kernel
theorem dX8_covers_25 : decode cX8_covers 25 = .ok (.ifCond .ne 5, 3) := by decide +kernel
theorem dX8_covers_28 : decode cX8_covers 28 = .ok (.iconst 0, 1) := by decide +kernel
theorem dX8_covers_29 : decode cX8_covers 29 = .ok (.ireturn, 1) := by decide +kernel
theorem dX8_covers_30 : decode cX8_covers 30 = .ok (.aload_n 0, 1) := by decide +kernel
theorem dX8_covers_31 : decode cX8_covers 31 = .ok (.iload_n 1, 1) := by decide +kernel
theorem dX8_covers_32 : decode cX8_covers 32 = .ok (.iload 4, 2) := by decide +kernel
theorem dX8_covers_34 : decode cX8_covers 34 = .ok (.invokevirtual 42, 3) := by decide +kernel
theorem dX8_covers_37 : decode cX8_covers 37 = .ok (.istore 5, 2) := by decide +kernel
theorem dX8_covers_39 : decode cX8_covers 39 = .ok (.iload_n 3, 1) := by decide +kernel
theorem dX8_covers_40 : decode cX8_covers 40 = .ok (.iload 5, 2) := by decide +kernel
theorem dX8_covers_42 : decode cX8_covers 42 = .ok (.iload 5, 2) := by decide +kernel
theorem dX8_covers_44 : decode cX8_covers 44 = .ok (.aload_n 0, 1) := by decide +kernel
theorem dX8_covers_45 : decode cX8_covers 45 = .ok (.iload_n 1, 1) := by decide +kernel
theorem dX8_covers_46 : decode cX8_covers 46 = .ok (.iconst 3, 1) := by decide +kernel
theorem dX8_covers_47 : decode cX8_covers 47 = .ok (.invokevirtual 34, 3) := by decide +kernel
theorem dX8_covers_50 : decode cX8_covers 50 = .ok (.iadd, 1) := by decide +kernel
theorem dX8_covers_51 : decode cX8_covers 51 = .ok (.iconst 1, 1) := by decide +kernel
theorem dX8_covers_52 : decode cX8_covers 52 = .ok (.isub, 1) := by decide +kernel
theorem dX8_covers_53 : decode cX8_covers 53 = .ok (.invokestatic 30, 3) := by decide +kernel
theorem dX8_covers_56 : decode cX8_covers 56 = .ok (.ireturn, 1) := by decide +kernel
set_option maxRecDepth 20000 in
theorem ggX8_burns_X8_in : GoodIn wsX8_burns wsX8_in := goodIn_r _ [5] (by decide +kernel) (by decide +kernel)
set_option maxRecDepth 20000 in
theorem gX8_burns_X8_in : GoodIn wsX8_burns (va_wsS RX8 30 yX8_in wsX8_in) := goodIn_app (goodIn_of _ (by decide +kernel)) ggX8_burns_X8_in
theorem dX8_burns_0 : decode cX8_burns 0 = .ok (.aload_n 0, 1) := by decide +kernel
theorem dX8_burns_1 : decode cX8_burns 1 = .ok (.getfield 7, 3) := by decide +kernel
theorem dX8_burns_4 : decode cX8_burns 4 = .ok (.bipush 7, 2) := by decide +kernel
theorem dX8_burns_6 : decode cX8_burns 6 = .ok (.iaload, 1) := by decide +kernel
theorem dX8_burns_7 : decode cX8_burns 7 = .ok (.ifCond .lt 38, 3) := by decide +kernel
theorem dX8_burns_10 : decode cX8_burns 10 = .ok (.iload_n 1, 1) := by decide +kernel
theorem dX8_burns_11 : decode cX8_burns 11 = .ok (.aload_n 0, 1) := by decide +kernel
theorem dX8_burns_12 : decode cX8_burns 12 = .ok (.getfield 7, 3) := by decide +kernel
theorem dX8_burns_15 : decode cX8_burns 15 = .ok (.bipush 7, 2) := by decide +kernel
theorem dX8_burns_17 : decode cX8_burns 17 = .ok (.iaload, 1) := by decide +kernel
theorem dX8_burns_18 : decode cX8_burns 18 = .ok (.aload_n 0, 1) := by decide +kernel
theorem dX8_burns_19 : decode cX8_burns 19 = .ok (.getfield 7, 3) := by decide +kernel
theorem dX8_burns_22 : decode cX8_burns 22 = .ok (.bipush 7, 2) := by decide +kernel
theorem dX8_burns_24 : decode cX8_burns 24 = .ok (.iaload, 1) := by decide +kernel
theorem dX8_burns_25 : decode cX8_burns 25 = .ok (.aload_n 0, 1) := by decide +kernel
theorem dX8_burns_26 : decode cX8_burns 26 = .ok (.getfield 7, 3) := by decide +kernel
theorem dX8_burns_29 : decode cX8_burns 29 = .ok (.bipush 8, 2) := by decide +kernel
theorem dX8_burns_31 : decode cX8_burns 31 = .ok (.iaload, 1) := by decide +kernel
theorem dX8_burns_32 : decode cX8_burns 32 = .ok (.iadd, 1) := by decide +kernel
theorem dX8_burns_33 : decode cX8_burns 33 = .ok (.iconst 1, 1) := by decide +kernel
theorem dX8_burns_34 : decode cX8_burns 34 = .ok (.isub, 1) := by decide +kernel
theorem dX8_burns_35 : decode cX8_burns 35 = .ok (.invokestatic 30, 3) := by decide +kernel
theorem dX8_burns_38 : decode cX8_burns 38 = .ok (.ifCond .eq 7, 3) := by decide +kernel
theorem dX8_burns_41 : decode cX8_burns 41 = .ok (.iconst 1, 1) := by decide +kernel
theorem dX8_burns_42 : decode cX8_burns 42 = .ok (.goto 4, 3) := by decide +kernel
theorem dX8_burns_45 : decode cX8_burns 45 = .ok (.iconst 0, 1) := by decide +kernel
theorem dX8_burns_46 : decode cX8_burns 46 = .ok (.ireturn, 1) := by decide +kernel
set_option maxRecDepth 20000 in
theorem ggX8_light_X8_burns : GoodIn wsX8_light wsX8_burns := goodIn_r _ [6, 1, 7, 8, 5, 9, 10, 11, 12, 13, 14, 15, 16] (by decide +kernel) (by decide +kernel)
set_option maxRecDepth 20000 in
theorem gX8_light_X8_burns : GoodIn wsX8_light (wsV RX8 45 RX8 yX8_burns wsX8_burns) := goodIn_app (goodIn_of _ (by decide +kernel)) ggX8_light_X8_burns
theorem dX8_light_0 : decode cX8_light 0 = .ok (.aload_n 0, 1) := by decide +kernel
theorem dX8_light_1 : decode cX8_light 1 = .ok (.iload_n 1, 1) := by decide +kernel
theorem dX8_light_2 : decode cX8_light 2 = .ok (.invokevirtual 45, 3) := by decide +kernel
theorem dX8_light_5 : decode cX8_light 5 = .ok (.ifCond .eq 5, 3) := by decide +kernel
theorem dX8_light_8 : decode cX8_light 8 = .ok (.iconst 3, 1) := by decide +kernel
theorem dX8_light_9 : decode cX8_light 9 = .ok (.ireturn, 1) := by decide +kernel
theorem dX8_light_10 : decode cX8_light 10 = .ok (.aload_n 0, 1) := by decide +kernel
theorem dX8_light_11 : decode cX8_light 11 = .ok (.getfield 7, 3) := by decide +kernel
theorem dX8_light_14 : decode cX8_light 14 = .ok (.iconst 2, 1) := by decide +kernel
theorem dX8_light_15 : decode cX8_light 15 = .ok (.iaload, 1) := by decide +kernel
theorem dX8_light_16 : decode cX8_light 16 = .ok (.ifCond .le 26, 3) := by decide +kernel
theorem dX8_light_19 : decode cX8_light 19 = .ok (.iload_n 1, 1) := by decide +kernel
theorem dX8_light_20 : decode cX8_light 20 = .ok (.aload_n 0, 1) := by decide +kernel
theorem dX8_light_21 : decode cX8_light 21 = .ok (.getfield 7, 3) := by decide +kernel
theorem dX8_light_24 : decode cX8_light 24 = .ok (.iconst 2, 1) := by decide +kernel
theorem dX8_light_25 : decode cX8_light 25 = .ok (.iaload, 1) := by decide +kernel
theorem dX8_light_26 : decode cX8_light 26 = .ok (.irem, 1) := by decide +kernel
theorem dX8_light_27 : decode cX8_light 27 = .ok (.aload_n 0, 1) := by decide +kernel
theorem dX8_light_28 : decode cX8_light 28 = .ok (.getfield 7, 3) := by decide +kernel
theorem dX8_light_31 : decode cX8_light 31 = .ok (.iconst 2, 1) := by decide +kernel
theorem dX8_light_32 : decode cX8_light 32 = .ok (.iaload, 1) := by decide +kernel
theorem dX8_light_33 : decode cX8_light 33 = .ok (.iconst 2, 1) := by decide +kernel
theorem dX8_light_34 : decode cX8_light 34 = .ok (.idiv, 1) := by decide +kernel
theorem dX8_light_35 : decode cX8_light 35 = .ok (.if_icmp .lt 7, 3) := by decide +kernel
theorem dX8_light_38 : decode cX8_light 38 = .ok (.iconst 1, 1) := by decide +kernel
theorem dX8_light_39 : decode cX8_light 39 = .ok (.goto 4, 3) := by decide +kernel
theorem dX8_light_42 : decode cX8_light 42 = .ok (.iconst 0, 1) := by decide +kernel
theorem dX8_light_43 : decode cX8_light 43 = .ok (.istore_n 2, 1) := by decide +kernel
theorem dX8_light_44 : decode cX8_light 44 = .ok (.iload_n 2, 1) := by decide +kernel
theorem dX8_light_45 : decode cX8_light 45 = .ok (.ifCond .eq 7, 3) := by decide +kernel
theorem dX8_light_48 : decode cX8_light 48 = .ok (.iconst 0, 1) := by decide +kernel
theorem dX8_light_49 : decode cX8_light 49 = .ok (.goto 4, 3) := by decide +kernel
theorem dX8_light_52 : decode cX8_light 52 = .ok (.iconst 1, 1) := by decide +kernel
theorem dX8_light_53 : decode cX8_light 53 = .ok (.ireturn, 1) := by decide +kernel
set_option maxRecDepth 20000 in
theorem ggX8_seenAt_X8_covers : GoodIn wsX8_seenAt wsX8_covers := goodIn_r _ [6, 7, 8, 9, 5, 10, 1, 11, 12, 13, 14, 15, 16, 17, 18, 19, 20, 29, 30, 31, 32, 33, 34, 35] (by decide +kernel) (by decide +kernel)
set_option maxRecDepth 20000 in
theorem gX8_seenAt_X8_covers : GoodIn wsX8_seenAt (wsV RX8 49 RX8 yX8_covers wsX8_covers) := goodIn_app (goodIn_of _ (by decide +kernel)) ggX8_seenAt_X8_covers
set_option maxRecDepth 20000 in
theorem ggX8_seenAt_X8_its : GoodIn wsX8_seenAt wsX8_its := goodIn_r _ [10, 1, 29, 30, 31, 32, 33, 34, 35] (by decide +kernel) (by decide +kernel)
set_option maxRecDepth 20000 in
theorem gX8_seenAt_X8_its : GoodIn wsX8_seenAt (wsV RX8 34 RX8 yX8_its wsX8_its) := goodIn_app (goodIn_of _ (by decide +kernel)) ggX8_seenAt_X8_its
set_option maxRecDepth 20000 in
theorem ggX8_seenAt_X8_light : GoodIn wsX8_seenAt wsX8_light := goodIn_r _ [24, 1, 25, 26, 27, 5, 28, 11, 12, 13, 29, 30, 31, 32, 33, 34, 35] (by decide +kernel) (by decide +kernel)
set_option maxRecDepth 20000 in
theorem gX8_seenAt_X8_light : GoodIn wsX8_seenAt (wsV RX8 53 RX8 yX8_light wsX8_light) := goodIn_app (goodIn_of _ (by decide +kernel)) ggX8_seenAt_X8_light
theorem dX8_seenAt_0 : decode cX8_seenAt 0 = .ok (.iconst 0, 1) := by decide +kernel
theorem dX8_seenAt_1 : decode cX8_seenAt 1 = .ok (.istore 4, 2) := by decide +kernel
theorem dX8_seenAt_3 : decode cX8_seenAt 3 = .ok (.iconst 0, 1) := by decide +kernel
theorem dX8_seenAt_4 : decode cX8_seenAt 4 = .ok (.istore 5, 2) := by decide +kernel
theorem dX8_seenAt_6 : decode cX8_seenAt 6 = .ok (.iload 5, 2) := by decide +kernel
theorem dX8_seenAt_8 : decode cX8_seenAt 8 = .ok (.aload_n 0, 1) := by decide +kernel
theorem dX8_seenAt_9 : decode cX8_seenAt 9 = .ok (.getfield 7, 3) := by decide +kernel
theorem dX8_seenAt_12 : decode cX8_seenAt 12 = .ok (.iconst 5, 1) := by decide +kernel
theorem dX8_seenAt_13 : decode cX8_seenAt 13 = .ok (.iaload, 1) := by decide +kernel
theorem dX8_seenAt_14 : decode cX8_seenAt 14 = .ok (.if_icmp .ge 37, 3) := by decide +kernel
theorem dX8_seenAt_17 : decode cX8_seenAt 17 = .ok (.iload 4, 2) := by decide +kernel
theorem dX8_seenAt_19 : decode cX8_seenAt 19 = .ok (.aload_n 0, 1) := by decide +kernel
theorem dX8_seenAt_20 : decode cX8_seenAt 20 = .ok (.iload 5, 2) := by decide +kernel
theorem dX8_seenAt_22 : decode cX8_seenAt 22 = .ok (.iload_n 1, 1) := by decide +kernel
theorem dX8_seenAt_23 : decode cX8_seenAt 23 = .ok (.iload_n 2, 1) := by decide +kernel
