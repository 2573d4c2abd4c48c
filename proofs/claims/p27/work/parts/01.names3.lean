theorem dX5_copyFrom_14 : decode cX5_copyFrom 14 = .ok (.aload_n 0, 1) := by decide +kernel
theorem dX5_copyFrom_15 : decode cX5_copyFrom 15 = .ok (.getfield 26, 3) := by decide +kernel
theorem dX5_copyFrom_18 : decode cX5_copyFrom 18 = .ok (.aload_n 1, 1) := by decide +kernel
theorem dX5_copyFrom_19 : decode cX5_copyFrom 19 = .ok (.getfield 26, 3) := by decide +kernel
theorem dX5_copyFrom_22 : decode cX5_copyFrom 22 = .ok (.invokevirtual 64, 3) := by decide +kernel
theorem dX5_copyFrom_25 : decode cX5_copyFrom 25 = .ok (.aload_n 0, 1) := by decide +kernel
theorem dX5_copyFrom_26 : decode cX5_copyFrom 26 = .ok (.getfield 33, 3) := by decide +kernel
theorem dX5_copyFrom_29 : decode cX5_copyFrom 29 = .ok (.aload_n 1, 1) := by decide +kernel
theorem dX5_copyFrom_30 : decode cX5_copyFrom 30 = .ok (.getfield 33, 3) := by decide +kernel
theorem dX5_copyFrom_33 : decode cX5_copyFrom 33 = .ok (.invokevirtual 68, 3) := by decide +kernel
theorem dX5_copyFrom_36 : decode cX5_copyFrom 36 = .ok (.aload_n 0, 1) := by decide +kernel
theorem dX5_copyFrom_37 : decode cX5_copyFrom 37 = .ok (.aload_n 1, 1) := by decide +kernel
theorem dX5_copyFrom_38 : decode cX5_copyFrom 38 = .ok (.getfield 37, 3) := by decide +kernel
theorem dX5_copyFrom_41 : decode cX5_copyFrom 41 = .ok (.putfield 37, 3) := by decide +kernel
theorem dX5_copyFrom_44 : decode cX5_copyFrom 44 = .ok (.aload_n 0, 1) := by decide +kernel
theorem dX5_copyFrom_45 : decode cX5_copyFrom 45 = .ok (.aload_n 1, 1) := by decide +kernel
theorem dX5_copyFrom_46 : decode cX5_copyFrom 46 = .ok (.getfield 41, 3) := by decide +kernel
theorem dX5_copyFrom_49 : decode cX5_copyFrom 49 = .ok (.putfield 41, 3) := by decide +kernel
theorem dX5_copyFrom_52 : decode cX5_copyFrom 52 = .ok (.aload_n 0, 1) := by decide +kernel
theorem dX5_copyFrom_53 : decode cX5_copyFrom 53 = .ok (.aload_n 1, 1) := by decide +kernel
theorem dX5_copyFrom_54 : decode cX5_copyFrom 54 = .ok (.getfield 44, 3) := by decide +kernel
theorem dX5_copyFrom_57 : decode cX5_copyFrom 57 = .ok (.putfield 44, 3) := by decide +kernel
theorem dX5_copyFrom_60 : decode cX5_copyFrom 60 = .ok (.aload_n 0, 1) := by decide +kernel
theorem dX5_copyFrom_61 : decode cX5_copyFrom 61 = .ok (.aload_n 1, 1) := by decide +kernel
theorem dX5_copyFrom_62 : decode cX5_copyFrom 62 = .ok (.getfield 47, 3) := by decide +kernel
theorem dX5_copyFrom_65 : decode cX5_copyFrom 65 = .ok (.putfield 47, 3) := by decide +kernel
theorem dX5_copyFrom_68 : decode cX5_copyFrom 68 = .ok (.return_, 1) := by decide +kernel
theorem dX6_init_0 : decode cX6_init 0 = .ok (.aload_n 0, 1) := by decide +kernel
theorem dX6_init_1 : decode cX6_init 1 = .ok (.invokespecial 3, 3) := by decide +kernel
theorem dX6_init_4 : decode cX6_init 4 = .ok (.aload_n 0, 1) := by decide +kernel
theorem dX6_init_5 : decode cX6_init 5 = .ok (.bipush 8, 2) := by decide +kernel
theorem dX6_init_7 : decode cX6_init 7 = .ok (.newarray .int, 2) := by decide +kernel
theorem dX6_init_9 : decode cX6_init 9 = .ok (.putfield 9, 3) := by decide +kernel
theorem dX6_init_12 : decode cX6_init 12 = .ok (.aload_n 0, 1) := by decide +kernel
theorem dX6_init_13 : decode cX6_init 13 = .ok (.bipush 8, 2) := by decide +kernel
theorem dX6_init_15 : decode cX6_init 15 = .ok (.newarray .int, 2) := by decide +kernel
theorem dX6_init_17 : decode cX6_init 17 = .ok (.putfield 15, 3) := by decide +kernel
theorem dX6_init_20 : decode cX6_init 20 = .ok (.aload_n 0, 1) := by decide +kernel
theorem dX6_init_21 : decode cX6_init 21 = .ok (.bipush 8, 2) := by decide +kernel
theorem dX6_init_23 : decode cX6_init 23 = .ok (.newarray .int, 2) := by decide +kernel
theorem dX6_init_25 : decode cX6_init 25 = .ok (.putfield 18, 3) := by decide +kernel
theorem dX6_init_28 : decode cX6_init 28 = .ok (.aload_n 0, 1) := by decide +kernel
theorem dX6_init_29 : decode cX6_init 29 = .ok (.bipush 8, 2) := by decide +kernel
theorem dX6_init_31 : decode cX6_init 31 = .ok (.newarray .int, 2) := by decide +kernel
theorem dX6_init_33 : decode cX6_init 33 = .ok (.putfield 21, 3) := by decide +kernel
theorem dX6_init_36 : decode cX6_init 36 = .ok (.aload_n 0, 1) := by decide +kernel
theorem dX6_init_37 : decode cX6_init 37 = .ok (.bipush 8, 2) := by decide +kernel
theorem dX6_init_39 : decode cX6_init 39 = .ok (.newarray .int, 2) := by decide +kernel
theorem dX6_init_41 : decode cX6_init 41 = .ok (.putfield 24, 3) := by decide +kernel
theorem dX6_init_44 : decode cX6_init 44 = .ok (.aload_n 0, 1) := by decide +kernel
theorem dX6_init_45 : decode cX6_init 45 = .ok (.bipush 8, 2) := by decide +kernel
theorem dX6_init_47 : decode cX6_init 47 = .ok (.newarray .int, 2) := by decide +kernel
theorem dX6_init_49 : decode cX6_init 49 = .ok (.putfield 27, 3) := by decide +kernel
theorem dX6_init_52 : decode cX6_init 52 = .ok (.aload_n 0, 1) := by decide +kernel
theorem dX6_init_53 : decode cX6_init 53 = .ok (.bipush 8, 2) := by decide +kernel
theorem dX6_init_55 : decode cX6_init 55 = .ok (.newarray .int, 2) := by decide +kernel
theorem dX6_init_57 : decode cX6_init 57 = .ok (.putfield 30, 3) := by decide +kernel
theorem dX6_init_60 : decode cX6_init 60 = .ok (.aload_n 0, 1) := by decide +kernel
theorem dX6_init_61 : decode cX6_init 61 = .ok (.bipush 8, 2) := by decide +kernel
theorem dX6_init_63 : decode cX6_init 63 = .ok (.newarray .int, 2) := by decide +kernel
theorem dX6_init_65 : decode cX6_init 65 = .ok (.putfield 33, 3) := by decide +kernel
theorem dX6_init_68 : decode cX6_init 68 = .ok (.aload_n 0, 1) := by decide +kernel
theorem dX6_init_69 : decode cX6_init 69 = .ok (.bipush 8, 2) := by decide +kernel
theorem dX6_init_71 : decode cX6_init 71 = .ok (.newarray .int, 2) := by decide +kernel
theorem dX6_init_73 : decode cX6_init 73 = .ok (.putfield 36, 3) := by decide +kernel
theorem dX6_init_76 : decode cX6_init 76 = .ok (.return_, 1) := by decide +kernel
theorem dX6_add_0 : decode cX6_add 0 = .ok (.aload_n 0, 1) := by decide +kernel
theorem dX6_add_1 : decode cX6_add 1 = .ok (.getfield 39, 3) := by decide +kernel
theorem dX6_add_4 : decode cX6_add 4 = .ok (.istore 7, 2) := by decide +kernel
theorem dX6_add_6 : decode cX6_add 6 = .ok (.aload_n 0, 1) := by decide +kernel
theorem dX6_add_7 : decode cX6_add 7 = .ok (.getfield 9, 3) := by decide +kernel
theorem dX6_add_10 : decode cX6_add 10 = .ok (.iload 7, 2) := by decide +kernel
theorem dX6_add_12 : decode cX6_add 12 = .ok (.iload_n 1, 1) := by decide +kernel
theorem dX6_add_13 : decode cX6_add 13 = .ok (.iastore, 1) := by decide +kernel
theorem dX6_add_14 : decode cX6_add 14 = .ok (.aload_n 0, 1) := by decide +kernel
theorem dX6_add_15 : decode cX6_add 15 = .ok (.getfield 15, 3) := by decide +kernel
theorem dX6_add_18 : decode cX6_add 18 = .ok (.iload 7, 2) := by decide +kernel
theorem dX6_add_20 : decode cX6_add 20 = .ok (.iload_n 3, 1) := by decide +kernel
theorem dX6_add_21 : decode cX6_add 21 = .ok (.iastore, 1) := by decide +kernel
theorem dX6_add_22 : decode cX6_add 22 = .ok (.aload_n 0, 1) := by decide +kernel
theorem dX6_add_23 : decode cX6_add 23 = .ok (.getfield 18, 3) := by decide +kernel
theorem dX6_add_26 : decode cX6_add 26 = .ok (.iload 7, 2) := by decide +kernel
theorem dX6_add_28 : decode cX6_add 28 = .ok (.iload 4, 2) := by decide +kernel
theorem dX6_add_30 : decode cX6_add 30 = .ok (.iastore, 1) := by decide +kernel
theorem dX6_add_31 : decode cX6_add 31 = .ok (.aload_n 0, 1) := by decide +kernel
theorem dX6_add_32 : decode cX6_add 32 = .ok (.getfield 21, 3) := by decide +kernel
theorem dX6_add_35 : decode cX6_add 35 = .ok (.iload 7, 2) := by decide +kernel
theorem dX6_add_37 : decode cX6_add 37 = .ok (.iload 5, 2) := by decide +kernel
theorem dX6_add_39 : decode cX6_add 39 = .ok (.iastore, 1) := by decide +kernel
theorem dX6_add_40 : decode cX6_add 40 = .ok (.aload_n 0, 1) := by decide +kernel
theorem dX6_add_41 : decode cX6_add 41 = .ok (.getfield 24, 3) := by decide +kernel
theorem dX6_add_44 : decode cX6_add 44 = .ok (.iload 7, 2) := by decide +kernel
theorem dX6_add_46 : decode cX6_add 46 = .ok (.iconst 0, 1) := by decide +kernel
theorem dX6_add_47 : decode cX6_add 47 = .ok (.iastore, 1) := by decide +kernel
theorem dX6_add_48 : decode cX6_add 48 = .ok (.aload_n 0, 1) := by decide +kernel
theorem dX6_add_49 : decode cX6_add 49 = .ok (.getfield 27, 3) := by decide +kernel
theorem dX6_add_52 : decode cX6_add 52 = .ok (.iload 7, 2) := by decide +kernel
theorem dX6_add_54 : decode cX6_add 54 = .ok (.iload 6, 2) := by decide +kernel
theorem dX6_add_56 : decode cX6_add 56 = .ok (.iastore, 1) := by decide +kernel
theorem dX6_add_57 : decode cX6_add 57 = .ok (.aload_n 0, 1) := by decide +kernel
theorem dX6_add_58 : decode cX6_add 58 = .ok (.getfield 30, 3) := by decide +kernel
theorem dX6_add_61 : decode cX6_add 61 = .ok (.iload 7, 2) := by decide +kernel
theorem dX6_add_63 : decode cX6_add 63 = .ok (.iload_n 2, 1) := by decide +kernel
theorem dX6_add_64 : decode cX6_add 64 = .ok (.iastore, 1) := by decide +kernel
theorem dX6_add_65 : decode cX6_add 65 = .ok (.aload_n 0, 1) := by decide +kernel
theorem dX6_add_66 : decode cX6_add 66 = .ok (.getfield 33, 3) := by decide +kernel
theorem dX6_add_69 : decode cX6_add 69 = .ok (.iload 7, 2) := by decide +kernel
theorem dX6_add_71 : decode cX6_add 71 = .ok (.bipush (-6), 2) := by decide +kernel
theorem dX6_add_73 : decode cX6_add 73 = .ok (.iastore, 1) := by decide +kernel
theorem dX6_add_74 : decode cX6_add 74 = .ok (.aload_n 0, 1) := by decide +kernel
theorem dX6_add_75 : decode cX6_add 75 = .ok (.getfield 36, 3) := by decide +kernel
theorem dX6_add_78 : decode cX6_add 78 = .ok (.iload 7, 2) := by decide +kernel
theorem dX6_add_80 : decode cX6_add 80 = .ok (.iconst 0, 1) := by decide +kernel
theorem dX6_add_81 : decode cX6_add 81 = .ok (.iastore, 1) := by decide +kernel
theorem dX6_add_82 : decode cX6_add 82 = .ok (.aload_n 0, 1) := by decide +kernel
theorem dX6_add_83 : decode cX6_add 83 = .ok (.dup, 1) := by decide +kernel
theorem dX6_add_84 : decode cX6_add 84 = .ok (.getfield 39, 3) := by decide +kernel
theorem dX6_add_87 : decode cX6_add 87 = .ok (.iconst 1, 1) := by decide +kernel
theorem dX6_add_88 : decode cX6_add 88 = .ok (.iadd, 1) := by decide +kernel
theorem dX6_add_89 : decode cX6_add 89 = .ok (.putfield 39, 3) := by decide +kernel
theorem dX6_add_92 : decode cX6_add 92 = .ok (.iload 7, 2) := by decide +kernel
theorem dX6_add_94 : decode cX6_add 94 = .ok (.ireturn, 1) := by decide +kernel
set_option maxRecDepth 20000 in
theorem ggX6_comeAnew_X6_leftAt : GoodIn wsX6_comeAnew wsX6_leftAt := goodIn_r _ [10, 11, 1, 3, 2, 5, 4, 12, 13, 14, 15, 16, 17, 18, 19, 20, 21, 22, 23, 24, 25] (by decide +kernel) (by decide +kernel)
set_option maxRecDepth 20000 in
theorem gX6_comeAnew_X6_leftAt : GoodIn wsX6_comeAnew (wsV RX6 43 RX6 yX6_leftAt wsX6_leftAt) := goodIn_app (goodIn_of _ (by decide +kernel)) ggX6_comeAnew_X6_leftAt
theorem dX6_comeAnew_0 : decode cX6_comeAnew 0 = .ok (.aload_n 0, 1) := by decide +kernel
theorem dX6_comeAnew_1 : decode cX6_comeAnew 1 = .ok (.getfield 30, 3) := by decide +kernel
theorem dX6_comeAnew_4 : decode cX6_comeAnew 4 = .ok (.iload_n 1, 1) := by decide +kernel
theorem dX6_comeAnew_5 : decode cX6_comeAnew 5 = .ok (.aload_n 0, 1) := by decide +kernel
theorem dX6_comeAnew_6 : decode cX6_comeAnew 6 = .ok (.iload_n 1, 1) := by decide +kernel
theorem dX6_comeAnew_7 : decode cX6_comeAnew 7 = .ok (.iload 4, 2) := by decide +kernel
theorem dX6_comeAnew_9 : decode cX6_comeAnew 9 = .ok (.invokevirtual 43, 3) := by decide +kernel
theorem dX6_comeAnew_12 : decode cX6_comeAnew 12 = .ok (.iastore, 1) := by decide +kernel
theorem dX6_comeAnew_13 : decode cX6_comeAnew 13 = .ok (.aload_n 0, 1) := by decide +kernel
theorem dX6_comeAnew_14 : decode cX6_comeAnew 14 = .ok (.getfield 27, 3) := by decide +kernel
theorem dX6_comeAnew_17 : decode cX6_comeAnew 17 = .ok (.iload_n 1, 1) := by decide +kernel
theorem dX6_comeAnew_18 : decode cX6_comeAnew 18 = .ok (.iload 4, 2) := by decide +kernel
theorem dX6_comeAnew_20 : decode cX6_comeAnew 20 = .ok (.iastore, 1) := by decide +kernel
theorem dX6_comeAnew_21 : decode cX6_comeAnew 21 = .ok (.aload_n 0, 1) := by decide +kernel
theorem dX6_comeAnew_22 : decode cX6_comeAnew 22 = .ok (.getfield 24, 3) := by decide +kernel
theorem dX6_comeAnew_25 : decode cX6_comeAnew 25 = .ok (.iload_n 1, 1) := by decide +kernel
theorem dX6_comeAnew_26 : decode cX6_comeAnew 26 = .ok (.iload_n 2, 1) := by decide +kernel
theorem dX6_comeAnew_27 : decode cX6_comeAnew 27 = .ok (.iastore, 1) := by decide +kernel
theorem dX6_comeAnew_28 : decode cX6_comeAnew 28 = .ok (.aload_n 0, 1) := by decide +kernel
theorem dX6_comeAnew_29 : decode cX6_comeAnew 29 = .ok (.getfield 33, 3) := by decide +kernel
theorem dX6_comeAnew_32 : decode cX6_comeAnew 32 = .ok (.iload_n 1, 1) := by decide +kernel
theorem dX6_comeAnew_33 : decode cX6_comeAnew 33 = .ok (.iload_n 3, 1) := by decide +kernel
theorem dX6_comeAnew_34 : decode cX6_comeAnew 34 = .ok (.iastore, 1) := by decide +kernel
theorem dX6_comeAnew_35 : decode cX6_comeAnew 35 = .ok (.aload_n 0, 1) := by decide +kernel
theorem dX6_comeAnew_36 : decode cX6_comeAnew 36 = .ok (.getfield 36, 3) := by decide +kernel
theorem dX6_comeAnew_39 : decode cX6_comeAnew 39 = .ok (.iload_n 1, 1) := by decide +kernel
theorem dX6_comeAnew_40 : decode cX6_comeAnew 40 = .ok (.aload_n 0, 1) := by decide +kernel
theorem dX6_comeAnew_41 : decode cX6_comeAnew 41 = .ok (.iload_n 3, 1) := by decide +kernel
theorem dX6_comeAnew_42 : decode cX6_comeAnew 42 = .ok (.iload 4, 2) := by decide +kernel
theorem dX6_comeAnew_44 : decode cX6_comeAnew 44 = .ok (.invokevirtual 43, 3) := by decide +kernel
theorem dX6_comeAnew_47 : decode cX6_comeAnew 47 = .ok (.iastore, 1) := by decide +kernel
theorem dX6_comeAnew_48 : decode cX6_comeAnew 48 = .ok (.return_, 1) := by decide +kernel
set_option maxRecDepth 20000 in
theorem ggX6_leftAt_J9_floorDiv_7cf53 : GoodIn wsX6_leftAt wsJ9_floorDiv_7cf53 := goodIn_r _ [10] (by decide +kernel) (by decide +kernel)
set_option maxRecDepth 20000 in
theorem gX6_leftAt_J9_floorDiv_7cf53 : GoodIn wsX6_leftAt (va_wsS RX6 47 yJ9_floorDiv_7cf53 wsJ9_floorDiv_7cf53) := goodIn_app (goodIn_of _ (by decide +kernel)) ggX6_leftAt_J9_floorDiv_7cf53
theorem dX6_leftAt_0 : decode cX6_leftAt 0 = .ok (.iconst 0, 1) := by decide +kernel
theorem dX6_leftAt_1 : decode cX6_leftAt 1 = .ok (.istore_n 3, 1) := by decide +kernel
theorem dX6_leftAt_2 : decode cX6_leftAt 2 = .ok (.iload_n 1, 1) := by decide +kernel
theorem dX6_leftAt_3 : decode cX6_leftAt 3 = .ok (.istore 4, 2) := by decide +kernel
theorem dX6_leftAt_5 : decode cX6_leftAt 5 = .ok (.iconst 0, 1) := by decide +kernel
theorem dX6_leftAt_6 : decode cX6_leftAt 6 = .ok (.istore 5, 2) := by decide +kernel
theorem dX6_leftAt_8 : decode cX6_leftAt 8 = .ok (.iload 5, 2) := by decide +kernel
theorem dX6_leftAt_10 : decode cX6_leftAt 10 = .ok (.bipush 8, 2) := by decide +kernel
theorem dX6_leftAt_12 : decode cX6_leftAt 12 = .ok (.if_icmp .ge 73, 3) := by decide +kernel
theorem dX6_leftAt_15 : decode cX6_leftAt 15 = .ok (.iload 4, 2) := by decide +kernel
theorem dX6_leftAt_17 : decode cX6_leftAt 17 = .ok (.ifCond .lt 68, 3) := by decide +kernel
theorem dX6_leftAt_20 : decode cX6_leftAt 20 = .ok (.iload 4, 2) := by decide +kernel
theorem dX6_leftAt_22 : decode cX6_leftAt 22 = .ok (.aload_n 0, 1) := by decide +kernel
theorem dX6_leftAt_23 : decode cX6_leftAt 23 = .ok (.getfield 39, 3) := by decide +kernel
theorem dX6_leftAt_26 : decode cX6_leftAt 26 = .ok (.if_icmp .ge 59, 3) := by decide +kernel
theorem dX6_leftAt_29 : decode cX6_leftAt 29 = .ok (.iload_n 3, 1) := by decide +kernel
theorem dX6_leftAt_30 : decode cX6_leftAt 30 = .ok (.aload_n 0, 1) := by decide +kernel
theorem dX6_leftAt_31 : decode cX6_leftAt 31 = .ok (.getfield 30, 3) := by decide +kernel
theorem dX6_leftAt_34 : decode cX6_leftAt 34 = .ok (.iload 4, 2) := by decide +kernel
theorem dX6_leftAt_36 : decode cX6_leftAt 36 = .ok (.iaload, 1) := by decide +kernel
theorem dX6_leftAt_37 : decode cX6_leftAt 37 = .ok (.aload_n 0, 1) := by decide +kernel
theorem dX6_leftAt_38 : decode cX6_leftAt 38 = .ok (.getfield 24, 3) := by decide +kernel
theorem dX6_leftAt_41 : decode cX6_leftAt 41 = .ok (.iload 4, 2) := by decide +kernel
theorem dX6_leftAt_43 : decode cX6_leftAt 43 = .ok (.iaload, 1) := by decide +kernel
theorem dX6_leftAt_44 : decode cX6_leftAt 44 = .ok (.iload_n 2, 1) := by decide +kernel
theorem dX6_leftAt_45 : decode cX6_leftAt 45 = .ok (.aload_n 0, 1) := by decide +kernel
theorem dX6_leftAt_46 : decode cX6_leftAt 46 = .ok (.getfield 27, 3) := by decide +kernel
theorem dX6_leftAt_49 : decode cX6_leftAt 49 = .ok (.iload 4, 2) := by decide +kernel
theorem dX6_leftAt_51 : decode cX6_leftAt 51 = .ok (.iaload, 1) := by decide +kernel
theorem dX6_leftAt_52 : decode cX6_leftAt 52 = .ok (.isub, 1) := by decide +kernel
theorem dX6_leftAt_53 : decode cX6_leftAt 53 = .ok (.imul, 1) := by decide +kernel
theorem dX6_leftAt_54 : decode cX6_leftAt 54 = .ok (.bipush 10, 2) := by decide +kernel
theorem dX6_leftAt_56 : decode cX6_leftAt 56 = .ok (.invokestatic 47, 3) := by decide +kernel
theorem dX6_leftAt_59 : decode cX6_leftAt 59 = .ok (.iadd, 1) := by decide +kernel
theorem dX6_leftAt_60 : decode cX6_leftAt 60 = .ok (.aload_n 0, 1) := by decide +kernel
theorem dX6_leftAt_61 : decode cX6_leftAt 61 = .ok (.getfield 36, 3) := by decide +kernel
theorem dX6_leftAt_64 : decode cX6_leftAt 64 = .ok (.iload 4, 2) := by decide +kernel
theorem dX6_leftAt_66 : decode cX6_leftAt 66 = .ok (.iaload, 1) := by decide +kernel
theorem dX6_leftAt_67 : decode cX6_leftAt 67 = .ok (.isub, 1) := by decide +kernel
theorem dX6_leftAt_68 : decode cX6_leftAt 68 = .ok (.iadd, 1) := by decide +kernel
theorem dX6_leftAt_69 : decode cX6_leftAt 69 = .ok (.istore_n 3, 1) := by decide +kernel
theorem dX6_leftAt_70 : decode cX6_leftAt 70 = .ok (.aload_n 0, 1) := by decide +kernel
theorem dX6_leftAt_71 : decode cX6_leftAt 71 = .ok (.getfield 33, 3) := by decide +kernel
theorem dX6_leftAt_74 : decode cX6_leftAt 74 = .ok (.iload 4, 2) := by decide +kernel
theorem dX6_leftAt_76 : decode cX6_leftAt 76 = .ok (.iaload, 1) := by decide +kernel
theorem dX6_leftAt_77 : decode cX6_leftAt 77 = .ok (.istore 4, 2) := by decide +kernel
theorem dX6_leftAt_79 : decode cX6_leftAt 79 = .ok (.iinc 5 1, 3) := by decide +kernel
theorem dX6_leftAt_82 : decode cX6_leftAt 82 = .ok (.goto (-74), 3) := by decide +kernel
theorem dX6_leftAt_85 : decode cX6_leftAt 85 = .ok (.iload_n 3, 1) := by decide +kernel
theorem dX6_leftAt_86 : decode cX6_leftAt 86 = .ok (.ireturn, 1) := by decide +kernel
theorem dX6_speedWithAllUnder_0 : decode cX6_speedWithAllUnder 0 = .ok (.iconst 0, 1) := by decide +kernel
theorem dX6_speedWithAllUnder_1 : decode cX6_speedWithAllUnder 1 = .ok (.istore_n 2, 1) := by decide +kernel
theorem dX6_speedWithAllUnder_2 : decode cX6_speedWithAllUnder 2 = .ok (.iload_n 1, 1) := by decide +kernel
theorem dX6_speedWithAllUnder_3 : decode cX6_speedWithAllUnder 3 = .ok (.istore_n 3, 1) := by decide +kernel
theorem dX6_speedWithAllUnder_4 : decode cX6_speedWithAllUnder 4 = .ok (.iconst 0, 1) := by decide +kernel
theorem dX6_speedWithAllUnder_5 : decode cX6_speedWithAllUnder 5 = .ok (.istore 4, 2) := by decide +kernel
theorem dX6_speedWithAllUnder_7 : decode cX6_speedWithAllUnder 7 = .ok (.iload 4, 2) := by decide +kernel
theorem dX6_speedWithAllUnder_9 : decode cX6_speedWithAllUnder 9 = .ok (.bipush 8, 2) := by decide +kernel
theorem dX6_speedWithAllUnder_11 : decode cX6_speedWithAllUnder 11 = .ok (.if_icmp .ge 37, 3) := by decide +kernel
theorem dX6_speedWithAllUnder_14 : decode cX6_speedWithAllUnder 14 = .ok (.iload_n 3, 1) := by decide +kernel
theorem dX6_speedWithAllUnder_15 : decode cX6_speedWithAllUnder 15 = .ok (.ifCond .lt 33, 3) := by decide +kernel
theorem dX6_speedWithAllUnder_18 : decode cX6_speedWithAllUnder 18 = .ok (.iload_n 3, 1) := by decide +kernel
theorem dX6_speedWithAllUnder_19 : decode cX6_speedWithAllUnder 19 = .ok (.aload_n 0, 1) := by decide +kernel
theorem dX6_speedWithAllUnder_20 : decode cX6_speedWithAllUnder 20 = .ok (.getfield 39, 3) := by decide +kernel
theorem dX6_speedWithAllUnder_23 : decode cX6_speedWithAllUnder 23 = .ok (.if_icmp .ge 25, 3) := by decide +kernel
theorem dX6_speedWithAllUnder_26 : decode cX6_speedWithAllUnder 26 = .ok (.iload_n 2, 1) := by decide +kernel
theorem dX6_speedWithAllUnder_27 : decode cX6_speedWithAllUnder 27 = .ok (.aload_n 0, 1) := by decide +kernel
theorem dX6_speedWithAllUnder_28 : decode cX6_speedWithAllUnder 28 = .ok (.getfield 24, 3) := by decide +kernel
theorem dX6_speedWithAllUnder_31 : decode cX6_speedWithAllUnder 31 = .ok (.iload_n 3, 1) := by decide +kernel
theorem dX6_speedWithAllUnder_32 : decode cX6_speedWithAllUnder 32 = .ok (.iaload, 1) := by decide +kernel
theorem dX6_speedWithAllUnder_33 : decode cX6_speedWithAllUnder 33 = .ok (.iadd, 1) := by decide +kernel
theorem dX6_speedWithAllUnder_34 : decode cX6_speedWithAllUnder 34 = .ok (.istore_n 2, 1) := by decide +kernel
theorem dX6_speedWithAllUnder_35 : decode cX6_speedWithAllUnder 35 = .ok (.aload_n 0, 1) := by decide +kernel
theorem dX6_speedWithAllUnder_36 : decode cX6_speedWithAllUnder 36 = .ok (.getfield 33, 3) := by decide +kernel
theorem dX6_speedWithAllUnder_39 : decode cX6_speedWithAllUnder 39 = .ok (.iload_n 3, 1) := by decide +kernel
theorem dX6_speedWithAllUnder_40 : decode cX6_speedWithAllUnder 40 = .ok (.iaload, 1) := by decide +kernel
theorem dX6_speedWithAllUnder_41 : decode cX6_speedWithAllUnder 41 = .ok (.istore_n 3, 1) := by decide +kernel
theorem dX6_speedWithAllUnder_42 : decode cX6_speedWithAllUnder 42 = .ok (.iinc 4 1, 3) := by decide +kernel
theorem dX6_speedWithAllUnder_45 : decode cX6_speedWithAllUnder 45 = .ok (.goto (-38), 3) := by decide +kernel
theorem dX6_speedWithAllUnder_48 : decode cX6_speedWithAllUnder 48 = .ok (.iload_n 2, 1) := by decide +kernel
theorem dX6_speedWithAllUnder_49 : decode cX6_speedWithAllUnder 49 = .ok (.ireturn, 1) := by decide +kernel
set_option maxRecDepth 20000 in
theorem ggX6_isInLine_X7_within : GoodIn wsX6_isInLine wsX7_within := goodIn_r _ [5] (by decide +kernel) (by decide +kernel)
set_option maxRecDepth 20000 in
theorem gX6_isInLine_X7_within_n52 : GoodIn wsX6_isInLine (wsX7_within) := ggX6_isInLine_X7_within
theorem dX6_isInLine_0 : decode cX6_isInLine 0 = .ok (.iload_n 2, 1) := by decide +kernel
theorem dX6_isInLine_1 : decode cX6_isInLine 1 = .ok (.aload_n 0, 1) := by decide +kernel
theorem dX6_isInLine_2 : decode cX6_isInLine 2 = .ok (.getfield 9, 3) := by decide +kernel
theorem dX6_isInLine_5 : decode cX6_isInLine 5 = .ok (.iload_n 1, 1) := by decide +kernel
theorem dX6_isInLine_6 : decode cX6_isInLine 6 = .ok (.iaload, 1) := by decide +kernel
theorem dX6_isInLine_7 : decode cX6_isInLine 7 = .ok (.aload_n 0, 1) := by decide +kernel
theorem dX6_isInLine_8 : decode cX6_isInLine 8 = .ok (.getfield 9, 3) := by decide +kernel
theorem dX6_isInLine_11 : decode cX6_isInLine 11 = .ok (.iload_n 1, 1) := by decide +kernel
theorem dX6_isInLine_12 : decode cX6_isInLine 12 = .ok (.iaload, 1) := by decide +kernel
theorem dX6_isInLine_13 : decode cX6_isInLine 13 = .ok (.aload_n 0, 1) := by decide +kernel
theorem dX6_isInLine_14 : decode cX6_isInLine 14 = .ok (.getfield 15, 3) := by decide +kernel
theorem dX6_isInLine_17 : decode cX6_isInLine 17 = .ok (.iload_n 1, 1) := by decide +kernel
theorem dX6_isInLine_18 : decode cX6_isInLine 18 = .ok (.iaload, 1) := by decide +kernel
theorem dX6_isInLine_19 : decode cX6_isInLine 19 = .ok (.iadd, 1) := by decide +kernel
theorem dX6_isInLine_20 : decode cX6_isInLine 20 = .ok (.iconst 1, 1) := by decide +kernel
theorem dX6_isInLine_21 : decode cX6_isInLine 21 = .ok (.isub, 1) := by decide +kernel
theorem dX6_isInLine_22 : decode cX6_isInLine 22 = .ok (.invokestatic 52, 3) := by decide +kernel
theorem dX6_isInLine_25 : decode cX6_isInLine 25 = .ok (.ireturn, 1) := by decide +kernel
theorem dX6_copyFrom_0 : decode cX6_copyFrom 0 = .ok (.aload_n 0, 1) := by decide +kernel
theorem dX6_copyFrom_1 : decode cX6_copyFrom 1 = .ok (.aload_n 1, 1) := by decide +kernel
theorem dX6_copyFrom_2 : decode cX6_copyFrom 2 = .ok (.getfield 39, 3) := by decide +kernel
theorem dX6_copyFrom_5 : decode cX6_copyFrom 5 = .ok (.putfield 39, 3) := by decide +kernel
theorem dX6_copyFrom_8 : decode cX6_copyFrom 8 = .ok (.aload_n 1, 1) := by decide +kernel
theorem dX6_copyFrom_9 : decode cX6_copyFrom 9 = .ok (.getfield 9, 3) := by decide +kernel
theorem dX6_copyFrom_12 : decode cX6_copyFrom 12 = .ok (.iconst 0, 1) := by decide +kernel
theorem dX6_copyFrom_13 : decode cX6_copyFrom 13 = .ok (.aload_n 0, 1) := by decide +kernel
theorem dX6_copyFrom_14 : decode cX6_copyFrom 14 = .ok (.getfield 9, 3) := by decide +kernel
theorem dX6_copyFrom_17 : decode cX6_copyFrom 17 = .ok (.iconst 0, 1) := by decide +kernel
theorem dX6_copyFrom_18 : decode cX6_copyFrom 18 = .ok (.bipush 8, 2) := by decide +kernel
theorem dX6_copyFrom_20 : decode cX6_copyFrom 20 = .ok (.invokestatic 56, 3) := by decide +kernel
theorem dX6_copyFrom_23 : decode cX6_copyFrom 23 = .ok (.aload_n 1, 1) := by decide +kernel
theorem dX6_copyFrom_24 : decode cX6_copyFrom 24 = .ok (.getfield 15, 3) := by decide +kernel
theorem dX6_copyFrom_27 : decode cX6_copyFrom 27 = .ok (.iconst 0, 1) := by decide +kernel
theorem dX6_copyFrom_28 : decode cX6_copyFrom 28 = .ok (.aload_n 0, 1) := by decide +kernel
theorem dX6_copyFrom_29 : decode cX6_copyFrom 29 = .ok (.getfield 15, 3) := by decide +kernel
theorem dX6_copyFrom_32 : decode cX6_copyFrom 32 = .ok (.iconst 0, 1) := by decide +kernel
theorem dX6_copyFrom_33 : decode cX6_copyFrom 33 = .ok (.bipush 8, 2) := by decide +kernel
theorem dX6_copyFrom_35 : decode cX6_copyFrom 35 = .ok (.invokestatic 56, 3) := by decide +kernel
theorem dX6_copyFrom_38 : decode cX6_copyFrom 38 = .ok (.aload_n 1, 1) := by decide +kernel
theorem dX6_copyFrom_39 : decode cX6_copyFrom 39 = .ok (.getfield 18, 3) := by decide +kernel
theorem dX6_copyFrom_42 : decode cX6_copyFrom 42 = .ok (.iconst 0, 1) := by decide +kernel
theorem dX6_copyFrom_43 : decode cX6_copyFrom 43 = .ok (.aload_n 0, 1) := by decide +kernel
theorem dX6_copyFrom_44 : decode cX6_copyFrom 44 = .ok (.getfield 18, 3) := by decide +kernel
theorem dX6_copyFrom_47 : decode cX6_copyFrom 47 = .ok (.iconst 0, 1) := by decide +kernel
theorem dX6_copyFrom_48 : decode cX6_copyFrom 48 = .ok (.bipush 8, 2) := by decide +kernel
theorem dX6_copyFrom_50 : decode cX6_copyFrom 50 = .ok (.invokestatic 56, 3) := by decide +kernel
theorem dX6_copyFrom_53 : decode cX6_copyFrom 53 = .ok (.aload_n 1, 1) := by decide +kernel
theorem dX6_copyFrom_54 : decode cX6_copyFrom 54 = .ok (.getfield 21, 3) := by decide +kernel
theorem dX6_copyFrom_57 : decode cX6_copyFrom 57 = .ok (.iconst 0, 1) := by decide +kernel
theorem dX6_copyFrom_58 : decode cX6_copyFrom 58 = .ok (.aload_n 0, 1) := by decide +kernel
theorem dX6_copyFrom_59 : decode cX6_copyFrom 59 = .ok (.getfield 21, 3) := by decide +kernel
theorem dX6_copyFrom_62 : decode cX6_copyFrom 62 = .ok (.iconst 0, 1) := by decide +kernel
theorem dX6_copyFrom_63 : decode cX6_copyFrom 63 = .ok (.bipush 8, 2) := by decide +kernel
theorem dX6_copyFrom_65 : decode cX6_copyFrom 65 = .ok (.invokestatic 56, 3) := by decide +kernel
theorem dX6_copyFrom_68 : decode cX6_copyFrom 68 = .ok (.aload_n 1, 1) := by decide +kernel
theorem dX6_copyFrom_69 : decode cX6_copyFrom 69 = .ok (.getfield 24, 3) := by decide +kernel
theorem dX6_copyFrom_72 : decode cX6_copyFrom 72 = .ok (.iconst 0, 1) := by decide +kernel
theorem dX6_copyFrom_73 : decode cX6_copyFrom 73 = .ok (.aload_n 0, 1) := by decide +kernel
theorem dX6_copyFrom_74 : decode cX6_copyFrom 74 = .ok (.getfield 24, 3) := by decide +kernel
theorem dX6_copyFrom_77 : decode cX6_copyFrom 77 = .ok (.iconst 0, 1) := by decide +kernel
theorem dX6_copyFrom_78 : decode cX6_copyFrom 78 = .ok (.bipush 8, 2) := by decide +kernel
theorem dX6_copyFrom_80 : decode cX6_copyFrom 80 = .ok (.invokestatic 56, 3) := by decide +kernel
theorem dX6_copyFrom_83 : decode cX6_copyFrom 83 = .ok (.aload_n 1, 1) := by decide +kernel
theorem dX6_copyFrom_84 : decode cX6_copyFrom 84 = .ok (.getfield 27, 3) := by decide +kernel
theorem dX6_copyFrom_87 : decode cX6_copyFrom 87 = .ok (.iconst 0, 1) := by decide +kernel
theorem dX6_copyFrom_88 : decode cX6_copyFrom 88 = .ok (.aload_n 0, 1) := by decide +kernel
theorem dX6_copyFrom_89 : decode cX6_copyFrom 89 = .ok (.getfield 27, 3) := by decide +kernel
theorem dX6_copyFrom_92 : decode cX6_copyFrom 92 = .ok (.iconst 0, 1) := by decide +kernel
theorem dX6_copyFrom_93 : decode cX6_copyFrom 93 = .ok (.bipush 8, 2) := by decide +kernel
theorem dX6_copyFrom_95 : decode cX6_copyFrom 95 = .ok (.invokestatic 56, 3) := by decide +kernel
theorem dX6_copyFrom_98 : decode cX6_copyFrom 98 = .ok (.aload_n 1, 1) := by decide +kernel
theorem dX6_copyFrom_99 : decode cX6_copyFrom 99 = .ok (.getfield 30, 3) := by decide +kernel
theorem dX6_copyFrom_102 : decode cX6_copyFrom 102 = .ok (.iconst 0, 1) := by decide +kernel
theorem dX6_copyFrom_103 : decode cX6_copyFrom 103 = .ok (.aload_n 0, 1) := by decide +kernel
theorem dX6_copyFrom_104 : decode cX6_copyFrom 104 = .ok (.getfield 30, 3) := by decide +kernel
theorem dX6_copyFrom_107 : decode cX6_copyFrom 107 = .ok (.iconst 0, 1) := by decide +kernel
theorem dX6_copyFrom_108 : decode cX6_copyFrom 108 = .ok (.bipush 8, 2) := by decide +kernel
theorem dX6_copyFrom_110 : decode cX6_copyFrom 110 = .ok (.invokestatic 56, 3) := by decide +kernel
theorem dX6_copyFrom_113 : decode cX6_copyFrom 113 = .ok (.aload_n 1, 1) := by decide +kernel
theorem dX6_copyFrom_114 : decode cX6_copyFrom 114 = .ok (.getfield 33, 3) := by decide +kernel
theorem dX6_copyFrom_117 : decode cX6_copyFrom 117 = .ok (.iconst 0, 1) := by decide +kernel
theorem dX6_copyFrom_118 : decode cX6_copyFrom 118 = .ok (.aload_n 0, 1) := by decide +kernel
theorem dX6_copyFrom_119 : decode cX6_copyFrom 119 = .ok (.getfield 33, 3) := by decide +kernel
theorem dX6_copyFrom_122 : decode cX6_copyFrom 122 = .ok (.iconst 0, 1) := by decide +kernel
theorem dX6_copyFrom_123 : decode cX6_copyFrom 123 = .ok (.bipush 8, 2) := by decide +kernel
theorem dX6_copyFrom_125 : decode cX6_copyFrom 125 = .ok (.invokestatic 56, 3) := by decide +kernel
theorem dX6_copyFrom_128 : decode cX6_copyFrom 128 = .ok (.aload_n 1, 1) := by decide +kernel
theorem dX6_copyFrom_129 : decode cX6_copyFrom 129 = .ok (.getfield 36, 3) := by decide +kernel
theorem dX6_copyFrom_132 : decode cX6_copyFrom 132 = .ok (.iconst 0, 1) := by decide +kernel
theorem dX6_copyFrom_133 : decode cX6_copyFrom 133 = .ok (.aload_n 0, 1) := by decide +kernel
theorem dX6_copyFrom_134 : decode cX6_copyFrom 134 = .ok (.getfield 36, 3) := by decide +kernel
theorem dX6_copyFrom_137 : decode cX6_copyFrom 137 = .ok (.iconst 0, 1) := by decide +kernel
theorem dX6_copyFrom_138 : decode cX6_copyFrom 138 = .ok (.bipush 8, 2) := by decide +kernel
theorem dX6_copyFrom_140 : decode cX6_copyFrom 140 = .ok (.invokestatic 56, 3) := by decide +kernel
theorem dX6_copyFrom_143 : decode cX6_copyFrom 143 = .ok (.return_, 1) := by decide +kernel
set_option maxRecDepth 20000 in
theorem ggX7_init_X5_init : GoodIn wsX7_init wsX5_init := goodIn_r _ [26, 27, 2, 3, 28, 29, 30, 31, 32, 33, 34, 35, 36, 37, 38, 39, 40, 41, 42, 43, 44, 45, 46, 47, 48, 49, 50, 51, 52, 53, 54, 55, 56, 57, 58, 59, 60, 61, 62, 63, 91, 92, 93, 94, 95, 96, 97, 116, 117, 118, 119, 120, 121, 122, 123, 124, 125, 126] (by decide +kernel) (by decide +kernel)
set_option maxRecDepth 20000 in
theorem gX7_init_X5_init_n9 : GoodIn wsX7_init (wsX5_init) := ggX7_init_X5_init
set_option maxRecDepth 20000 in
theorem ggX7_init_X0_init : GoodIn wsX7_init wsX0_init := goodIn_r _ [65, 66, 2, 3, 50, 67, 68, 69, 104, 105, 106] (by decide +kernel) (by decide +kernel)
set_option maxRecDepth 20000 in
theorem gX7_init_X0_init_n18 : GoodIn wsX7_init (wsX0_init) := ggX7_init_X0_init
set_option maxRecDepth 20000 in
theorem ggX7_init_X1_init : GoodIn wsX7_init wsX1_init := goodIn_r _ [71, 72, 2, 3, 73, 74, 75, 76, 107, 108, 109] (by decide +kernel) (by decide +kernel)
set_option maxRecDepth 20000 in
theorem gX7_init_X1_init_n25 : GoodIn wsX7_init (wsX1_init) := ggX7_init_X1_init
set_option maxRecDepth 20000 in
theorem ggX7_init_X2_init : GoodIn wsX7_init wsX2_init := goodIn_r _ [78, 79, 2, 3, 80, 81, 82, 110, 111] (by decide +kernel) (by decide +kernel)
set_option maxRecDepth 20000 in
theorem gX7_init_X2_init_n36 : GoodIn wsX7_init (wsX2_init) := ggX7_init_X2_init
set_option maxRecDepth 20000 in
theorem ggX7_init_X4_init : GoodIn wsX7_init wsX4_init := goodIn_r _ [85, 86, 2, 3, 87, 88, 50, 89, 90, 112, 113, 114, 115] (by decide +kernel) (by decide +kernel)
set_option maxRecDepth 20000 in
theorem gX7_init_X4_init : GoodIn wsX7_init (wsX4_init) := ggX7_init_X4_init
theorem dX7_init_0 : decode cX7_init 0 = .ok (.aload_n 0, 1) := by decide +kernel
theorem dX7_init_1 : decode cX7_init 1 = .ok (.invokespecial 1, 3) := by decide +kernel
theorem dX7_init_4 : decode cX7_init 4 = .ok (.aload_n 0, 1) := by decide +kernel
theorem dX7_init_5 : decode cX7_init 5 = .ok (.new 7, 3) := by decide +kernel
theorem dX7_init_8 : decode cX7_init 8 = .ok (.dup, 1) := by decide +kernel
theorem dX7_init_9 : decode cX7_init 9 = .ok (.invokespecial 9, 3) := by decide +kernel
theorem dX7_init_12 : decode cX7_init 12 = .ok (.putfield 10, 3) := by decide +kernel
theorem dX7_init_15 : decode cX7_init 15 = .ok (.aload_n 0, 1) := by decide +kernel
theorem dX7_init_16 : decode cX7_init 16 = .ok (.new 16, 3) := by decide +kernel
theorem dX7_init_19 : decode cX7_init 19 = .ok (.dup, 1) := by decide +kernel
theorem dX7_init_20 : decode cX7_init 20 = .ok (.invokespecial 18, 3) := by decide +kernel
theorem dX7_init_23 : decode cX7_init 23 = .ok (.putfield 19, 3) := by decide +kernel
theorem dX7_init_26 : decode cX7_init 26 = .ok (.aload_n 0, 1) := by decide +kernel
theorem dX7_init_27 : decode cX7_init 27 = .ok (.new 23, 3) := by decide +kernel
theorem dX7_init_30 : decode cX7_init 30 = .ok (.dup, 1) := by decide +kernel
theorem dX7_init_31 : decode cX7_init 31 = .ok (.invokespecial 25, 3) := by decide +kernel
theorem dX7_init_34 : decode cX7_init 34 = .ok (.putfield 26, 3) := by decide +kernel
theorem dX7_init_37 : decode cX7_init 37 = .ok (.aload_n 0, 1) := by decide +kernel
theorem dX7_init_38 : decode cX7_init 38 = .ok (.iconst 2, 1) := by decide +kernel
theorem dX7_init_39 : decode cX7_init 39 = .ok (.anewarray 7, 3) := by decide +kernel
theorem dX7_init_42 : decode cX7_init 42 = .ok (.putfield 30, 3) := by decide +kernel
theorem dX7_init_45 : decode cX7_init 45 = .ok (.aload_n 0, 1) := by decide +kernel
theorem dX7_init_46 : decode cX7_init 46 = .ok (.new 34, 3) := by decide +kernel
theorem dX7_init_49 : decode cX7_init 49 = .ok (.dup, 1) := by decide +kernel
theorem dX7_init_50 : decode cX7_init 50 = .ok (.invokespecial 36, 3) := by decide +kernel
theorem dX7_init_53 : decode cX7_init 53 = .ok (.putfield 37, 3) := by decide +kernel
theorem dX7_init_56 : decode cX7_init 56 = .ok (.aload_n 0, 1) := by decide +kernel
theorem dX7_init_57 : decode cX7_init 57 = .ok (.new 41, 3) := by decide +kernel
theorem dX7_init_60 : decode cX7_init 60 = .ok (.dup, 1) := by decide +kernel
theorem dX7_init_61 : decode cX7_init 61 = .ok (.aload_n 0, 1) := by decide +kernel
theorem dX7_init_62 : decode cX7_init 62 = .ok (.getfield 37, 3) := by decide +kernel
theorem dX7_init_65 : decode cX7_init 65 = .ok (.invokespecial 43, 3) := by decide +kernel
theorem dX7_init_68 : decode cX7_init 68 = .ok (.putfield 46, 3) := by decide +kernel
theorem dX7_init_71 : decode cX7_init 71 = .ok (.return_, 1) := by decide +kernel
set_option maxRecDepth 20000 in
theorem ggX7_set_X7_within : GoodIn wsX7_set wsX7_within := goodIn_r _ [9] (by decide +kernel) (by decide +kernel)
set_option maxRecDepth 20000 in
theorem gX7_set_X7_within : GoodIn wsX7_set (va_wsS RX7 50 yX7_within wsX7_within) := goodIn_app (goodIn_of _ (by decide +kernel)) ggX7_set_X7_within
set_option maxRecDepth 20000 in
theorem ggX7_set_X1_record : GoodIn wsX7_set wsX1_record := goodIn_r _ [14, 15, 16, 17, 18, 19, 20, 21, 22, 23, 24, 25, 26, 27, 28, 29, 30, 31, 32, 33, 34, 35, 36, 37, 38, 39, 40, 41, 42, 43, 44, 45, 46, 47, 48, 49, 50, 51, 52, 53, 54, 55, 56, 57, 58, 59, 60, 61, 62, 63, 64, 65, 66, 67, 68, 69, 70, 71, 72, 73, 74, 75, 76, 77, 78, 79, 80, 81, 82, 83, 84, 98, 99, 100, 91, 92, 93, 94, 95, 96, 97, 101, 102, 103, 104, 105, 106, 107, 108, 109, 110, 111] (by decide +kernel) (by decide +kernel)
set_option maxRecDepth 20000 in
theorem gX7_set_X1_record : GoodIn wsX7_set (wsV RX7 61 RX1 yX1_record wsX1_record) := goodIn_app (goodIn_of _ (by decide +kernel)) ggX7_set_X1_record
theorem dX7_set_0 : decode cX7_set 0 = .ok (.iload_n 1, 1) := by decide +kernel
theorem dX7_set_1 : decode cX7_set 1 = .ok (.iconst 0, 1) := by decide +kernel
theorem dX7_set_2 : decode cX7_set 2 = .ok (.iconst 3, 1) := by decide +kernel
theorem dX7_set_3 : decode cX7_set 3 = .ok (.invokestatic 50, 3) := by decide +kernel
theorem dX7_set_6 : decode cX7_set 6 = .ok (.ifCond .eq 20, 3) := by decide +kernel
theorem dX7_set_9 : decode cX7_set 9 = .ok (.iload_n 2, 1) := by decide +kernel
theorem dX7_set_10 : decode cX7_set 10 = .ok (.getstatic 54, 3) := by decide +kernel
theorem dX7_set_13 : decode cX7_set 13 = .ok (.iload_n 1, 1) := by decide +kernel
theorem dX7_set_14 : decode cX7_set 14 = .ok (.iaload, 1) := by decide +kernel
theorem dX7_set_15 : decode cX7_set 15 = .ok (.getstatic 58, 3) := by decide +kernel
theorem dX7_set_18 : decode cX7_set 18 = .ok (.iload_n 1, 1) := by decide +kernel
theorem dX7_set_19 : decode cX7_set 19 = .ok (.iaload, 1) := by decide +kernel
theorem dX7_set_20 : decode cX7_set 20 = .ok (.invokestatic 50, 3) := by decide +kernel
theorem dX7_set_23 : decode cX7_set 23 = .ok (.ifCond .ne 6, 3) := by decide +kernel
theorem dX7_set_26 : decode cX7_set 26 = .ok (.bipush (-2), 2) := by decide +kernel
theorem dX7_set_28 : decode cX7_set 28 = .ok (.ireturn, 1) := by decide +kernel
theorem dX7_set_29 : decode cX7_set 29 = .ok (.aload_n 0, 1) := by decide +kernel
theorem dX7_set_30 : decode cX7_set 30 = .ok (.getfield 26, 3) := by decide +kernel
theorem dX7_set_33 : decode cX7_set 33 = .ok (.aload_n 0, 1) := by decide +kernel
theorem dX7_set_34 : decode cX7_set 34 = .ok (.getfield 10, 3) := by decide +kernel
theorem dX7_set_37 : decode cX7_set 37 = .ok (.invokevirtual 61, 3) := by decide +kernel
theorem dX7_set_40 : decode cX7_set 40 = .ok (.aload_n 0, 1) := by decide +kernel
theorem dX7_set_41 : decode cX7_set 41 = .ok (.getfield 10, 3) := by decide +kernel
theorem dX7_set_44 : decode cX7_set 44 = .ok (.getfield 65, 3) := by decide +kernel
theorem dX7_set_47 : decode cX7_set 47 = .ok (.iload_n 1, 1) := by decide +kernel
theorem dX7_set_48 : decode cX7_set 48 = .ok (.iaload, 1) := by decide +kernel
theorem dX7_set_49 : decode cX7_set 49 = .ok (.istore_n 3, 1) := by decide +kernel
theorem dX7_set_50 : decode cX7_set 50 = .ok (.aload_n 0, 1) := by decide +kernel
theorem dX7_set_51 : decode cX7_set 51 = .ok (.getfield 10, 3) := by decide +kernel
theorem dX7_set_54 : decode cX7_set 54 = .ok (.getfield 65, 3) := by decide +kernel
theorem dX7_set_57 : decode cX7_set 57 = .ok (.iload_n 1, 1) := by decide +kernel
theorem dX7_set_58 : decode cX7_set 58 = .ok (.iload_n 2, 1) := by decide +kernel
theorem dX7_set_59 : decode cX7_set 59 = .ok (.iastore, 1) := by decide +kernel
theorem dX7_set_60 : decode cX7_set 60 = .ok (.iload_n 3, 1) := by decide +kernel
theorem dX7_set_61 : decode cX7_set 61 = .ok (.ireturn, 1) := by decide +kernel
set_option maxRecDepth 20000 in
theorem ggX7_thing_X7_errorOfThing : GoodIn wsX7_thing wsX7_errorOfThing := goodIn_r _ [9, 2, 3, 10, 11, 12, 8, 13, 14, 15, 16, 96, 97, 98, 99, 100, 101, 102, 103, 104, 105, 106, 107, 108, 109, 110, 111, 112, 113, 114, 115, 116, 117, 118] (by decide +kernel) (by decide +kernel)
set_option maxRecDepth 20000 in
theorem gX7_thing_X7_errorOfThing : GoodIn wsX7_thing (wsV RX7 68 RX7 yX7_errorOfThing wsX7_errorOfThing) := goodIn_app (goodIn_of _ (by decide +kernel)) ggX7_thing_X7_errorOfThing
set_option maxRecDepth 20000 in
theorem ggX7_thing_X1_record : GoodIn wsX7_thing wsX1_record := goodIn_r _ [21, 22, 23, 24, 25, 26, 27, 28, 29, 30, 31, 32, 33, 34, 35, 36, 37, 38, 39, 40, 41, 42, 43, 44, 45, 46, 47, 48, 49, 50, 51, 52, 53, 54, 55, 56, 57, 58, 59, 60, 61, 62, 63, 64, 65, 66, 67, 68, 69, 70, 71, 72, 73, 74, 75, 76, 77, 78, 79, 80, 81, 82, 83, 84, 85, 86, 87, 88, 89, 90, 91, 119, 120, 121, 102, 103, 104, 105, 106, 107, 108, 109, 110, 111, 112, 113, 114, 115, 116, 117, 118, 122] (by decide +kernel) (by decide +kernel)
set_option maxRecDepth 20000 in
theorem gX7_thing_X1_record : GoodIn wsX7_thing (wsV RX7 61 RX1 yX1_record wsX1_record) := goodIn_app (goodIn_of _ (by decide +kernel)) ggX7_thing_X1_record
set_option maxRecDepth 20000 in
theorem ggX7_thing_X6_add : GoodIn wsX7_thing wsX6_add := goodIn_r _ [95, 85, 60, 61, 62, 63, 64, 65, 66, 67, 68, 109, 110, 111, 112, 113, 114, 115, 116, 117, 118] (by decide +kernel) (by decide +kernel)
set_option maxRecDepth 20000 in
theorem gX7_thing_X6_add : GoodIn wsX7_thing (wsV RX7 80 RX6 yX6_add wsX6_add) := goodIn_app (goodIn_of _ (by decide +kernel)) ggX7_thing_X6_add
theorem dX7_thing_0 : decode cX7_thing 0 = .ok (.aload_n 0, 1) := by decide +kernel
theorem dX7_thing_1 : decode cX7_thing 1 = .ok (.iload_n 1, 1) := by decide +kernel
theorem dX7_thing_2 : decode cX7_thing 2 = .ok (.iload_n 2, 1) := by decide +kernel
theorem dX7_thing_3 : decode cX7_thing 3 = .ok (.iload_n 3, 1) := by decide +kernel
theorem dX7_thing_4 : decode cX7_thing 4 = .ok (.iload 4, 2) := by decide +kernel
theorem dX7_thing_6 : decode cX7_thing 6 = .ok (.iload 5, 2) := by decide +kernel
theorem dX7_thing_8 : decode cX7_thing 8 = .ok (.invokevirtual 68, 3) := by decide +kernel
theorem dX7_thing_11 : decode cX7_thing 11 = .ok (.istore 6, 2) := by decide +kernel
theorem dX7_thing_13 : decode cX7_thing 13 = .ok (.iload 6, 2) := by decide +kernel
theorem dX7_thing_15 : decode cX7_thing 15 = .ok (.ifCond .eq 6, 3) := by decide +kernel
theorem dX7_thing_18 : decode cX7_thing 18 = .ok (.iload 6, 2) := by decide +kernel
theorem dX7_thing_20 : decode cX7_thing 20 = .ok (.ireturn, 1) := by decide +kernel
theorem dX7_thing_21 : decode cX7_thing 21 = .ok (.aload_n 0, 1) := by decide +kernel
theorem dX7_thing_22 : decode cX7_thing 22 = .ok (.getfield 26, 3) := by decide +kernel
theorem dX7_thing_25 : decode cX7_thing 25 = .ok (.aload_n 0, 1) := by decide +kernel
theorem dX7_thing_26 : decode cX7_thing 26 = .ok (.getfield 10, 3) := by decide +kernel
theorem dX7_thing_29 : decode cX7_thing 29 = .ok (.invokevirtual 61, 3) := by decide +kernel
theorem dX7_thing_32 : decode cX7_thing 32 = .ok (.aload_n 0, 1) := by decide +kernel
theorem dX7_thing_33 : decode cX7_thing 33 = .ok (.getfield 10, 3) := by decide +kernel
theorem dX7_thing_36 : decode cX7_thing 36 = .ok (.getfield 72, 3) := by decide +kernel
theorem dX7_thing_39 : decode cX7_thing 39 = .ok (.iload_n 1, 1) := by decide +kernel
theorem dX7_thing_40 : decode cX7_thing 40 = .ok (.iload_n 2, 1) := by decide +kernel
theorem dX7_thing_41 : decode cX7_thing 41 = .ok (.iload_n 3, 1) := by decide +kernel
theorem dX7_thing_42 : decode cX7_thing 42 = .ok (.iload 4, 2) := by decide +kernel
theorem dX7_thing_44 : decode cX7_thing 44 = .ok (.iload 5, 2) := by decide +kernel
theorem dX7_thing_46 : decode cX7_thing 46 = .ok (.aload_n 0, 1) := by decide +kernel
theorem dX7_thing_47 : decode cX7_thing 47 = .ok (.getfield 10, 3) := by decide +kernel
theorem dX7_thing_50 : decode cX7_thing 50 = .ok (.getfield 76, 3) := by decide +kernel
theorem dX7_thing_53 : decode cX7_thing 53 = .ok (.invokevirtual 80, 3) := by decide +kernel
theorem dX7_thing_56 : decode cX7_thing 56 = .ok (.ireturn, 1) := by decide +kernel
set_option maxRecDepth 20000 in
theorem ggX7_speed_X7_isThing : GoodIn wsX7_speed wsX7_isThing := goodIn_r _ [11, 2, 3, 12, 13, 14, 10, 15, 106, 107, 108, 109, 110, 111, 112, 113, 114, 115, 116, 117, 118, 119, 120, 121, 122, 123, 124, 125, 126, 127, 128] (by decide +kernel) (by decide +kernel)
set_option maxRecDepth 20000 in
theorem gX7_speed_X7_isThing : GoodIn wsX7_speed (wsV RX7 86 RX7 yX7_isThing wsX7_isThing) := goodIn_app (goodIn_of _ (by decide +kernel)) ggX7_speed_X7_isThing
set_option maxRecDepth 20000 in
theorem ggX7_speed_X7_isSpeed : GoodIn wsX7_speed wsX7_isSpeed := goodIn_r _ [18, 13, 14, 10, 15] (by decide +kernel) (by decide +kernel)
set_option maxRecDepth 20000 in
theorem gX7_speed_X7_isSpeed : GoodIn wsX7_speed (va_wsS RX7 90 yX7_isSpeed wsX7_isSpeed) := goodIn_app (goodIn_of _ (by decide +kernel)) ggX7_speed_X7_isSpeed
set_option maxRecDepth 20000 in
theorem ggX7_speed_X1_record : GoodIn wsX7_speed wsX1_record := goodIn_r _ [23, 24, 25, 26, 27, 28, 29, 30, 31, 32, 33, 34, 35, 36, 37, 38, 39, 40, 41, 42, 43, 44, 45, 46, 47, 48, 49, 50, 51, 52, 53, 54, 55, 56, 57, 58, 59, 60, 61, 62, 63, 64, 65, 66, 67, 68, 69, 70, 71, 72, 73, 74, 75, 76, 77, 78, 79, 80, 81, 82, 83, 84, 85, 86, 87, 88, 89, 90, 91, 92, 93, 129, 130, 131, 112, 113, 114, 115, 116, 117, 118, 119, 120, 121, 122, 123, 124, 125, 126, 127, 128, 132] (by decide +kernel) (by decide +kernel)
set_option maxRecDepth 20000 in
theorem gX7_speed_X1_record : GoodIn wsX7_speed (wsV RX7 61 RX1 yX1_record wsX1_record) := goodIn_app (goodIn_of _ (by decide +kernel)) ggX7_speed_X1_record
set_option maxRecDepth 20000 in
theorem ggX7_speed_X6_comeAnew : GoodIn wsX7_speed wsX6_comeAnew := goodIn_r _ [97, 68, 67, 66, 69, 70, 98, 99, 100, 48, 101, 87, 102, 103, 104, 105, 119, 120, 121, 122, 123, 124, 125, 126, 127, 128] (by decide +kernel) (by decide +kernel)
set_option maxRecDepth 20000 in
theorem gX7_speed_X6_comeAnew : GoodIn wsX7_speed (wsV RX7 99 RX6 yX6_comeAnew wsX6_comeAnew) := goodIn_app (goodIn_of _ (by decide +kernel)) ggX7_speed_X6_comeAnew
theorem dX7_speed_0 : decode cX7_speed 0 = .ok (.aload_n 0, 1) := by decide +kernel
theorem dX7_speed_1 : decode cX7_speed 1 = .ok (.iload_n 1, 1) := by decide +kernel
theorem dX7_speed_2 : decode cX7_speed 2 = .ok (.invokevirtual 86, 3) := by decide +kernel
theorem dX7_speed_5 : decode cX7_speed 5 = .ok (.ifCond .ne 5, 3) := by decide +kernel
theorem dX7_speed_8 : decode cX7_speed 8 = .ok (.iconst (-1), 1) := by decide +kernel
theorem dX7_speed_9 : decode cX7_speed 9 = .ok (.ireturn, 1) := by decide +kernel
theorem dX7_speed_10 : decode cX7_speed 10 = .ok (.iload_n 2, 1) := by decide +kernel
theorem dX7_speed_11 : decode cX7_speed 11 = .ok (.invokestatic 90, 3) := by decide +kernel
theorem dX7_speed_14 : decode cX7_speed 14 = .ok (.ifCond .ne 6, 3) := by decide +kernel
theorem dX7_speed_17 : decode cX7_speed 17 = .ok (.bipush (-2), 2) := by decide +kernel
theorem dX7_speed_19 : decode cX7_speed 19 = .ok (.ireturn, 1) := by decide +kernel
theorem dX7_speed_20 : decode cX7_speed 20 = .ok (.aload_n 0, 1) := by decide +kernel
theorem dX7_speed_21 : decode cX7_speed 21 = .ok (.getfield 26, 3) := by decide +kernel
theorem dX7_speed_24 : decode cX7_speed 24 = .ok (.aload_n 0, 1) := by decide +kernel
theorem dX7_speed_25 : decode cX7_speed 25 = .ok (.getfield 10, 3) := by decide +kernel
theorem dX7_speed_28 : decode cX7_speed 28 = .ok (.invokevirtual 61, 3) := by decide +kernel
theorem dX7_speed_31 : decode cX7_speed 31 = .ok (.aload_n 0, 1) := by decide +kernel
theorem dX7_speed_32 : decode cX7_speed 32 = .ok (.getfield 10, 3) := by decide +kernel
theorem dX7_speed_35 : decode cX7_speed 35 = .ok (.getfield 72, 3) := by decide +kernel
theorem dX7_speed_38 : decode cX7_speed 38 = .ok (.getfield 93, 3) := by decide +kernel
theorem dX7_speed_41 : decode cX7_speed 41 = .ok (.iload_n 1, 1) := by decide +kernel
theorem dX7_speed_42 : decode cX7_speed 42 = .ok (.iaload, 1) := by decide +kernel
theorem dX7_speed_43 : decode cX7_speed 43 = .ok (.istore_n 3, 1) := by decide +kernel
theorem dX7_speed_44 : decode cX7_speed 44 = .ok (.aload_n 0, 1) := by decide +kernel
theorem dX7_speed_45 : decode cX7_speed 45 = .ok (.getfield 10, 3) := by decide +kernel
theorem dX7_speed_48 : decode cX7_speed 48 = .ok (.getfield 72, 3) := by decide +kernel
theorem dX7_speed_51 : decode cX7_speed 51 = .ok (.iload_n 1, 1) := by decide +kernel
theorem dX7_speed_52 : decode cX7_speed 52 = .ok (.iload_n 2, 1) := by decide +kernel
theorem dX7_speed_53 : decode cX7_speed 53 = .ok (.aload_n 0, 1) := by decide +kernel
theorem dX7_speed_54 : decode cX7_speed 54 = .ok (.getfield 10, 3) := by decide +kernel
theorem dX7_speed_57 : decode cX7_speed 57 = .ok (.getfield 72, 3) := by decide +kernel
theorem dX7_speed_60 : decode cX7_speed 60 = .ok (.getfield 96, 3) := by decide +kernel
theorem dX7_speed_63 : decode cX7_speed 63 = .ok (.iload_n 1, 1) := by decide +kernel
theorem dX7_speed_64 : decode cX7_speed 64 = .ok (.iaload, 1) := by decide +kernel
theorem dX7_speed_65 : decode cX7_speed 65 = .ok (.aload_n 0, 1) := by decide +kernel
theorem dX7_speed_66 : decode cX7_speed 66 = .ok (.getfield 10, 3) := by decide +kernel
theorem dX7_speed_69 : decode cX7_speed 69 = .ok (.getfield 76, 3) := by decide +kernel
theorem dX7_speed_72 : decode cX7_speed 72 = .ok (.invokevirtual 99, 3) := by decide +kernel
theorem dX7_speed_75 : decode cX7_speed 75 = .ok (.iload_n 3, 1) := by decide +kernel
theorem dX7_speed_76 : decode cX7_speed 76 = .ok (.bipush 100, 2) := by decide +kernel
theorem dX7_speed_78 : decode cX7_speed 78 = .ok (.iadd, 1) := by decide +kernel
theorem dX7_speed_79 : decode cX7_speed 79 = .ok (.ireturn, 1) := by decide +kernel
set_option maxRecDepth 20000 in
theorem ggX7_ride_X7_isThing : GoodIn wsX7_ride wsX7_isThing := goodIn_r _ [11, 2, 3, 12, 13, 14, 10, 15, 106, 107, 108, 109, 110, 111, 112, 113, 114, 115, 116, 117, 118, 119, 120, 121, 122, 123, 124, 125, 126, 127, 128] (by decide +kernel) (by decide +kernel)
set_option maxRecDepth 20000 in
theorem gX7_ride_X7_isThing : GoodIn wsX7_ride (wsV RX7 86 RX7 yX7_isThing wsX7_isThing) := goodIn_app (goodIn_of _ (by decide +kernel)) ggX7_ride_X7_isThing
set_option maxRecDepth 20000 in
theorem ggX7_ride_X7_canRide : GoodIn wsX7_ride wsX7_canRide := goodIn_r _ [18, 13, 14, 10, 15] (by decide +kernel) (by decide +kernel)
set_option maxRecDepth 20000 in
theorem gX7_ride_X7_canRide : GoodIn wsX7_ride (va_wsS RX7 103 yX7_canRide wsX7_canRide) := goodIn_app (goodIn_of _ (by decide +kernel)) ggX7_ride_X7_canRide
set_option maxRecDepth 20000 in
theorem ggX7_ride_X1_record : GoodIn wsX7_ride wsX1_record := goodIn_r _ [23, 24, 25, 26, 27, 28, 29, 30, 31, 32, 33, 34, 35, 36, 37, 38, 39, 40, 41, 42, 43, 44, 45, 46, 47, 48, 49, 50, 51, 52, 53, 54, 55, 56, 57, 58, 59, 60, 61, 62, 63, 64, 65, 66, 67, 68, 69, 70, 71, 72, 73, 74, 75, 76, 77, 78, 79, 80, 81, 82, 83, 84, 85, 86, 87, 88, 89, 90, 91, 92, 93, 129, 130, 131, 112, 113, 114, 115, 116, 117, 118, 119, 120, 121, 122, 123, 124, 125, 126, 127, 128, 132] (by decide +kernel) (by decide +kernel)
set_option maxRecDepth 20000 in
theorem gX7_ride_X1_record : GoodIn wsX7_ride (wsV RX7 61 RX1 yX1_record wsX1_record) := goodIn_app (goodIn_of _ (by decide +kernel)) ggX7_ride_X1_record
set_option maxRecDepth 20000 in
theorem ggX7_ride_X6_comeAnew : GoodIn wsX7_ride wsX6_comeAnew := goodIn_r _ [97, 68, 67, 66, 69, 70, 98, 99, 100, 48, 101, 87, 102, 103, 104, 105, 119, 120, 121, 122, 123, 124, 125, 126, 127, 128] (by decide +kernel) (by decide +kernel)
set_option maxRecDepth 20000 in
theorem gX7_ride_X6_comeAnew : GoodIn wsX7_ride (wsV RX7 99 RX6 yX6_comeAnew wsX6_comeAnew) := goodIn_app (goodIn_of _ (by decide +kernel)) ggX7_ride_X6_comeAnew
theorem dX7_ride_0 : decode cX7_ride 0 = .ok (.aload_n 0, 1) := by decide +kernel
theorem dX7_ride_1 : decode cX7_ride 1 = .ok (.iload_n 1, 1) := by decide +kernel
theorem dX7_ride_2 : decode cX7_ride 2 = .ok (.invokevirtual 86, 3) := by decide +kernel
theorem dX7_ride_5 : decode cX7_ride 5 = .ok (.ifCond .ne 5, 3) := by decide +kernel
theorem dX7_ride_8 : decode cX7_ride 8 = .ok (.iconst (-1), 1) := by decide +kernel
theorem dX7_ride_9 : decode cX7_ride 9 = .ok (.ireturn, 1) := by decide +kernel
theorem dX7_ride_10 : decode cX7_ride 10 = .ok (.iload_n 1, 1) := by decide +kernel
theorem dX7_ride_11 : decode cX7_ride 11 = .ok (.iload_n 2, 1) := by decide +kernel
theorem dX7_ride_12 : decode cX7_ride 12 = .ok (.invokestatic 103, 3) := by decide +kernel
theorem dX7_ride_15 : decode cX7_ride 15 = .ok (.ifCond .ne 6, 3) := by decide +kernel
theorem dX7_ride_18 : decode cX7_ride 18 = .ok (.bipush (-2), 2) := by decide +kernel
theorem dX7_ride_20 : decode cX7_ride 20 = .ok (.ireturn, 1) := by decide +kernel
theorem dX7_ride_21 : decode cX7_ride 21 = .ok (.aload_n 0, 1) := by decide +kernel
theorem dX7_ride_22 : decode cX7_ride 22 = .ok (.getfield 26, 3) := by decide +kernel
theorem dX7_ride_25 : decode cX7_ride 25 = .ok (.aload_n 0, 1) := by decide +kernel
theorem dX7_ride_26 : decode cX7_ride 26 = .ok (.getfield 10, 3) := by decide +kernel
theorem dX7_ride_29 : decode cX7_ride 29 = .ok (.invokevirtual 61, 3) := by decide +kernel
theorem dX7_ride_32 : decode cX7_ride 32 = .ok (.aload_n 0, 1) := by decide +kernel
theorem dX7_ride_33 : decode cX7_ride 33 = .ok (.getfield 10, 3) := by decide +kernel
theorem dX7_ride_36 : decode cX7_ride 36 = .ok (.getfield 72, 3) := by decide +kernel
theorem dX7_ride_39 : decode cX7_ride 39 = .ok (.getfield 96, 3) := by decide +kernel
theorem dX7_ride_42 : decode cX7_ride 42 = .ok (.iload_n 1, 1) := by decide +kernel
theorem dX7_ride_43 : decode cX7_ride 43 = .ok (.iaload, 1) := by decide +kernel
theorem dX7_ride_44 : decode cX7_ride 44 = .ok (.istore_n 3, 1) := by decide +kernel
theorem dX7_ride_45 : decode cX7_ride 45 = .ok (.aload_n 0, 1) := by decide +kernel
theorem dX7_ride_46 : decode cX7_ride 46 = .ok (.getfield 10, 3) := by decide +kernel
theorem dX7_ride_49 : decode cX7_ride 49 = .ok (.getfield 72, 3) := by decide +kernel
theorem dX7_ride_52 : decode cX7_ride 52 = .ok (.iload_n 1, 1) := by decide +kernel
theorem dX7_ride_53 : decode cX7_ride 53 = .ok (.aload_n 0, 1) := by decide +kernel
theorem dX7_ride_54 : decode cX7_ride 54 = .ok (.getfield 10, 3) := by decide +kernel
theorem dX7_ride_57 : decode cX7_ride 57 = .ok (.getfield 72, 3) := by decide +kernel
theorem dX7_ride_60 : decode cX7_ride 60 = .ok (.getfield 93, 3) := by decide +kernel
theorem dX7_ride_63 : decode cX7_ride 63 = .ok (.iload_n 1, 1) := by decide +kernel
theorem dX7_ride_64 : decode cX7_ride 64 = .ok (.iaload, 1) := by decide +kernel
theorem dX7_ride_65 : decode cX7_ride 65 = .ok (.iload_n 2, 1) := by decide +kernel
theorem dX7_ride_66 : decode cX7_ride 66 = .ok (.aload_n 0, 1) := by decide +kernel
theorem dX7_ride_67 : decode cX7_ride 67 = .ok (.getfield 10, 3) := by decide +kernel
theorem dX7_ride_70 : decode cX7_ride 70 = .ok (.getfield 76, 3) := by decide +kernel
theorem dX7_ride_73 : decode cX7_ride 73 = .ok (.invokevirtual 99, 3) := by decide +kernel
theorem dX7_ride_76 : decode cX7_ride 76 = .ok (.iload_n 3, 1) := by decide +kernel
theorem dX7_ride_77 : decode cX7_ride 77 = .ok (.ireturn, 1) := by decide +kernel
set_option maxRecDepth 20000 in
theorem ggX7_flash_X7_errorOfFlash : GoodIn wsX7_flash wsX7_errorOfFlash := goodIn_r _ [8, 9, 10, 7, 11] (by decide +kernel) (by decide +kernel)
set_option maxRecDepth 20000 in
theorem gX7_flash_X7_errorOfFlash : GoodIn wsX7_flash (wsV RX7 107 RX7 yX7_errorOfFlash wsX7_errorOfFlash) := goodIn_app (goodIn_of _ (by decide +kernel)) ggX7_flash_X7_errorOfFlash
set_option maxRecDepth 20000 in
theorem ggX7_flash_X1_record : GoodIn wsX7_flash wsX1_record := goodIn_r _ [16, 17, 18, 19, 20, 21, 22, 23, 24, 25, 26, 27, 28, 29, 30, 31, 32, 33, 34, 35, 36, 37, 38, 39, 40, 41, 42, 43, 44, 45, 46, 47, 48, 49, 50, 51, 52, 53, 54, 55, 56, 57, 58, 59, 60, 61, 62, 63, 64, 65, 66, 67, 68, 69, 70, 71, 72, 73, 74, 75, 76, 77, 78, 79, 80, 81, 82, 83, 84, 85, 86, 104, 105, 106, 97, 98, 99, 100, 101, 102, 103, 107, 108, 109, 110, 111, 112, 113, 114, 115, 116, 117] (by decide +kernel) (by decide +kernel)
set_option maxRecDepth 20000 in
theorem gX7_flash_X1_record : GoodIn wsX7_flash (wsV RX7 61 RX1 yX1_record wsX1_record) := goodIn_app (goodIn_of _ (by decide +kernel)) ggX7_flash_X1_record
set_option maxRecDepth 20000 in
theorem ggX7_flash_X5_setFlash : GoodIn wsX7_flash wsX5_setFlash := goodIn_r _ [90, 47, 49, 50, 97, 98, 99, 100, 101, 102, 103] (by decide +kernel) (by decide +kernel)
set_option maxRecDepth 20000 in
theorem gX7_flash_X5_setFlash : GoodIn wsX7_flash (wsV RX7 111 RX5 yX5_setFlash wsX5_setFlash) := goodIn_app (goodIn_of _ (by decide +kernel)) ggX7_flash_X5_setFlash
theorem dX7_flash_0 : decode cX7_flash 0 = .ok (.aload_n 0, 1) := by decide +kernel
theorem dX7_flash_1 : decode cX7_flash 1 = .ok (.iload_n 1, 1) := by decide +kernel
theorem dX7_flash_2 : decode cX7_flash 2 = .ok (.iload_n 2, 1) := by decide +kernel
theorem dX7_flash_3 : decode cX7_flash 3 = .ok (.invokevirtual 107, 3) := by decide +kernel
theorem dX7_flash_6 : decode cX7_flash 6 = .ok (.istore_n 3, 1) := by decide +kernel
theorem dX7_flash_7 : decode cX7_flash 7 = .ok (.iload_n 3, 1) := by decide +kernel
theorem dX7_flash_8 : decode cX7_flash 8 = .ok (.ifCond .eq 5, 3) := by decide +kernel
theorem dX7_flash_11 : decode cX7_flash 11 = .ok (.iload_n 3, 1) := by decide +kernel
theorem dX7_flash_12 : decode cX7_flash 12 = .ok (.ireturn, 1) := by decide +kernel
theorem dX7_flash_13 : decode cX7_flash 13 = .ok (.aload_n 0, 1) := by decide +kernel
theorem dX7_flash_14 : decode cX7_flash 14 = .ok (.getfield 26, 3) := by decide +kernel
theorem dX7_flash_17 : decode cX7_flash 17 = .ok (.aload_n 0, 1) := by decide +kernel
theorem dX7_flash_18 : decode cX7_flash 18 = .ok (.getfield 10, 3) := by decide +kernel
theorem dX7_flash_21 : decode cX7_flash 21 = .ok (.invokevirtual 61, 3) := by decide +kernel
theorem dX7_flash_24 : decode cX7_flash 24 = .ok (.aload_n 0, 1) := by decide +kernel
theorem dX7_flash_25 : decode cX7_flash 25 = .ok (.getfield 10, 3) := by decide +kernel
theorem dX7_flash_28 : decode cX7_flash 28 = .ok (.iload_n 1, 1) := by decide +kernel
theorem dX7_flash_29 : decode cX7_flash 29 = .ok (.iload_n 2, 1) := by decide +kernel
theorem dX7_flash_30 : decode cX7_flash 30 = .ok (.invokevirtual 111, 3) := by decide +kernel
theorem dX7_flash_33 : decode cX7_flash 33 = .ok (.aload_n 0, 1) := by decide +kernel
theorem dX7_flash_34 : decode cX7_flash 34 = .ok (.getfield 10, 3) := by decide +kernel
theorem dX7_flash_37 : decode cX7_flash 37 = .ok (.getfield 115, 3) := by decide +kernel
theorem dX7_flash_40 : decode cX7_flash 40 = .ok (.ireturn, 1) := by decide +kernel
set_option maxRecDepth 20000 in
theorem ggX7_pass_X7_errorOfPass : GoodIn wsX7_pass wsX7_errorOfPass := goodIn_r _ [8, 2, 3, 9, 10, 7, 11, 87, 88, 89, 90, 91, 92, 93, 94, 95, 96, 97, 98, 99] (by decide +kernel) (by decide +kernel)
set_option maxRecDepth 20000 in
theorem gX7_pass_X7_errorOfPass : GoodIn wsX7_pass (wsV RX7 118 RX7 yX7_errorOfPass wsX7_errorOfPass) := goodIn_app (goodIn_of _ (by decide +kernel)) ggX7_pass_X7_errorOfPass
set_option maxRecDepth 20000 in
theorem ggX7_pass_X1_record : GoodIn wsX7_pass wsX1_record := goodIn_r _ [16, 17, 18, 19, 20, 21, 22, 23, 24, 25, 26, 27, 28, 29, 30, 31, 32, 33, 34, 35, 36, 37, 38, 39, 40, 41, 42, 43, 44, 45, 46, 47, 48, 49, 50, 51, 52, 53, 54, 55, 56, 57, 58, 59, 60, 61, 62, 63, 64, 65, 66, 67, 68, 69, 70, 71, 72, 73, 74, 75, 76, 77, 78, 79, 80, 81, 82, 83, 84, 85, 86, 100, 101, 102, 93, 94, 95, 96, 97, 98, 99, 103, 104, 105, 106, 107, 108, 109, 110, 111, 112, 113] (by decide +kernel) (by decide +kernel)
set_option maxRecDepth 20000 in
theorem gX7_pass_X1_record : GoodIn wsX7_pass (wsV RX7 61 RX1 yX1_record wsX1_record) := goodIn_app (goodIn_of _ (by decide +kernel)) ggX7_pass_X1_record
theorem dX7_pass_0 : decode cX7_pass 0 = .ok (.aload_n 0, 1) := by decide +kernel
theorem dX7_pass_1 : decode cX7_pass 1 = .ok (.iload_n 1, 1) := by decide +kernel
theorem dX7_pass_2 : decode cX7_pass 2 = .ok (.invokevirtual 118, 3) := by decide +kernel
theorem dX7_pass_5 : decode cX7_pass 5 = .ok (.istore_n 2, 1) := by decide +kernel
theorem dX7_pass_6 : decode cX7_pass 6 = .ok (.iload_n 2, 1) := by decide +kernel
theorem dX7_pass_7 : decode cX7_pass 7 = .ok (.ifCond .eq 5, 3) := by decide +kernel
theorem dX7_pass_10 : decode cX7_pass 10 = .ok (.iload_n 2, 1) := by decide +kernel
theorem dX7_pass_11 : decode cX7_pass 11 = .ok (.ireturn, 1) := by decide +kernel
theorem dX7_pass_12 : decode cX7_pass 12 = .ok (.aload_n 0, 1) := by decide +kernel
theorem dX7_pass_13 : decode cX7_pass 13 = .ok (.getfield 26, 3) := by decide +kernel
theorem dX7_pass_16 : decode cX7_pass 16 = .ok (.aload_n 0, 1) := by decide +kernel
theorem dX7_pass_17 : decode cX7_pass 17 = .ok (.getfield 10, 3) := by decide +kernel
theorem dX7_pass_20 : decode cX7_pass 20 = .ok (.invokevirtual 61, 3) := by decide +kernel
theorem dX7_pass_23 : decode cX7_pass 23 = .ok (.aload_n 0, 1) := by decide +kernel
theorem dX7_pass_24 : decode cX7_pass 24 = .ok (.getfield 10, 3) := by decide +kernel
theorem dX7_pass_27 : decode cX7_pass 27 = .ok (.dup, 1) := by decide +kernel
theorem dX7_pass_28 : decode cX7_pass 28 = .ok (.getfield 76, 3) := by decide +kernel
theorem dX7_pass_31 : decode cX7_pass 31 = .ok (.iload_n 1, 1) := by decide +kernel
theorem dX7_pass_32 : decode cX7_pass 32 = .ok (.iadd, 1) := by decide +kernel
theorem dX7_pass_33 : decode cX7_pass 33 = .ok (.putfield 76, 3) := by decide +kernel
theorem dX7_pass_36 : decode cX7_pass 36 = .ok (.aload_n 0, 1) := by decide +kernel
theorem dX7_pass_37 : decode cX7_pass 37 = .ok (.getfield 10, 3) := by decide +kernel
theorem dX7_pass_40 : decode cX7_pass 40 = .ok (.getfield 76, 3) := by decide +kernel
theorem dX7_pass_43 : decode cX7_pass 43 = .ok (.ireturn, 1) := by decide +kernel
set_option maxRecDepth 20000 in
theorem ggX7_shoot_X7_errorOfShoot : GoodIn wsX7_shoot wsX7_errorOfShoot := goodIn_r _ [9, 2, 10, 11, 12, 13, 14, 15, 16, 17, 18, 19, 20, 167, 168, 169, 170, 171, 172, 173, 174, 175, 176, 177, 178, 179] (by decide +kernel) (by decide +kernel)
set_option maxRecDepth 20000 in
theorem gX7_shoot_X7_errorOfShoot : GoodIn wsX7_shoot (wsV RX7 122 RX7 yX7_errorOfShoot wsX7_errorOfShoot) := goodIn_app (goodIn_of _ (by decide +kernel)) ggX7_shoot_X7_errorOfShoot
set_option maxRecDepth 20000 in
theorem ggX7_shoot_X1_record : GoodIn wsX7_shoot wsX1_record := goodIn_r _ [25, 26, 27, 28, 29, 13, 30, 31, 32, 33, 34, 35, 36, 37, 38, 39, 40, 41, 42, 43, 44, 45, 15, 46, 47, 48, 49, 50, 51, 52, 53, 20, 54, 55, 56, 57, 58, 59, 60, 61, 62, 63, 64, 65, 66, 67, 68, 69, 70, 71, 72, 73, 74, 75, 76, 77, 78, 79, 80, 81, 82, 83, 84, 85, 86, 87, 88, 89, 90, 91, 92, 180, 181, 182, 173, 174, 175, 176, 177, 178, 179, 183, 184, 185, 186, 187, 188, 189, 190, 191, 192, 193] (by decide +kernel) (by decide +kernel)
set_option maxRecDepth 20000 in
theorem gX7_shoot_X1_record : GoodIn wsX7_shoot (wsV RX7 61 RX1 yX1_record wsX1_record) := goodIn_app (goodIn_of _ (by decide +kernel)) ggX7_shoot_X1_record
set_option maxRecDepth 20000 in
theorem ggX7_shoot_X0_takePicture : GoodIn wsX7_shoot wsX0_takePicture := goodIn_r _ [97, 98, 99, 100, 101, 102, 103, 17, 18, 13, 19, 20, 15, 104, 105, 106, 96, 107, 108, 109, 110, 111, 112, 113, 114, 115, 116, 55, 56, 117, 8, 118, 119, 120, 121, 122, 123, 124, 125, 126, 127, 128, 129, 48, 130, 61, 62, 131, 132, 133, 134, 86, 67, 65, 66, 69, 68, 135, 136, 137, 138, 139, 140, 141, 142, 32, 33, 34, 143, 144, 145, 146, 147, 148, 149, 150, 151, 152, 52, 153, 73, 92, 79, 80, 81, 154, 11, 12, 14, 16, 173, 174, 175, 176, 177, 178, 179, 194, 195, 196, 183, 184, 185, 186, 187, 188, 189, 190, 191, 192, 193] (by decide +kernel) (by decide +kernel)
set_option maxRecDepth 20000 in
theorem gX7_shoot_X0_takePicture : GoodIn wsX7_shoot (wsV RX7 126 RX0 yX0_takePicture wsX0_takePicture) := goodIn_app (goodIn_of _ (by decide +kernel)) ggX7_shoot_X0_takePicture
set_option maxRecDepth 20000 in
theorem ggX7_shoot_X3_sumOfAll : GoodIn wsX7_shoot wsX3_sumOfAll := goodIn_r _ [158, 159, 160, 161, 52, 162, 163, 164, 165, 166, 73, 193] (by decide +kernel) (by decide +kernel)
set_option maxRecDepth 20000 in
theorem gX7_shoot_X3_sumOfAll : GoodIn wsX7_shoot (wsV RX7 133 RX3 yX3_sumOfAll wsX3_sumOfAll) := goodIn_app (goodIn_of _ (by decide +kernel)) ggX7_shoot_X3_sumOfAll
theorem dX7_shoot_0 : decode cX7_shoot 0 = .ok (.aload_n 0, 1) := by decide +kernel
theorem dX7_shoot_1 : decode cX7_shoot 1 = .ok (.invokevirtual 122, 3) := by decide +kernel
theorem dX7_shoot_4 : decode cX7_shoot 4 = .ok (.istore_n 1, 1) := by decide +kernel
theorem dX7_shoot_5 : decode cX7_shoot 5 = .ok (.iload_n 1, 1) := by decide +kernel
theorem dX7_shoot_6 : decode cX7_shoot 6 = .ok (.ifCond .eq 5, 3) := by decide +kernel
theorem dX7_shoot_9 : decode cX7_shoot 9 = .ok (.iload_n 1, 1) := by decide +kernel
theorem dX7_shoot_10 : decode cX7_shoot 10 = .ok (.ireturn, 1) := by decide +kernel
theorem dX7_shoot_11 : decode cX7_shoot 11 = .ok (.aload_n 0, 1) := by decide +kernel
theorem dX7_shoot_12 : decode cX7_shoot 12 = .ok (.getfield 26, 3) := by decide +kernel
theorem dX7_shoot_15 : decode cX7_shoot 15 = .ok (.aload_n 0, 1) := by decide +kernel
theorem dX7_shoot_16 : decode cX7_shoot 16 = .ok (.getfield 10, 3) := by decide +kernel
theorem dX7_shoot_19 : decode cX7_shoot 19 = .ok (.invokevirtual 61, 3) := by decide +kernel
theorem dX7_shoot_22 : decode cX7_shoot 22 = .ok (.aload_n 0, 1) := by decide +kernel
theorem dX7_shoot_23 : decode cX7_shoot 23 = .ok (.getfield 19, 3) := by decide +kernel
theorem dX7_shoot_26 : decode cX7_shoot 26 = .ok (.aload_n 0, 1) := by decide +kernel
theorem dX7_shoot_27 : decode cX7_shoot 27 = .ok (.getfield 10, 3) := by decide +kernel
theorem dX7_shoot_30 : decode cX7_shoot 30 = .ok (.invokevirtual 126, 3) := by decide +kernel
theorem dX7_shoot_33 : decode cX7_shoot 33 = .ok (.aload_n 0, 1) := by decide +kernel
theorem dX7_shoot_34 : decode cX7_shoot 34 = .ok (.getfield 10, 3) := by decide +kernel
theorem dX7_shoot_37 : decode cX7_shoot 37 = .ok (.getfield 129, 3) := by decide +kernel
theorem dX7_shoot_40 : decode cX7_shoot 40 = .ok (.invokevirtual 133, 3) := by decide +kernel
