theorem dX8_seenAt_24 : decode cX8_seenAt 24 = .ok (.iload_n 3, 1) := by decide +kernel
theorem dX8_seenAt_25 : decode cX8_seenAt 25 = .ok (.invokevirtual 49, 3) := by decide +kernel
theorem dX8_seenAt_28 : decode cX8_seenAt 28 = .ok (.ifCond .eq 13, 3) := by decide +kernel
theorem dX8_seenAt_31 : decode cX8_seenAt 31 = .ok (.aload_n 0, 1) := by decide +kernel
theorem dX8_seenAt_32 : decode cX8_seenAt 32 = .ok (.iload 5, 2) := by decide +kernel
theorem dX8_seenAt_34 : decode cX8_seenAt 34 = .ok (.iconst 4, 1) := by decide +kernel
theorem dX8_seenAt_35 : decode cX8_seenAt 35 = .ok (.invokevirtual 34, 3) := by decide +kernel
theorem dX8_seenAt_38 : decode cX8_seenAt 38 = .ok (.goto 4, 3) := by decide +kernel
theorem dX8_seenAt_41 : decode cX8_seenAt 41 = .ok (.iconst 0, 1) := by decide +kernel
theorem dX8_seenAt_42 : decode cX8_seenAt 42 = .ok (.iadd, 1) := by decide +kernel
theorem dX8_seenAt_43 : decode cX8_seenAt 43 = .ok (.istore 4, 2) := by decide +kernel
theorem dX8_seenAt_45 : decode cX8_seenAt 45 = .ok (.iinc 5 1, 3) := by decide +kernel
theorem dX8_seenAt_48 : decode cX8_seenAt 48 = .ok (.goto (-42), 3) := by decide +kernel
theorem dX8_seenAt_51 : decode cX8_seenAt 51 = .ok (.iload 4, 2) := by decide +kernel
theorem dX8_seenAt_53 : decode cX8_seenAt 53 = .ok (.bipush 30, 2) := by decide +kernel
theorem dX8_seenAt_55 : decode cX8_seenAt 55 = .ok (.if_icmp .ge 8, 3) := by decide +kernel
theorem dX8_seenAt_58 : decode cX8_seenAt 58 = .ok (.iload 4, 2) := by decide +kernel
theorem dX8_seenAt_60 : decode cX8_seenAt 60 = .ok (.goto 5, 3) := by decide +kernel
theorem dX8_seenAt_63 : decode cX8_seenAt 63 = .ok (.bipush 30, 2) := by decide +kernel
theorem dX8_seenAt_65 : decode cX8_seenAt 65 = .ok (.aload_n 0, 1) := by decide +kernel
theorem dX8_seenAt_66 : decode cX8_seenAt 66 = .ok (.iload_n 3, 1) := by decide +kernel
theorem dX8_seenAt_67 : decode cX8_seenAt 67 = .ok (.invokevirtual 53, 3) := by decide +kernel
theorem dX8_seenAt_70 : decode cX8_seenAt 70 = .ok (.imul, 1) := by decide +kernel
theorem dX8_seenAt_71 : decode cX8_seenAt 71 = .ok (.ireturn, 1) := by decide +kernel
set_option maxRecDepth 20000 in
theorem ggX8_exposed_X8_seenAt : GoodIn wsX8_exposed wsX8_seenAt := goodIn_r _ [6, 1, 7, 8, 9, 5, 10, 11, 12, 13, 14, 15, 16, 17, 18, 19, 20, 21, 22, 23, 24, 25, 26, 27, 28, 29, 30, 31, 32, 33, 34, 35, 36, 37, 38, 39] (by decide +kernel) (by decide +kernel)
set_option maxRecDepth 20000 in
theorem gX8_exposed_X8_seenAt : GoodIn wsX8_exposed (wsV RX8 56 RX8 yX8_seenAt wsX8_seenAt) := goodIn_app (goodIn_of _ (by decide +kernel)) ggX8_exposed_X8_seenAt
theorem dX8_exposed_0 : decode cX8_exposed 0 = .ok (.iconst 0, 1) := by decide +kernel
theorem dX8_exposed_1 : decode cX8_exposed 1 = .ok (.istore 4, 2) := by decide +kernel
theorem dX8_exposed_3 : decode cX8_exposed 3 = .ok (.iconst 0, 1) := by decide +kernel
theorem dX8_exposed_4 : decode cX8_exposed 4 = .ok (.istore 5, 2) := by decide +kernel
theorem dX8_exposed_6 : decode cX8_exposed 6 = .ok (.iload 5, 2) := by decide +kernel
theorem dX8_exposed_8 : decode cX8_exposed 8 = .ok (.aload_n 0, 1) := by decide +kernel
theorem dX8_exposed_9 : decode cX8_exposed 9 = .ok (.getfield 7, 3) := by decide +kernel
theorem dX8_exposed_12 : decode cX8_exposed 12 = .ok (.iconst 1, 1) := by decide +kernel
theorem dX8_exposed_13 : decode cX8_exposed 13 = .ok (.iaload, 1) := by decide +kernel
theorem dX8_exposed_14 : decode cX8_exposed 14 = .ok (.if_icmp .ge 24, 3) := by decide +kernel
theorem dX8_exposed_17 : decode cX8_exposed 17 = .ok (.iload 4, 2) := by decide +kernel
theorem dX8_exposed_19 : decode cX8_exposed 19 = .ok (.aload_n 0, 1) := by decide +kernel
theorem dX8_exposed_20 : decode cX8_exposed 20 = .ok (.iload_n 1, 1) := by decide +kernel
theorem dX8_exposed_21 : decode cX8_exposed 21 = .ok (.iload_n 2, 1) := by decide +kernel
theorem dX8_exposed_22 : decode cX8_exposed 22 = .ok (.iload_n 3, 1) := by decide +kernel
theorem dX8_exposed_23 : decode cX8_exposed 23 = .ok (.iload 5, 2) := by decide +kernel
theorem dX8_exposed_25 : decode cX8_exposed 25 = .ok (.iadd, 1) := by decide +kernel
theorem dX8_exposed_26 : decode cX8_exposed 26 = .ok (.invokevirtual 56, 3) := by decide +kernel
theorem dX8_exposed_29 : decode cX8_exposed 29 = .ok (.iadd, 1) := by decide +kernel
theorem dX8_exposed_30 : decode cX8_exposed 30 = .ok (.istore 4, 2) := by decide +kernel
theorem dX8_exposed_32 : decode cX8_exposed 32 = .ok (.iinc 5 1, 3) := by decide +kernel
theorem dX8_exposed_35 : decode cX8_exposed 35 = .ok (.goto (-29), 3) := by decide +kernel
theorem dX8_exposed_38 : decode cX8_exposed 38 = .ok (.iload 4, 2) := by decide +kernel
theorem dX8_exposed_40 : decode cX8_exposed 40 = .ok (.ireturn, 1) := by decide +kernel
set_option maxRecDepth 20000 in
theorem ggX8_set_X8_in : GoodIn wsX8_set wsX8_in := goodIn_r _ [5] (by decide +kernel) (by decide +kernel)
set_option maxRecDepth 20000 in
theorem gX8_set_X8_in : GoodIn wsX8_set (va_wsS RX8 30 yX8_in wsX8_in) := goodIn_app (goodIn_of _ (by decide +kernel)) ggX8_set_X8_in
set_option maxRecDepth 20000 in
theorem ggX8_set_X8_remembers : GoodIn wsX8_set wsX8_remembers := goodIn_r _ [9, 10, 11, 1, 12, 13, 14, 15, 16, 17, 18] (by decide +kernel) (by decide +kernel)
set_option maxRecDepth 20000 in
theorem gX8_set_X8_remembers : GoodIn wsX8_set (wsV RX8 60 RX8 yX8_remembers wsX8_remembers) := goodIn_app (goodIn_of _ (by decide +kernel)) ggX8_set_X8_remembers
theorem dX8_set_0 : decode cX8_set 0 = .ok (.iload_n 1, 1) := by decide +kernel
theorem dX8_set_1 : decode cX8_set 1 = .ok (.ifCond .ne 13, 3) := by decide +kernel
theorem dX8_set_4 : decode cX8_set 4 = .ok (.iload_n 2, 1) := by decide +kernel
theorem dX8_set_5 : decode cX8_set 5 = .ok (.iconst 0, 1) := by decide +kernel
theorem dX8_set_6 : decode cX8_set 6 = .ok (.bipush 9, 2) := by decide +kernel
theorem dX8_set_8 : decode cX8_set 8 = .ok (.invokestatic 30, 3) := by decide +kernel
theorem dX8_set_11 : decode cX8_set 11 = .ok (.goto 52, 3) := by decide +kernel
theorem dX8_set_14 : decode cX8_set 14 = .ok (.iload_n 1, 1) := by decide +kernel
theorem dX8_set_15 : decode cX8_set 15 = .ok (.iconst 1, 1) := by decide +kernel
theorem dX8_set_16 : decode cX8_set 16 = .ok (.if_icmp .ne 13, 3) := by decide +kernel
theorem dX8_set_19 : decode cX8_set 19 = .ok (.iload_n 2, 1) := by decide +kernel
theorem dX8_set_20 : decode cX8_set 20 = .ok (.iconst 1, 1) := by decide +kernel
theorem dX8_set_21 : decode cX8_set 21 = .ok (.bipush 20, 2) := by decide +kernel
theorem dX8_set_23 : decode cX8_set 23 = .ok (.invokestatic 30, 3) := by decide +kernel
theorem dX8_set_26 : decode cX8_set 26 = .ok (.goto 37, 3) := by decide +kernel
theorem dX8_set_29 : decode cX8_set 29 = .ok (.iload_n 1, 1) := by decide +kernel
theorem dX8_set_30 : decode cX8_set 30 = .ok (.iconst 2, 1) := by decide +kernel
theorem dX8_set_31 : decode cX8_set 31 = .ok (.if_icmp .ne 13, 3) := by decide +kernel
theorem dX8_set_34 : decode cX8_set 34 = .ok (.iload_n 2, 1) := by decide +kernel
theorem dX8_set_35 : decode cX8_set 35 = .ok (.iconst 0, 1) := by decide +kernel
theorem dX8_set_36 : decode cX8_set 36 = .ok (.bipush 40, 2) := by decide +kernel
theorem dX8_set_38 : decode cX8_set 38 = .ok (.invokestatic 30, 3) := by decide +kernel
theorem dX8_set_41 : decode cX8_set 41 = .ok (.goto 22, 3) := by decide +kernel
theorem dX8_set_44 : decode cX8_set 44 = .ok (.iload_n 1, 1) := by decide +kernel
theorem dX8_set_45 : decode cX8_set 45 = .ok (.iconst 3, 1) := by decide +kernel
theorem dX8_set_46 : decode cX8_set 46 = .ok (.if_icmp .ne 16, 3) := by decide +kernel
theorem dX8_set_49 : decode cX8_set 49 = .ok (.iload_n 2, 1) := by decide +kernel
theorem dX8_set_50 : decode cX8_set 50 = .ok (.iconst 1, 1) := by decide +kernel
theorem dX8_set_51 : decode cX8_set 51 = .ok (.iconst 4, 1) := by decide +kernel
theorem dX8_set_52 : decode cX8_set 52 = .ok (.invokestatic 30, 3) := by decide +kernel
theorem dX8_set_55 : decode cX8_set 55 = .ok (.ifCond .eq 7, 3) := by decide +kernel
theorem dX8_set_58 : decode cX8_set 58 = .ok (.iconst 1, 1) := by decide +kernel
theorem dX8_set_59 : decode cX8_set 59 = .ok (.goto 4, 3) := by decide +kernel
theorem dX8_set_62 : decode cX8_set 62 = .ok (.iconst 0, 1) := by decide +kernel
theorem dX8_set_63 : decode cX8_set 63 = .ok (.istore_n 3, 1) := by decide +kernel
theorem dX8_set_64 : decode cX8_set 64 = .ok (.iload_n 3, 1) := by decide +kernel
theorem dX8_set_65 : decode cX8_set 65 = .ok (.ifCond .ne 6, 3) := by decide +kernel
theorem dX8_set_68 : decode cX8_set 68 = .ok (.bipush (-2), 2) := by decide +kernel
theorem dX8_set_70 : decode cX8_set 70 = .ok (.ireturn, 1) := by decide +kernel
theorem dX8_set_71 : decode cX8_set 71 = .ok (.aload_n 0, 1) := by decide +kernel
theorem dX8_set_72 : decode cX8_set 72 = .ok (.invokevirtual 60, 3) := by decide +kernel
theorem dX8_set_75 : decode cX8_set 75 = .ok (.aload_n 0, 1) := by decide +kernel
theorem dX8_set_76 : decode cX8_set 76 = .ok (.getfield 7, 3) := by decide +kernel
theorem dX8_set_79 : decode cX8_set 79 = .ok (.iload_n 1, 1) := by decide +kernel
theorem dX8_set_80 : decode cX8_set 80 = .ok (.iaload, 1) := by decide +kernel
theorem dX8_set_81 : decode cX8_set 81 = .ok (.istore 4, 2) := by decide +kernel
theorem dX8_set_83 : decode cX8_set 83 = .ok (.aload_n 0, 1) := by decide +kernel
theorem dX8_set_84 : decode cX8_set 84 = .ok (.getfield 7, 3) := by decide +kernel
theorem dX8_set_87 : decode cX8_set 87 = .ok (.iload_n 1, 1) := by decide +kernel
theorem dX8_set_88 : decode cX8_set 88 = .ok (.iload_n 2, 1) := by decide +kernel
theorem dX8_set_89 : decode cX8_set 89 = .ok (.iastore, 1) := by decide +kernel
theorem dX8_set_90 : decode cX8_set 90 = .ok (.iload 4, 2) := by decide +kernel
theorem dX8_set_92 : decode cX8_set 92 = .ok (.ireturn, 1) := by decide +kernel
set_option maxRecDepth 20000 in
theorem ggX8_whyNotThing_X8_in : GoodIn wsX8_whyNotThing wsX8_in := goodIn_r _ [5] (by decide +kernel) (by decide +kernel)
set_option maxRecDepth 20000 in
theorem gX8_whyNotThing_X8_in : GoodIn wsX8_whyNotThing (va_wsS RX8 30 yX8_in wsX8_in) := goodIn_app (goodIn_of _ (by decide +kernel)) ggX8_whyNotThing_X8_in
theorem dX8_whyNotThing_0 : decode cX8_whyNotThing 0 = .ok (.iload_n 1, 1) := by decide +kernel
theorem dX8_whyNotThing_1 : decode cX8_whyNotThing 1 = .ok (.iconst 0, 1) := by decide +kernel
theorem dX8_whyNotThing_2 : decode cX8_whyNotThing 2 = .ok (.bipush 15, 2) := by decide +kernel
theorem dX8_whyNotThing_4 : decode cX8_whyNotThing 4 = .ok (.invokestatic 30, 3) := by decide +kernel
theorem dX8_whyNotThing_7 : decode cX8_whyNotThing 7 = .ok (.ifCond .eq 49, 3) := by decide +kernel
theorem dX8_whyNotThing_10 : decode cX8_whyNotThing 10 = .ok (.iload_n 2, 1) := by decide +kernel
theorem dX8_whyNotThing_11 : decode cX8_whyNotThing 11 = .ok (.iconst 0, 1) := by decide +kernel
theorem dX8_whyNotThing_12 : decode cX8_whyNotThing 12 = .ok (.bipush 23, 2) := by decide +kernel
theorem dX8_whyNotThing_14 : decode cX8_whyNotThing 14 = .ok (.invokestatic 30, 3) := by decide +kernel
theorem dX8_whyNotThing_17 : decode cX8_whyNotThing 17 = .ok (.ifCond .eq 39, 3) := by decide +kernel
theorem dX8_whyNotThing_20 : decode cX8_whyNotThing 20 = .ok (.iload_n 3, 1) := by decide +kernel
theorem dX8_whyNotThing_21 : decode cX8_whyNotThing 21 = .ok (.iconst 1, 1) := by decide +kernel
theorem dX8_whyNotThing_22 : decode cX8_whyNotThing 22 = .ok (.bipush 16, 2) := by decide +kernel
theorem dX8_whyNotThing_24 : decode cX8_whyNotThing 24 = .ok (.invokestatic 30, 3) := by decide +kernel
theorem dX8_whyNotThing_27 : decode cX8_whyNotThing 27 = .ok (.ifCond .eq 29, 3) := by decide +kernel
theorem dX8_whyNotThing_30 : decode cX8_whyNotThing 30 = .ok (.iload 4, 2) := by decide +kernel
theorem dX8_whyNotThing_32 : decode cX8_whyNotThing 32 = .ok (.iconst 1, 1) := by decide +kernel
theorem dX8_whyNotThing_33 : decode cX8_whyNotThing 33 = .ok (.bipush 24, 2) := by decide +kernel
theorem dX8_whyNotThing_35 : decode cX8_whyNotThing 35 = .ok (.invokestatic 30, 3) := by decide +kernel
theorem dX8_whyNotThing_38 : decode cX8_whyNotThing 38 = .ok (.ifCond .eq 18, 3) := by decide +kernel
theorem dX8_whyNotThing_41 : decode cX8_whyNotThing 41 = .ok (.iload 5, 2) := by decide +kernel
theorem dX8_whyNotThing_43 : decode cX8_whyNotThing 43 = .ok (.iconst 1, 1) := by decide +kernel
theorem dX8_whyNotThing_44 : decode cX8_whyNotThing 44 = .ok (.bipush 9, 2) := by decide +kernel
theorem dX8_whyNotThing_46 : decode cX8_whyNotThing 46 = .ok (.invokestatic 30, 3) := by decide +kernel
theorem dX8_whyNotThing_49 : decode cX8_whyNotThing 49 = .ok (.ifCond .eq 7, 3) := by decide +kernel
theorem dX8_whyNotThing_52 : decode cX8_whyNotThing 52 = .ok (.iconst 1, 1) := by decide +kernel
theorem dX8_whyNotThing_53 : decode cX8_whyNotThing 53 = .ok (.goto 4, 3) := by decide +kernel
theorem dX8_whyNotThing_56 : decode cX8_whyNotThing 56 = .ok (.iconst 0, 1) := by decide +kernel
theorem dX8_whyNotThing_57 : decode cX8_whyNotThing 57 = .ok (.istore 6, 2) := by decide +kernel
theorem dX8_whyNotThing_59 : decode cX8_whyNotThing 59 = .ok (.iload 6, 2) := by decide +kernel
theorem dX8_whyNotThing_61 : decode cX8_whyNotThing 61 = .ok (.ifCond .ne 8, 3) := by decide +kernel
theorem dX8_whyNotThing_64 : decode cX8_whyNotThing 64 = .ok (.bipush (-2), 2) := by decide +kernel
theorem dX8_whyNotThing_66 : decode cX8_whyNotThing 66 = .ok (.goto 20, 3) := by decide +kernel
theorem dX8_whyNotThing_69 : decode cX8_whyNotThing 69 = .ok (.aload_n 0, 1) := by decide +kernel
theorem dX8_whyNotThing_70 : decode cX8_whyNotThing 70 = .ok (.getfield 7, 3) := by decide +kernel
theorem dX8_whyNotThing_73 : decode cX8_whyNotThing 73 = .ok (.iconst 5, 1) := by decide +kernel
theorem dX8_whyNotThing_74 : decode cX8_whyNotThing 74 = .ok (.iaload, 1) := by decide +kernel
theorem dX8_whyNotThing_75 : decode cX8_whyNotThing 75 = .ok (.bipush 8, 2) := by decide +kernel
theorem dX8_whyNotThing_77 : decode cX8_whyNotThing 77 = .ok (.if_icmp .ne 8, 3) := by decide +kernel
theorem dX8_whyNotThing_80 : decode cX8_whyNotThing 80 = .ok (.bipush (-4), 2) := by decide +kernel
theorem dX8_whyNotThing_82 : decode cX8_whyNotThing 82 = .ok (.goto 4, 3) := by decide +kernel
theorem dX8_whyNotThing_85 : decode cX8_whyNotThing 85 = .ok (.iconst 0, 1) := by decide +kernel
theorem dX8_whyNotThing_86 : decode cX8_whyNotThing 86 = .ok (.ireturn, 1) := by decide +kernel
theorem dX8_comes_0 : decode cX8_comes 0 = .ok (.bipush 9, 2) := by decide +kernel
theorem dX8_comes_2 : decode cX8_comes 2 = .ok (.bipush 9, 2) := by decide +kernel
theorem dX8_comes_4 : decode cX8_comes 4 = .ok (.aload_n 0, 1) := by decide +kernel
theorem dX8_comes_5 : decode cX8_comes 5 = .ok (.getfield 7, 3) := by decide +kernel
theorem dX8_comes_8 : decode cX8_comes 8 = .ok (.iconst 5, 1) := by decide +kernel
theorem dX8_comes_9 : decode cX8_comes 9 = .ok (.iaload, 1) := by decide +kernel
theorem dX8_comes_10 : decode cX8_comes 10 = .ok (.imul, 1) := by decide +kernel
theorem dX8_comes_11 : decode cX8_comes 11 = .ok (.iadd, 1) := by decide +kernel
theorem dX8_comes_12 : decode cX8_comes 12 = .ok (.istore 6, 2) := by decide +kernel
theorem dX8_comes_14 : decode cX8_comes 14 = .ok (.aload_n 0, 1) := by decide +kernel
theorem dX8_comes_15 : decode cX8_comes 15 = .ok (.getfield 7, 3) := by decide +kernel
theorem dX8_comes_18 : decode cX8_comes 18 = .ok (.iload 6, 2) := by decide +kernel
theorem dX8_comes_20 : decode cX8_comes 20 = .ok (.iconst 0, 1) := by decide +kernel
theorem dX8_comes_21 : decode cX8_comes 21 = .ok (.iadd, 1) := by decide +kernel
theorem dX8_comes_22 : decode cX8_comes 22 = .ok (.iload_n 1, 1) := by decide +kernel
theorem dX8_comes_23 : decode cX8_comes 23 = .ok (.iastore, 1) := by decide +kernel
theorem dX8_comes_24 : decode cX8_comes 24 = .ok (.aload_n 0, 1) := by decide +kernel
theorem dX8_comes_25 : decode cX8_comes 25 = .ok (.getfield 7, 3) := by decide +kernel
theorem dX8_comes_28 : decode cX8_comes 28 = .ok (.iload 6, 2) := by decide +kernel
theorem dX8_comes_30 : decode cX8_comes 30 = .ok (.iconst 1, 1) := by decide +kernel
theorem dX8_comes_31 : decode cX8_comes 31 = .ok (.iadd, 1) := by decide +kernel
theorem dX8_comes_32 : decode cX8_comes 32 = .ok (.iload_n 2, 1) := by decide +kernel
theorem dX8_comes_33 : decode cX8_comes 33 = .ok (.iastore, 1) := by decide +kernel
theorem dX8_comes_34 : decode cX8_comes 34 = .ok (.aload_n 0, 1) := by decide +kernel
theorem dX8_comes_35 : decode cX8_comes 35 = .ok (.getfield 7, 3) := by decide +kernel
theorem dX8_comes_38 : decode cX8_comes 38 = .ok (.iload 6, 2) := by decide +kernel
theorem dX8_comes_40 : decode cX8_comes 40 = .ok (.iconst 2, 1) := by decide +kernel
theorem dX8_comes_41 : decode cX8_comes 41 = .ok (.iadd, 1) := by decide +kernel
theorem dX8_comes_42 : decode cX8_comes 42 = .ok (.iload_n 3, 1) := by decide +kernel
theorem dX8_comes_43 : decode cX8_comes 43 = .ok (.iastore, 1) := by decide +kernel
theorem dX8_comes_44 : decode cX8_comes 44 = .ok (.aload_n 0, 1) := by decide +kernel
theorem dX8_comes_45 : decode cX8_comes 45 = .ok (.getfield 7, 3) := by decide +kernel
theorem dX8_comes_48 : decode cX8_comes 48 = .ok (.iload 6, 2) := by decide +kernel
theorem dX8_comes_50 : decode cX8_comes 50 = .ok (.iconst 3, 1) := by decide +kernel
theorem dX8_comes_51 : decode cX8_comes 51 = .ok (.iadd, 1) := by decide +kernel
theorem dX8_comes_52 : decode cX8_comes 52 = .ok (.iload 4, 2) := by decide +kernel
theorem dX8_comes_54 : decode cX8_comes 54 = .ok (.iastore, 1) := by decide +kernel
theorem dX8_comes_55 : decode cX8_comes 55 = .ok (.aload_n 0, 1) := by decide +kernel
theorem dX8_comes_56 : decode cX8_comes 56 = .ok (.getfield 7, 3) := by decide +kernel
theorem dX8_comes_59 : decode cX8_comes 59 = .ok (.iload 6, 2) := by decide +kernel
theorem dX8_comes_61 : decode cX8_comes 61 = .ok (.iconst 4, 1) := by decide +kernel
theorem dX8_comes_62 : decode cX8_comes 62 = .ok (.iadd, 1) := by decide +kernel
theorem dX8_comes_63 : decode cX8_comes 63 = .ok (.iload 5, 2) := by decide +kernel
theorem dX8_comes_65 : decode cX8_comes 65 = .ok (.iastore, 1) := by decide +kernel
theorem dX8_comes_66 : decode cX8_comes 66 = .ok (.aload_n 0, 1) := by decide +kernel
theorem dX8_comes_67 : decode cX8_comes 67 = .ok (.getfield 7, 3) := by decide +kernel
theorem dX8_comes_70 : decode cX8_comes 70 = .ok (.iload 6, 2) := by decide +kernel
theorem dX8_comes_72 : decode cX8_comes 72 = .ok (.iconst 5, 1) := by decide +kernel
theorem dX8_comes_73 : decode cX8_comes 73 = .ok (.iadd, 1) := by decide +kernel
theorem dX8_comes_74 : decode cX8_comes 74 = .ok (.iconst 0, 1) := by decide +kernel
theorem dX8_comes_75 : decode cX8_comes 75 = .ok (.iastore, 1) := by decide +kernel
theorem dX8_comes_76 : decode cX8_comes 76 = .ok (.aload_n 0, 1) := by decide +kernel
theorem dX8_comes_77 : decode cX8_comes 77 = .ok (.getfield 7, 3) := by decide +kernel
theorem dX8_comes_80 : decode cX8_comes 80 = .ok (.iload 6, 2) := by decide +kernel
theorem dX8_comes_82 : decode cX8_comes 82 = .ok (.bipush 6, 2) := by decide +kernel
theorem dX8_comes_84 : decode cX8_comes 84 = .ok (.iadd, 1) := by decide +kernel
theorem dX8_comes_85 : decode cX8_comes 85 = .ok (.aload_n 0, 1) := by decide +kernel
theorem dX8_comes_86 : decode cX8_comes 86 = .ok (.getfield 7, 3) := by decide +kernel
theorem dX8_comes_89 : decode cX8_comes 89 = .ok (.iconst 4, 1) := by decide +kernel
theorem dX8_comes_90 : decode cX8_comes 90 = .ok (.iaload, 1) := by decide +kernel
theorem dX8_comes_91 : decode cX8_comes 91 = .ok (.iastore, 1) := by decide +kernel
theorem dX8_comes_92 : decode cX8_comes 92 = .ok (.aload_n 0, 1) := by decide +kernel
theorem dX8_comes_93 : decode cX8_comes 93 = .ok (.getfield 7, 3) := by decide +kernel
theorem dX8_comes_96 : decode cX8_comes 96 = .ok (.iload 6, 2) := by decide +kernel
theorem dX8_comes_98 : decode cX8_comes 98 = .ok (.bipush 7, 2) := by decide +kernel
theorem dX8_comes_100 : decode cX8_comes 100 = .ok (.iadd, 1) := by decide +kernel
theorem dX8_comes_101 : decode cX8_comes 101 = .ok (.iconst (-1), 1) := by decide +kernel
theorem dX8_comes_102 : decode cX8_comes 102 = .ok (.iastore, 1) := by decide +kernel
theorem dX8_comes_103 : decode cX8_comes 103 = .ok (.aload_n 0, 1) := by decide +kernel
theorem dX8_comes_104 : decode cX8_comes 104 = .ok (.getfield 7, 3) := by decide +kernel
theorem dX8_comes_107 : decode cX8_comes 107 = .ok (.iload 6, 2) := by decide +kernel
theorem dX8_comes_109 : decode cX8_comes 109 = .ok (.bipush 8, 2) := by decide +kernel
theorem dX8_comes_111 : decode cX8_comes 111 = .ok (.iadd, 1) := by decide +kernel
theorem dX8_comes_112 : decode cX8_comes 112 = .ok (.iconst 0, 1) := by decide +kernel
theorem dX8_comes_113 : decode cX8_comes 113 = .ok (.iastore, 1) := by decide +kernel
theorem dX8_comes_114 : decode cX8_comes 114 = .ok (.aload_n 0, 1) := by decide +kernel
theorem dX8_comes_115 : decode cX8_comes 115 = .ok (.getfield 7, 3) := by decide +kernel
theorem dX8_comes_118 : decode cX8_comes 118 = .ok (.iconst 5, 1) := by decide +kernel
theorem dX8_comes_119 : decode cX8_comes 119 = .ok (.dup2, 1) := by decide +kernel
theorem dX8_comes_120 : decode cX8_comes 120 = .ok (.iaload, 1) := by decide +kernel
theorem dX8_comes_121 : decode cX8_comes 121 = .ok (.iconst 1, 1) := by decide +kernel
theorem dX8_comes_122 : decode cX8_comes 122 = .ok (.iadd, 1) := by decide +kernel
theorem dX8_comes_123 : decode cX8_comes 123 = .ok (.iastore, 1) := by decide +kernel
theorem dX8_comes_124 : decode cX8_comes 124 = .ok (.aload_n 0, 1) := by decide +kernel
theorem dX8_comes_125 : decode cX8_comes 125 = .ok (.getfield 7, 3) := by decide +kernel
theorem dX8_comes_128 : decode cX8_comes 128 = .ok (.iconst 5, 1) := by decide +kernel
theorem dX8_comes_129 : decode cX8_comes 129 = .ok (.iaload, 1) := by decide +kernel
theorem dX8_comes_130 : decode cX8_comes 130 = .ok (.iconst 1, 1) := by decide +kernel
theorem dX8_comes_131 : decode cX8_comes 131 = .ok (.isub, 1) := by decide +kernel
theorem dX8_comes_132 : decode cX8_comes 132 = .ok (.ireturn, 1) := by decide +kernel
set_option maxRecDepth 20000 in
theorem ggX8_thing_X8_whyNotThing : GoodIn wsX8_thing wsX8_whyNotThing := goodIn_r _ [5, 6, 7, 8, 4, 9, 20, 21, 22, 23, 24, 25, 26] (by decide +kernel) (by decide +kernel)
set_option maxRecDepth 20000 in
theorem gX8_thing_X8_whyNotThing : GoodIn wsX8_thing (wsV RX8 63 RX8 yX8_whyNotThing wsX8_whyNotThing) := goodIn_app (goodIn_of _ (by decide +kernel)) ggX8_thing_X8_whyNotThing
set_option maxRecDepth 20000 in
theorem ggX8_thing_X8_remembers : GoodIn wsX8_thing wsX8_remembers := goodIn_r _ [13, 14, 15, 6, 20, 21, 22, 23, 24, 25, 26] (by decide +kernel) (by decide +kernel)
set_option maxRecDepth 20000 in
theorem gX8_thing_X8_remembers : GoodIn wsX8_thing (wsV RX8 60 RX8 yX8_remembers wsX8_remembers) := goodIn_app (goodIn_of _ (by decide +kernel)) ggX8_thing_X8_remembers
set_option maxRecDepth 20000 in
theorem ggX8_thing_X8_comes : GoodIn wsX8_thing wsX8_comes := goodIn_r _ [19, 6, 20, 21, 22, 23, 24, 25, 26] (by decide +kernel) (by decide +kernel)
set_option maxRecDepth 20000 in
theorem gX8_thing_X8_comes : GoodIn wsX8_thing (wsV RX8 67 RX8 yX8_comes wsX8_comes) := goodIn_app (goodIn_of _ (by decide +kernel)) ggX8_thing_X8_comes
theorem dX8_thing_0 : decode cX8_thing 0 = .ok (.aload_n 0, 1) := by decide +kernel
theorem dX8_thing_1 : decode cX8_thing 1 = .ok (.iload_n 1, 1) := by decide +kernel
theorem dX8_thing_2 : decode cX8_thing 2 = .ok (.iload_n 2, 1) := by decide +kernel
theorem dX8_thing_3 : decode cX8_thing 3 = .ok (.iload_n 3, 1) := by decide +kernel
theorem dX8_thing_4 : decode cX8_thing 4 = .ok (.iload 4, 2) := by decide +kernel
theorem dX8_thing_6 : decode cX8_thing 6 = .ok (.iload 5, 2) := by decide +kernel
theorem dX8_thing_8 : decode cX8_thing 8 = .ok (.invokevirtual 63, 3) := by decide +kernel
theorem dX8_thing_11 : decode cX8_thing 11 = .ok (.istore 6, 2) := by decide +kernel
theorem dX8_thing_13 : decode cX8_thing 13 = .ok (.iload 6, 2) := by decide +kernel
theorem dX8_thing_15 : decode cX8_thing 15 = .ok (.ifCond .ge 6, 3) := by decide +kernel
theorem dX8_thing_18 : decode cX8_thing 18 = .ok (.iload 6, 2) := by decide +kernel
theorem dX8_thing_20 : decode cX8_thing 20 = .ok (.ireturn, 1) := by decide +kernel
theorem dX8_thing_21 : decode cX8_thing 21 = .ok (.aload_n 0, 1) := by decide +kernel
theorem dX8_thing_22 : decode cX8_thing 22 = .ok (.invokevirtual 60, 3) := by decide +kernel
theorem dX8_thing_25 : decode cX8_thing 25 = .ok (.aload_n 0, 1) := by decide +kernel
theorem dX8_thing_26 : decode cX8_thing 26 = .ok (.iload_n 1, 1) := by decide +kernel
theorem dX8_thing_27 : decode cX8_thing 27 = .ok (.iload_n 2, 1) := by decide +kernel
theorem dX8_thing_28 : decode cX8_thing 28 = .ok (.iload_n 3, 1) := by decide +kernel
theorem dX8_thing_29 : decode cX8_thing 29 = .ok (.iload 4, 2) := by decide +kernel
theorem dX8_thing_31 : decode cX8_thing 31 = .ok (.iload 5, 2) := by decide +kernel
theorem dX8_thing_33 : decode cX8_thing 33 = .ok (.invokevirtual 67, 3) := by decide +kernel
theorem dX8_thing_36 : decode cX8_thing 36 = .ok (.ireturn, 1) := by decide +kernel
set_option maxRecDepth 20000 in
theorem ggX8_speed_X8_isThing : GoodIn wsX8_speed wsX8_isThing := goodIn_r _ [5, 6, 7, 8, 4, 9, 31, 32, 33, 34, 35, 36, 37] (by decide +kernel) (by decide +kernel)
set_option maxRecDepth 20000 in
theorem gX8_speed_X8_isThing : GoodIn wsX8_speed (wsV RX8 70 RX8 yX8_isThing wsX8_isThing) := goodIn_app (goodIn_of _ (by decide +kernel)) ggX8_speed_X8_isThing
set_option maxRecDepth 20000 in
theorem ggX8_speed_X8_in : GoodIn wsX8_speed wsX8_in := goodIn_r _ [9] (by decide +kernel) (by decide +kernel)
set_option maxRecDepth 20000 in
theorem gX8_speed_X8_in : GoodIn wsX8_speed (va_wsS RX8 30 yX8_in wsX8_in) := goodIn_app (goodIn_of _ (by decide +kernel)) ggX8_speed_X8_in
set_option maxRecDepth 20000 in
theorem ggX8_speed_X8_remembers : GoodIn wsX8_speed wsX8_remembers := goodIn_r _ [13, 14, 15, 6, 31, 32, 33, 34, 35, 36, 37] (by decide +kernel) (by decide +kernel)
set_option maxRecDepth 20000 in
theorem gX8_speed_X8_remembers : GoodIn wsX8_speed (wsV RX8 60 RX8 yX8_remembers wsX8_remembers) := goodIn_app (goodIn_of _ (by decide +kernel)) ggX8_speed_X8_remembers
set_option maxRecDepth 20000 in
theorem ggX8_speed_X8_its : GoodIn wsX8_speed wsX8_its := goodIn_r _ [19, 6, 31, 32, 33, 34, 35, 36, 37] (by decide +kernel) (by decide +kernel)
set_option maxRecDepth 20000 in
theorem gX8_speed_X8_its : GoodIn wsX8_speed (wsV RX8 34 RX8 yX8_its wsX8_its) := goodIn_app (goodIn_of _ (by decide +kernel)) ggX8_speed_X8_its
set_option maxRecDepth 20000 in
theorem ggX8_speed_X8_anew : GoodIn wsX8_speed wsX8_anew := goodIn_r _ [23, 6, 24, 25, 26, 4, 27, 16, 17, 18, 19, 28, 29, 30, 31, 32, 33, 34, 35, 36, 37] (by decide +kernel) (by decide +kernel)
set_option maxRecDepth 20000 in
theorem gX8_speed_X8_anew : GoodIn wsX8_speed (wsV RX8 73 RX8 yX8_anew wsX8_anew) := goodIn_app (goodIn_of _ (by decide +kernel)) ggX8_speed_X8_anew
theorem dX8_speed_0 : decode cX8_speed 0 = .ok (.aload_n 0, 1) := by decide +kernel
theorem dX8_speed_1 : decode cX8_speed 1 = .ok (.iload_n 1, 1) := by decide +kernel
theorem dX8_speed_2 : decode cX8_speed 2 = .ok (.invokevirtual 70, 3) := by decide +kernel
theorem dX8_speed_5 : decode cX8_speed 5 = .ok (.ifCond .ne 5, 3) := by decide +kernel
theorem dX8_speed_8 : decode cX8_speed 8 = .ok (.iconst (-1), 1) := by decide +kernel
theorem dX8_speed_9 : decode cX8_speed 9 = .ok (.ireturn, 1) := by decide +kernel
theorem dX8_speed_10 : decode cX8_speed 10 = .ok (.iload_n 2, 1) := by decide +kernel
theorem dX8_speed_11 : decode cX8_speed 11 = .ok (.bipush (-40), 2) := by decide +kernel
theorem dX8_speed_13 : decode cX8_speed 13 = .ok (.bipush 40, 2) := by decide +kernel
theorem dX8_speed_15 : decode cX8_speed 15 = .ok (.invokestatic 30, 3) := by decide +kernel
theorem dX8_speed_18 : decode cX8_speed 18 = .ok (.ifCond .ne 6, 3) := by decide +kernel
theorem dX8_speed_21 : decode cX8_speed 21 = .ok (.bipush (-2), 2) := by decide +kernel
theorem dX8_speed_23 : decode cX8_speed 23 = .ok (.ireturn, 1) := by decide +kernel
theorem dX8_speed_24 : decode cX8_speed 24 = .ok (.aload_n 0, 1) := by decide +kernel
theorem dX8_speed_25 : decode cX8_speed 25 = .ok (.invokevirtual 60, 3) := by decide +kernel
theorem dX8_speed_28 : decode cX8_speed 28 = .ok (.aload_n 0, 1) := by decide +kernel
theorem dX8_speed_29 : decode cX8_speed 29 = .ok (.iload_n 1, 1) := by decide +kernel
theorem dX8_speed_30 : decode cX8_speed 30 = .ok (.iconst 5, 1) := by decide +kernel
theorem dX8_speed_31 : decode cX8_speed 31 = .ok (.invokevirtual 34, 3) := by decide +kernel
theorem dX8_speed_34 : decode cX8_speed 34 = .ok (.istore_n 3, 1) := by decide +kernel
theorem dX8_speed_35 : decode cX8_speed 35 = .ok (.aload_n 0, 1) := by decide +kernel
theorem dX8_speed_36 : decode cX8_speed 36 = .ok (.iload_n 1, 1) := by decide +kernel
theorem dX8_speed_37 : decode cX8_speed 37 = .ok (.iload_n 2, 1) := by decide +kernel
theorem dX8_speed_38 : decode cX8_speed 38 = .ok (.aload_n 0, 1) := by decide +kernel
theorem dX8_speed_39 : decode cX8_speed 39 = .ok (.iload_n 1, 1) := by decide +kernel
theorem dX8_speed_40 : decode cX8_speed 40 = .ok (.bipush 7, 2) := by decide +kernel
theorem dX8_speed_42 : decode cX8_speed 42 = .ok (.invokevirtual 34, 3) := by decide +kernel
theorem dX8_speed_45 : decode cX8_speed 45 = .ok (.invokevirtual 73, 3) := by decide +kernel
theorem dX8_speed_48 : decode cX8_speed 48 = .ok (.iload_n 3, 1) := by decide +kernel
theorem dX8_speed_49 : decode cX8_speed 49 = .ok (.bipush 100, 2) := by decide +kernel
theorem dX8_speed_51 : decode cX8_speed 51 = .ok (.iadd, 1) := by decide +kernel
theorem dX8_speed_52 : decode cX8_speed 52 = .ok (.ireturn, 1) := by decide +kernel
set_option maxRecDepth 20000 in
theorem ggX8_ride_X8_isThing : GoodIn wsX8_ride wsX8_isThing := goodIn_r _ [5, 6, 7, 8, 4, 9, 31, 32, 33, 34, 35, 36, 37] (by decide +kernel) (by decide +kernel)
set_option maxRecDepth 20000 in
theorem gX8_ride_X8_isThing : GoodIn wsX8_ride (wsV RX8 70 RX8 yX8_isThing wsX8_isThing) := goodIn_app (goodIn_of _ (by decide +kernel)) ggX8_ride_X8_isThing
set_option maxRecDepth 20000 in
theorem ggX8_ride_X8_in : GoodIn wsX8_ride wsX8_in := goodIn_r _ [9] (by decide +kernel) (by decide +kernel)
set_option maxRecDepth 20000 in
theorem gX8_ride_X8_in : GoodIn wsX8_ride (va_wsS RX8 30 yX8_in wsX8_in) := goodIn_app (goodIn_of _ (by decide +kernel)) ggX8_ride_X8_in
set_option maxRecDepth 20000 in
theorem ggX8_ride_X8_remembers : GoodIn wsX8_ride wsX8_remembers := goodIn_r _ [13, 14, 15, 6, 31, 32, 33, 34, 35, 36, 37] (by decide +kernel) (by decide +kernel)
set_option maxRecDepth 20000 in
theorem gX8_ride_X8_remembers : GoodIn wsX8_ride (wsV RX8 60 RX8 yX8_remembers wsX8_remembers) := goodIn_app (goodIn_of _ (by decide +kernel)) ggX8_ride_X8_remembers
set_option maxRecDepth 20000 in
theorem ggX8_ride_X8_its : GoodIn wsX8_ride wsX8_its := goodIn_r _ [19, 6, 31, 32, 33, 34, 35, 36, 37] (by decide +kernel) (by decide +kernel)
set_option maxRecDepth 20000 in
theorem gX8_ride_X8_its : GoodIn wsX8_ride (wsV RX8 34 RX8 yX8_its wsX8_its) := goodIn_app (goodIn_of _ (by decide +kernel)) ggX8_ride_X8_its
set_option maxRecDepth 20000 in
theorem ggX8_ride_X8_anew : GoodIn wsX8_ride wsX8_anew := goodIn_r _ [23, 6, 24, 25, 26, 4, 27, 16, 17, 18, 19, 28, 29, 30, 31, 32, 33, 34, 35, 36, 37] (by decide +kernel) (by decide +kernel)
set_option maxRecDepth 20000 in
theorem gX8_ride_X8_anew : GoodIn wsX8_ride (wsV RX8 73 RX8 yX8_anew wsX8_anew) := goodIn_app (goodIn_of _ (by decide +kernel)) ggX8_ride_X8_anew
theorem dX8_ride_0 : decode cX8_ride 0 = .ok (.aload_n 0, 1) := by decide +kernel
theorem dX8_ride_1 : decode cX8_ride 1 = .ok (.iload_n 1, 1) := by decide +kernel
theorem dX8_ride_2 : decode cX8_ride 2 = .ok (.invokevirtual 70, 3) := by decide +kernel
theorem dX8_ride_5 : decode cX8_ride 5 = .ok (.ifCond .ne 5, 3) := by decide +kernel
theorem dX8_ride_8 : decode cX8_ride 8 = .ok (.iconst (-1), 1) := by decide +kernel
theorem dX8_ride_9 : decode cX8_ride 9 = .ok (.ireturn, 1) := by decide +kernel
theorem dX8_ride_10 : decode cX8_ride 10 = .ok (.iload_n 2, 1) := by decide +kernel
theorem dX8_ride_11 : decode cX8_ride 11 = .ok (.bipush (-6), 2) := by decide +kernel
theorem dX8_ride_13 : decode cX8_ride 13 = .ok (.if_icmp .eq 17, 3) := by decide +kernel
theorem dX8_ride_16 : decode cX8_ride 16 = .ok (.iload_n 2, 1) := by decide +kernel
theorem dX8_ride_17 : decode cX8_ride 17 = .ok (.iconst 0, 1) := by decide +kernel
theorem dX8_ride_18 : decode cX8_ride 18 = .ok (.iload_n 1, 1) := by decide +kernel
theorem dX8_ride_19 : decode cX8_ride 19 = .ok (.iconst 1, 1) := by decide +kernel
theorem dX8_ride_20 : decode cX8_ride 20 = .ok (.isub, 1) := by decide +kernel
theorem dX8_ride_21 : decode cX8_ride 21 = .ok (.invokestatic 30, 3) := by decide +kernel
theorem dX8_ride_24 : decode cX8_ride 24 = .ok (.ifCond .ne 6, 3) := by decide +kernel
theorem dX8_ride_27 : decode cX8_ride 27 = .ok (.bipush (-2), 2) := by decide +kernel
theorem dX8_ride_29 : decode cX8_ride 29 = .ok (.ireturn, 1) := by decide +kernel
theorem dX8_ride_30 : decode cX8_ride 30 = .ok (.aload_n 0, 1) := by decide +kernel
theorem dX8_ride_31 : decode cX8_ride 31 = .ok (.invokevirtual 60, 3) := by decide +kernel
theorem dX8_ride_34 : decode cX8_ride 34 = .ok (.aload_n 0, 1) := by decide +kernel
theorem dX8_ride_35 : decode cX8_ride 35 = .ok (.iload_n 1, 1) := by decide +kernel
theorem dX8_ride_36 : decode cX8_ride 36 = .ok (.bipush 7, 2) := by decide +kernel
theorem dX8_ride_38 : decode cX8_ride 38 = .ok (.invokevirtual 34, 3) := by decide +kernel
theorem dX8_ride_41 : decode cX8_ride 41 = .ok (.istore_n 3, 1) := by decide +kernel
theorem dX8_ride_42 : decode cX8_ride 42 = .ok (.aload_n 0, 1) := by decide +kernel
theorem dX8_ride_43 : decode cX8_ride 43 = .ok (.iload_n 1, 1) := by decide +kernel
theorem dX8_ride_44 : decode cX8_ride 44 = .ok (.aload_n 0, 1) := by decide +kernel
theorem dX8_ride_45 : decode cX8_ride 45 = .ok (.iload_n 1, 1) := by decide +kernel
theorem dX8_ride_46 : decode cX8_ride 46 = .ok (.iconst 5, 1) := by decide +kernel
theorem dX8_ride_47 : decode cX8_ride 47 = .ok (.invokevirtual 34, 3) := by decide +kernel
theorem dX8_ride_50 : decode cX8_ride 50 = .ok (.iload_n 2, 1) := by decide +kernel
theorem dX8_ride_51 : decode cX8_ride 51 = .ok (.bipush (-6), 2) := by decide +kernel
theorem dX8_ride_53 : decode cX8_ride 53 = .ok (.if_icmp .ne 7, 3) := by decide +kernel
theorem dX8_ride_56 : decode cX8_ride 56 = .ok (.iconst (-1), 1) := by decide +kernel
theorem dX8_ride_57 : decode cX8_ride 57 = .ok (.goto 4, 3) := by decide +kernel
theorem dX8_ride_60 : decode cX8_ride 60 = .ok (.iload_n 2, 1) := by decide +kernel
theorem dX8_ride_61 : decode cX8_ride 61 = .ok (.invokevirtual 73, 3) := by decide +kernel
theorem dX8_ride_64 : decode cX8_ride 64 = .ok (.iload_n 3, 1) := by decide +kernel
theorem dX8_ride_65 : decode cX8_ride 65 = .ok (.ifCond .ge 8, 3) := by decide +kernel
theorem dX8_ride_68 : decode cX8_ride 68 = .ok (.bipush (-6), 2) := by decide +kernel
theorem dX8_ride_70 : decode cX8_ride 70 = .ok (.goto 4, 3) := by decide +kernel
theorem dX8_ride_73 : decode cX8_ride 73 = .ok (.iload_n 3, 1) := by decide +kernel
theorem dX8_ride_74 : decode cX8_ride 74 = .ok (.ireturn, 1) := by decide +kernel
set_option maxRecDepth 20000 in
theorem ggX8_isFlash_X8_in : GoodIn wsX8_isFlash wsX8_in := goodIn_r _ [4] (by decide +kernel) (by decide +kernel)
set_option maxRecDepth 20000 in
theorem gX8_isFlash_X8_in : GoodIn wsX8_isFlash (va_wsS RX8 30 yX8_in wsX8_in) := goodIn_app (goodIn_of _ (by decide +kernel)) ggX8_isFlash_X8_in
theorem dX8_isFlash_0 : decode cX8_isFlash 0 = .ok (.iload_n 0, 1) := by decide +kernel
theorem dX8_isFlash_1 : decode cX8_isFlash 1 = .ok (.iconst 0, 1) := by decide +kernel
theorem dX8_isFlash_2 : decode cX8_isFlash 2 = .ok (.bipush 99, 2) := by decide +kernel
theorem dX8_isFlash_4 : decode cX8_isFlash 4 = .ok (.invokestatic 30, 3) := by decide +kernel
theorem dX8_isFlash_7 : decode cX8_isFlash 7 = .ok (.ifCond .eq 17, 3) := by decide +kernel
theorem dX8_isFlash_10 : decode cX8_isFlash 10 = .ok (.iload_n 1, 1) := by decide +kernel
theorem dX8_isFlash_11 : decode cX8_isFlash 11 = .ok (.iconst 1, 1) := by decide +kernel
theorem dX8_isFlash_12 : decode cX8_isFlash 12 = .ok (.bipush 20, 2) := by decide +kernel
theorem dX8_isFlash_14 : decode cX8_isFlash 14 = .ok (.invokestatic 30, 3) := by decide +kernel
theorem dX8_isFlash_17 : decode cX8_isFlash 17 = .ok (.ifCond .eq 7, 3) := by decide +kernel
theorem dX8_isFlash_20 : decode cX8_isFlash 20 = .ok (.iconst 1, 1) := by decide +kernel
theorem dX8_isFlash_21 : decode cX8_isFlash 21 = .ok (.goto 4, 3) := by decide +kernel
theorem dX8_isFlash_24 : decode cX8_isFlash 24 = .ok (.iconst 0, 1) := by decide +kernel
theorem dX8_isFlash_25 : decode cX8_isFlash 25 = .ok (.ireturn, 1) := by decide +kernel
theorem dX8_flashes_0 : decode cX8_flashes 0 = .ok (.aload_n 0, 1) := by decide +kernel
theorem dX8_flashes_1 : decode cX8_flashes 1 = .ok (.getfield 7, 3) := by decide +kernel
theorem dX8_flashes_4 : decode cX8_flashes 4 = .ok (.bipush 7, 2) := by decide +kernel
theorem dX8_flashes_6 : decode cX8_flashes 6 = .ok (.aload_n 0, 1) := by decide +kernel
theorem dX8_flashes_7 : decode cX8_flashes 7 = .ok (.getfield 7, 3) := by decide +kernel
theorem dX8_flashes_10 : decode cX8_flashes 10 = .ok (.iconst 4, 1) := by decide +kernel
theorem dX8_flashes_11 : decode cX8_flashes 11 = .ok (.iaload, 1) := by decide +kernel
theorem dX8_flashes_12 : decode cX8_flashes 12 = .ok (.iload_n 1, 1) := by decide +kernel
theorem dX8_flashes_13 : decode cX8_flashes 13 = .ok (.iadd, 1) := by decide +kernel
theorem dX8_flashes_14 : decode cX8_flashes 14 = .ok (.iastore, 1) := by decide +kernel
theorem dX8_flashes_15 : decode cX8_flashes 15 = .ok (.aload_n 0, 1) := by decide +kernel
theorem dX8_flashes_16 : decode cX8_flashes 16 = .ok (.getfield 7, 3) := by decide +kernel
theorem dX8_flashes_19 : decode cX8_flashes 19 = .ok (.bipush 8, 2) := by decide +kernel
theorem dX8_flashes_21 : decode cX8_flashes 21 = .ok (.iload_n 2, 1) := by decide +kernel
theorem dX8_flashes_22 : decode cX8_flashes 22 = .ok (.iastore, 1) := by decide +kernel
theorem dX8_flashes_23 : decode cX8_flashes 23 = .ok (.aload_n 0, 1) := by decide +kernel
theorem dX8_flashes_24 : decode cX8_flashes 24 = .ok (.getfield 7, 3) := by decide +kernel
theorem dX8_flashes_27 : decode cX8_flashes 27 = .ok (.bipush 7, 2) := by decide +kernel
theorem dX8_flashes_29 : decode cX8_flashes 29 = .ok (.iaload, 1) := by decide +kernel
theorem dX8_flashes_30 : decode cX8_flashes 30 = .ok (.ireturn, 1) := by decide +kernel
set_option maxRecDepth 20000 in
theorem ggX8_flash_X8_isFlash : GoodIn wsX8_flash wsX8_isFlash := goodIn_r _ [4, 5, 6, 3, 7] (by decide +kernel) (by decide +kernel)
set_option maxRecDepth 20000 in
theorem gX8_flash_X8_isFlash : GoodIn wsX8_flash (va_wsS RX8 77 yX8_isFlash wsX8_isFlash) := goodIn_app (goodIn_of _ (by decide +kernel)) ggX8_flash_X8_isFlash
set_option maxRecDepth 20000 in
theorem ggX8_flash_X8_remembers : GoodIn wsX8_flash wsX8_remembers := goodIn_r _ [11, 12, 13, 14, 19, 20, 21, 22, 23, 24, 25] (by decide +kernel) (by decide +kernel)
set_option maxRecDepth 20000 in
theorem gX8_flash_X8_remembers : GoodIn wsX8_flash (wsV RX8 60 RX8 yX8_remembers wsX8_remembers) := goodIn_app (goodIn_of _ (by decide +kernel)) ggX8_flash_X8_remembers
set_option maxRecDepth 20000 in
theorem ggX8_flash_X8_flashes : GoodIn wsX8_flash wsX8_flashes := goodIn_r _ [18, 14, 19, 20, 21, 22, 23, 24, 25] (by decide +kernel) (by decide +kernel)
set_option maxRecDepth 20000 in
theorem gX8_flash_X8_flashes : GoodIn wsX8_flash (wsV RX8 81 RX8 yX8_flashes wsX8_flashes) := goodIn_app (goodIn_of _ (by decide +kernel)) ggX8_flash_X8_flashes
theorem dX8_flash_0 : decode cX8_flash 0 = .ok (.iload_n 1, 1) := by decide +kernel
theorem dX8_flash_1 : decode cX8_flash 1 = .ok (.iload_n 2, 1) := by decide +kernel
theorem dX8_flash_2 : decode cX8_flash 2 = .ok (.invokestatic 77, 3) := by decide +kernel
theorem dX8_flash_5 : decode cX8_flash 5 = .ok (.ifCond .ne 6, 3) := by decide +kernel
theorem dX8_flash_8 : decode cX8_flash 8 = .ok (.bipush (-2), 2) := by decide +kernel
theorem dX8_flash_10 : decode cX8_flash 10 = .ok (.ireturn, 1) := by decide +kernel
theorem dX8_flash_11 : decode cX8_flash 11 = .ok (.aload_n 0, 1) := by decide +kernel
theorem dX8_flash_12 : decode cX8_flash 12 = .ok (.invokevirtual 60, 3) := by decide +kernel
theorem dX8_flash_15 : decode cX8_flash 15 = .ok (.aload_n 0, 1) := by decide +kernel
theorem dX8_flash_16 : decode cX8_flash 16 = .ok (.iload_n 1, 1) := by decide +kernel
theorem dX8_flash_17 : decode cX8_flash 17 = .ok (.iload_n 2, 1) := by decide +kernel
theorem dX8_flash_18 : decode cX8_flash 18 = .ok (.invokevirtual 81, 3) := by decide +kernel
theorem dX8_flash_21 : decode cX8_flash 21 = .ok (.ireturn, 1) := by decide +kernel
set_option maxRecDepth 20000 in
theorem ggX8_whyNotPass_X8_in : GoodIn wsX8_whyNotPass wsX8_in := goodIn_r _ [5] (by decide +kernel) (by decide +kernel)
set_option maxRecDepth 20000 in
theorem gX8_whyNotPass_X8_in : GoodIn wsX8_whyNotPass (va_wsS RX8 30 yX8_in wsX8_in) := goodIn_app (goodIn_of _ (by decide +kernel)) ggX8_whyNotPass_X8_in
theorem dX8_whyNotPass_0 : decode cX8_whyNotPass 0 = .ok (.iload_n 1, 1) := by decide +kernel
theorem dX8_whyNotPass_1 : decode cX8_whyNotPass 1 = .ok (.iconst 1, 1) := by decide +kernel
theorem dX8_whyNotPass_2 : decode cX8_whyNotPass 2 = .ok (.bipush 99, 2) := by decide +kernel
theorem dX8_whyNotPass_4 : decode cX8_whyNotPass 4 = .ok (.invokestatic 30, 3) := by decide +kernel
theorem dX8_whyNotPass_7 : decode cX8_whyNotPass 7 = .ok (.ifCond .ne 8, 3) := by decide +kernel
theorem dX8_whyNotPass_10 : decode cX8_whyNotPass 10 = .ok (.bipush (-2), 2) := by decide +kernel
theorem dX8_whyNotPass_12 : decode cX8_whyNotPass 12 = .ok (.goto 23, 3) := by decide +kernel
theorem dX8_whyNotPass_15 : decode cX8_whyNotPass 15 = .ok (.aload_n 0, 1) := by decide +kernel
theorem dX8_whyNotPass_16 : decode cX8_whyNotPass 16 = .ok (.getfield 7, 3) := by decide +kernel
theorem dX8_whyNotPass_19 : decode cX8_whyNotPass 19 = .ok (.iconst 4, 1) := by decide +kernel
theorem dX8_whyNotPass_20 : decode cX8_whyNotPass 20 = .ok (.iaload, 1) := by decide +kernel
theorem dX8_whyNotPass_21 : decode cX8_whyNotPass 21 = .ok (.iload_n 1, 1) := by decide +kernel
theorem dX8_whyNotPass_22 : decode cX8_whyNotPass 22 = .ok (.iadd, 1) := by decide +kernel
theorem dX8_whyNotPass_23 : decode cX8_whyNotPass 23 = .ok (.sipush 9999, 3) := by decide +kernel
theorem dX8_whyNotPass_26 : decode cX8_whyNotPass 26 = .ok (.if_icmp .le 8, 3) := by decide +kernel
theorem dX8_whyNotPass_29 : decode cX8_whyNotPass 29 = .ok (.bipush (-5), 2) := by decide +kernel
theorem dX8_whyNotPass_31 : decode cX8_whyNotPass 31 = .ok (.goto 4, 3) := by decide +kernel
theorem dX8_whyNotPass_34 : decode cX8_whyNotPass 34 = .ok (.iconst 0, 1) := by decide +kernel
theorem dX8_whyNotPass_35 : decode cX8_whyNotPass 35 = .ok (.ireturn, 1) := by decide +kernel
set_option maxRecDepth 20000 in
theorem ggX8_pass_X8_whyNotPass : GoodIn wsX8_pass wsX8_whyNotPass := goodIn_r _ [6, 1, 7, 8, 5, 9, 16, 17, 18, 19, 20, 21, 22] (by decide +kernel) (by decide +kernel)
set_option maxRecDepth 20000 in
theorem gX8_pass_X8_whyNotPass : GoodIn wsX8_pass (wsV RX8 84 RX8 yX8_whyNotPass wsX8_whyNotPass) := goodIn_app (goodIn_of _ (by decide +kernel)) ggX8_pass_X8_whyNotPass
set_option maxRecDepth 20000 in
theorem ggX8_pass_X8_remembers : GoodIn wsX8_pass wsX8_remembers := goodIn_r _ [13, 14, 15, 1, 16, 17, 18, 19, 20, 21, 22] (by decide +kernel) (by decide +kernel)
set_option maxRecDepth 20000 in
theorem gX8_pass_X8_remembers : GoodIn wsX8_pass (wsV RX8 60 RX8 yX8_remembers wsX8_remembers) := goodIn_app (goodIn_of _ (by decide +kernel)) ggX8_pass_X8_remembers
theorem dX8_pass_0 : decode cX8_pass 0 = .ok (.aload_n 0, 1) := by decide +kernel
theorem dX8_pass_1 : decode cX8_pass 1 = .ok (.iload_n 1, 1) := by decide +kernel
theorem dX8_pass_2 : decode cX8_pass 2 = .ok (.invokevirtual 84, 3) := by decide +kernel
theorem dX8_pass_5 : decode cX8_pass 5 = .ok (.istore_n 2, 1) := by decide +kernel
theorem dX8_pass_6 : decode cX8_pass 6 = .ok (.iload_n 2, 1) := by decide +kernel
theorem dX8_pass_7 : decode cX8_pass 7 = .ok (.ifCond .ge 5, 3) := by decide +kernel
theorem dX8_pass_10 : decode cX8_pass 10 = .ok (.iload_n 2, 1) := by decide +kernel
theorem dX8_pass_11 : decode cX8_pass 11 = .ok (.ireturn, 1) := by decide +kernel
theorem dX8_pass_12 : decode cX8_pass 12 = .ok (.aload_n 0, 1) := by decide +kernel
theorem dX8_pass_13 : decode cX8_pass 13 = .ok (.invokevirtual 60, 3) := by decide +kernel
theorem dX8_pass_16 : decode cX8_pass 16 = .ok (.aload_n 0, 1) := by decide +kernel
theorem dX8_pass_17 : decode cX8_pass 17 = .ok (.getfield 7, 3) := by decide +kernel
theorem dX8_pass_20 : decode cX8_pass 20 = .ok (.iconst 4, 1) := by decide +kernel
theorem dX8_pass_21 : decode cX8_pass 21 = .ok (.dup2, 1) := by decide +kernel
theorem dX8_pass_22 : decode cX8_pass 22 = .ok (.iaload, 1) := by decide +kernel
theorem dX8_pass_23 : decode cX8_pass 23 = .ok (.iload_n 1, 1) := by decide +kernel
theorem dX8_pass_24 : decode cX8_pass 24 = .ok (.iadd, 1) := by decide +kernel
theorem dX8_pass_25 : decode cX8_pass 25 = .ok (.iastore, 1) := by decide +kernel
theorem dX8_pass_26 : decode cX8_pass 26 = .ok (.aload_n 0, 1) := by decide +kernel
theorem dX8_pass_27 : decode cX8_pass 27 = .ok (.getfield 7, 3) := by decide +kernel
theorem dX8_pass_30 : decode cX8_pass 30 = .ok (.iconst 4, 1) := by decide +kernel
theorem dX8_pass_31 : decode cX8_pass 31 = .ok (.iaload, 1) := by decide +kernel
theorem dX8_pass_32 : decode cX8_pass 32 = .ok (.ireturn, 1) := by decide +kernel
theorem dX8_whyNotShoot_0 : decode cX8_whyNotShoot 0 = .ok (.aload_n 0, 1) := by decide +kernel
theorem dX8_whyNotShoot_1 : decode cX8_whyNotShoot 1 = .ok (.getfield 7, 3) := by decide +kernel
theorem dX8_whyNotShoot_4 : decode cX8_whyNotShoot 4 = .ok (.iconst 4, 1) := by decide +kernel
theorem dX8_whyNotShoot_5 : decode cX8_whyNotShoot 5 = .ok (.iaload, 1) := by decide +kernel
theorem dX8_whyNotShoot_6 : decode cX8_whyNotShoot 6 = .ok (.bipush 15, 2) := by decide +kernel
theorem dX8_whyNotShoot_8 : decode cX8_whyNotShoot 8 = .ok (.aload_n 0, 1) := by decide +kernel
theorem dX8_whyNotShoot_9 : decode cX8_whyNotShoot 9 = .ok (.getfield 7, 3) := by decide +kernel
theorem dX8_whyNotShoot_12 : decode cX8_whyNotShoot 12 = .ok (.iconst 0, 1) := by decide +kernel
theorem dX8_whyNotShoot_13 : decode cX8_whyNotShoot 13 = .ok (.iaload, 1) := by decide +kernel
theorem dX8_whyNotShoot_14 : decode cX8_whyNotShoot 14 = .ok (.imul, 1) := by decide +kernel
theorem dX8_whyNotShoot_15 : decode cX8_whyNotShoot 15 = .ok (.iadd, 1) := by decide +kernel
theorem dX8_whyNotShoot_16 : decode cX8_whyNotShoot 16 = .ok (.aload_n 0, 1) := by decide +kernel
theorem dX8_whyNotShoot_17 : decode cX8_whyNotShoot 17 = .ok (.getfield 7, 3) := by decide +kernel
theorem dX8_whyNotShoot_20 : decode cX8_whyNotShoot 20 = .ok (.iconst 1, 1) := by decide +kernel
theorem dX8_whyNotShoot_21 : decode cX8_whyNotShoot 21 = .ok (.iaload, 1) := by decide +kernel
theorem dX8_whyNotShoot_22 : decode cX8_whyNotShoot 22 = .ok (.iadd, 1) := by decide +kernel
theorem dX8_whyNotShoot_23 : decode cX8_whyNotShoot 23 = .ok (.sipush 9999, 3) := by decide +kernel
theorem dX8_whyNotShoot_26 : decode cX8_whyNotShoot 26 = .ok (.if_icmp .le 8, 3) := by decide +kernel
theorem dX8_whyNotShoot_29 : decode cX8_whyNotShoot 29 = .ok (.bipush (-5), 2) := by decide +kernel
theorem dX8_whyNotShoot_31 : decode cX8_whyNotShoot 31 = .ok (.goto 4, 3) := by decide +kernel
theorem dX8_whyNotShoot_34 : decode cX8_whyNotShoot 34 = .ok (.iconst 0, 1) := by decide +kernel
theorem dX8_whyNotShoot_35 : decode cX8_whyNotShoot 35 = .ok (.ireturn, 1) := by decide +kernel
set_option maxRecDepth 20000 in
theorem ggX8_shoots_X8_exposed : GoodIn wsX8_shoots wsX8_exposed := goodIn_r _ [6, 1, 7, 8, 9, 5, 10, 11, 12, 13, 14, 15, 16, 17, 18, 19, 20, 21, 22, 23, 24, 25, 26, 27, 28, 29, 30, 31, 32, 33, 34, 35, 36, 37, 38, 39, 40, 41, 42, 43] (by decide +kernel) (by decide +kernel)
set_option maxRecDepth 20000 in
theorem gX8_shoots_X8_exposed : GoodIn wsX8_shoots (wsV RX8 87 RX8 yX8_exposed wsX8_exposed) := goodIn_app (goodIn_of _ (by decide +kernel)) ggX8_shoots_X8_exposed
theorem dX8_shoots_0 : decode cX8_shoots 0 = .ok (.iconst 0, 1) := by decide +kernel
theorem dX8_shoots_1 : decode cX8_shoots 1 = .ok (.istore_n 1, 1) := by decide +kernel
theorem dX8_shoots_2 : decode cX8_shoots 2 = .ok (.iconst 0, 1) := by decide +kernel
theorem dX8_shoots_3 : decode cX8_shoots 3 = .ok (.istore_n 2, 1) := by decide +kernel
theorem dX8_shoots_4 : decode cX8_shoots 4 = .ok (.iload_n 2, 1) := by decide +kernel
theorem dX8_shoots_5 : decode cX8_shoots 5 = .ok (.sipush 384, 3) := by decide +kernel
theorem dX8_shoots_8 : decode cX8_shoots 8 = .ok (.if_icmp .ge 54, 3) := by decide +kernel
theorem dX8_shoots_11 : decode cX8_shoots 11 = .ok (.aload_n 0, 1) := by decide +kernel
theorem dX8_shoots_12 : decode cX8_shoots 12 = .ok (.iload_n 2, 1) := by decide +kernel
theorem dX8_shoots_13 : decode cX8_shoots 13 = .ok (.bipush 24, 2) := by decide +kernel
theorem dX8_shoots_15 : decode cX8_shoots 15 = .ok (.idiv, 1) := by decide +kernel
theorem dX8_shoots_16 : decode cX8_shoots 16 = .ok (.iload_n 2, 1) := by decide +kernel
theorem dX8_shoots_17 : decode cX8_shoots 17 = .ok (.bipush 24, 2) := by decide +kernel
theorem dX8_shoots_19 : decode cX8_shoots 19 = .ok (.irem, 1) := by decide +kernel
theorem dX8_shoots_20 : decode cX8_shoots 20 = .ok (.aload_n 0, 1) := by decide +kernel
theorem dX8_shoots_21 : decode cX8_shoots 21 = .ok (.getfield 7, 3) := by decide +kernel
theorem dX8_shoots_24 : decode cX8_shoots 24 = .ok (.iconst 4, 1) := by decide +kernel
theorem dX8_shoots_25 : decode cX8_shoots 25 = .ok (.iaload, 1) := by decide +kernel
theorem dX8_shoots_26 : decode cX8_shoots 26 = .ok (.iload_n 2, 1) := by decide +kernel
theorem dX8_shoots_27 : decode cX8_shoots 27 = .ok (.bipush 24, 2) := by decide +kernel
theorem dX8_shoots_29 : decode cX8_shoots 29 = .ok (.idiv, 1) := by decide +kernel
theorem dX8_shoots_30 : decode cX8_shoots 30 = .ok (.aload_n 0, 1) := by decide +kernel
theorem dX8_shoots_31 : decode cX8_shoots 31 = .ok (.getfield 7, 3) := by decide +kernel
theorem dX8_shoots_34 : decode cX8_shoots 34 = .ok (.iconst 0, 1) := by decide +kernel
theorem dX8_shoots_35 : decode cX8_shoots 35 = .ok (.iaload, 1) := by decide +kernel
theorem dX8_shoots_36 : decode cX8_shoots 36 = .ok (.imul, 1) := by decide +kernel
theorem dX8_shoots_37 : decode cX8_shoots 37 = .ok (.iadd, 1) := by decide +kernel
theorem dX8_shoots_38 : decode cX8_shoots 38 = .ok (.invokevirtual 87, 3) := by decide +kernel
theorem dX8_shoots_41 : decode cX8_shoots 41 = .ok (.istore_n 3, 1) := by decide +kernel
theorem dX8_shoots_42 : decode cX8_shoots 42 = .ok (.aload_n 0, 1) := by decide +kernel
theorem dX8_shoots_43 : decode cX8_shoots 43 = .ok (.getfield 7, 3) := by decide +kernel
theorem dX8_shoots_46 : decode cX8_shoots 46 = .ok (.bipush 81, 2) := by decide +kernel
theorem dX8_shoots_48 : decode cX8_shoots 48 = .ok (.iload_n 2, 1) := by decide +kernel
theorem dX8_shoots_49 : decode cX8_shoots 49 = .ok (.iadd, 1) := by decide +kernel
theorem dX8_shoots_50 : decode cX8_shoots 50 = .ok (.iload_n 3, 1) := by decide +kernel
theorem dX8_shoots_51 : decode cX8_shoots 51 = .ok (.iastore, 1) := by decide +kernel
theorem dX8_shoots_52 : decode cX8_shoots 52 = .ok (.iload_n 1, 1) := by decide +kernel
theorem dX8_shoots_53 : decode cX8_shoots 53 = .ok (.iload_n 3, 1) := by decide +kernel
theorem dX8_shoots_54 : decode cX8_shoots 54 = .ok (.iadd, 1) := by decide +kernel
theorem dX8_shoots_55 : decode cX8_shoots 55 = .ok (.istore_n 1, 1) := by decide +kernel
theorem dX8_shoots_56 : decode cX8_shoots 56 = .ok (.iinc 2 1, 3) := by decide +kernel
theorem dX8_shoots_59 : decode cX8_shoots 59 = .ok (.goto (-55), 3) := by decide +kernel
theorem dX8_shoots_62 : decode cX8_shoots 62 = .ok (.aload_n 0, 1) := by decide +kernel
theorem dX8_shoots_63 : decode cX8_shoots 63 = .ok (.getfield 7, 3) := by decide +kernel
theorem dX8_shoots_66 : decode cX8_shoots 66 = .ok (.iconst 4, 1) := by decide +kernel
theorem dX8_shoots_67 : decode cX8_shoots 67 = .ok (.dup2, 1) := by decide +kernel
theorem dX8_shoots_68 : decode cX8_shoots 68 = .ok (.iaload, 1) := by decide +kernel
theorem dX8_shoots_69 : decode cX8_shoots 69 = .ok (.bipush 15, 2) := by decide +kernel
theorem dX8_shoots_71 : decode cX8_shoots 71 = .ok (.aload_n 0, 1) := by decide +kernel
theorem dX8_shoots_72 : decode cX8_shoots 72 = .ok (.getfield 7, 3) := by decide +kernel
theorem dX8_shoots_75 : decode cX8_shoots 75 = .ok (.iconst 0, 1) := by decide +kernel
theorem dX8_shoots_76 : decode cX8_shoots 76 = .ok (.iaload, 1) := by decide +kernel
theorem dX8_shoots_77 : decode cX8_shoots 77 = .ok (.imul, 1) := by decide +kernel
theorem dX8_shoots_78 : decode cX8_shoots 78 = .ok (.aload_n 0, 1) := by decide +kernel
theorem dX8_shoots_79 : decode cX8_shoots 79 = .ok (.getfield 7, 3) := by decide +kernel
theorem dX8_shoots_82 : decode cX8_shoots 82 = .ok (.iconst 1, 1) := by decide +kernel
theorem dX8_shoots_83 : decode cX8_shoots 83 = .ok (.iaload, 1) := by decide +kernel
theorem dX8_shoots_84 : decode cX8_shoots 84 = .ok (.iadd, 1) := by decide +kernel
theorem dX8_shoots_85 : decode cX8_shoots 85 = .ok (.iadd, 1) := by decide +kernel
theorem dX8_shoots_86 : decode cX8_shoots 86 = .ok (.iastore, 1) := by decide +kernel
theorem dX8_shoots_87 : decode cX8_shoots 87 = .ok (.aload_n 0, 1) := by decide +kernel
theorem dX8_shoots_88 : decode cX8_shoots 88 = .ok (.getfield 7, 3) := by decide +kernel
theorem dX8_shoots_91 : decode cX8_shoots 91 = .ok (.bipush 6, 2) := by decide +kernel
theorem dX8_shoots_93 : decode cX8_shoots 93 = .ok (.dup2, 1) := by decide +kernel
theorem dX8_shoots_94 : decode cX8_shoots 94 = .ok (.iaload, 1) := by decide +kernel
theorem dX8_shoots_95 : decode cX8_shoots 95 = .ok (.iconst 1, 1) := by decide +kernel
theorem dX8_shoots_96 : decode cX8_shoots 96 = .ok (.iadd, 1) := by decide +kernel
theorem dX8_shoots_97 : decode cX8_shoots 97 = .ok (.iastore, 1) := by decide +kernel
theorem dX8_shoots_98 : decode cX8_shoots 98 = .ok (.iload_n 1, 1) := by decide +kernel
theorem dX8_shoots_99 : decode cX8_shoots 99 = .ok (.ireturn, 1) := by decide +kernel
set_option maxRecDepth 20000 in
theorem ggX8_shoot_X8_whyNotShoot : GoodIn wsX8_shoot wsX8_whyNotShoot := goodIn_r _ [5, 6, 51, 52, 53, 54, 55, 56, 57] (by decide +kernel) (by decide +kernel)
set_option maxRecDepth 20000 in
theorem gX8_shoot_X8_whyNotShoot : GoodIn wsX8_shoot (wsV RX8 90 RX8 yX8_whyNotShoot wsX8_whyNotShoot) := goodIn_app (goodIn_of _ (by decide +kernel)) ggX8_shoot_X8_whyNotShoot
set_option maxRecDepth 20000 in
theorem ggX8_shoot_X8_remembers : GoodIn wsX8_shoot wsX8_remembers := goodIn_r _ [10, 11, 12, 6, 51, 52, 53, 54, 55, 56, 57] (by decide +kernel) (by decide +kernel)
set_option maxRecDepth 20000 in
theorem gX8_shoot_X8_remembers : GoodIn wsX8_shoot (wsV RX8 60 RX8 yX8_remembers wsX8_remembers) := goodIn_app (goodIn_of _ (by decide +kernel)) ggX8_shoot_X8_remembers
set_option maxRecDepth 20000 in
theorem ggX8_shoot_X8_shoots : GoodIn wsX8_shoot wsX8_shoots := goodIn_r _ [16, 6, 17, 18, 19, 4, 20, 21, 22, 23, 24, 25, 26, 27, 28, 29, 30, 31, 32, 33, 34, 35, 36, 37, 38, 39, 40, 41, 42, 43, 44, 45, 46, 47, 48, 49, 50, 51, 52, 53, 54, 55, 56, 57] (by decide +kernel) (by decide +kernel)
set_option maxRecDepth 20000 in
theorem gX8_shoot_X8_shoots : GoodIn wsX8_shoot (wsV RX8 94 RX8 yX8_shoots wsX8_shoots) := goodIn_app (goodIn_of _ (by decide +kernel)) ggX8_shoot_X8_shoots
theorem dX8_shoot_0 : decode cX8_shoot 0 = .ok (.aload_n 0, 1) := by decide +kernel
theorem dX8_shoot_1 : decode cX8_shoot 1 = .ok (.invokevirtual 90, 3) := by decide +kernel
theorem dX8_shoot_4 : decode cX8_shoot 4 = .ok (.ifCond .ge 6, 3) := by decide +kernel
theorem dX8_shoot_7 : decode cX8_shoot 7 = .ok (.bipush (-5), 2) := by decide +kernel
theorem dX8_shoot_9 : decode cX8_shoot 9 = .ok (.ireturn, 1) := by decide +kernel
theorem dX8_shoot_10 : decode cX8_shoot 10 = .ok (.aload_n 0, 1) := by decide +kernel
theorem dX8_shoot_11 : decode cX8_shoot 11 = .ok (.invokevirtual 60, 3) := by decide +kernel
theorem dX8_shoot_14 : decode cX8_shoot 14 = .ok (.aload_n 0, 1) := by decide +kernel
theorem dX8_shoot_15 : decode cX8_shoot 15 = .ok (.invokevirtual 94, 3) := by decide +kernel
theorem dX8_shoot_18 : decode cX8_shoot 18 = .ok (.ireturn, 1) := by decide +kernel
set_option maxRecDepth 20000 in
theorem ggX8_of_X8_isThing : GoodIn wsX8_of wsX8_isThing := goodIn_r _ [6, 1, 7, 8, 5, 9, 25, 26, 27, 28, 29, 30, 31] (by decide +kernel) (by decide +kernel)
set_option maxRecDepth 20000 in
theorem gX8_of_X8_isThing : GoodIn wsX8_of (wsV RX8 70 RX8 yX8_isThing wsX8_isThing) := goodIn_app (goodIn_of _ (by decide +kernel)) ggX8_of_X8_isThing
set_option maxRecDepth 20000 in
theorem ggX8_of_X8_its : GoodIn wsX8_of wsX8_its := goodIn_r _ [13, 1, 25, 26, 27, 28, 29, 30, 31] (by decide +kernel) (by decide +kernel)
set_option maxRecDepth 20000 in
theorem gX8_of_X8_its : GoodIn wsX8_of (wsV RX8 34 RX8 yX8_its wsX8_its) := goodIn_app (goodIn_of _ (by decide +kernel)) ggX8_of_X8_its
set_option maxRecDepth 20000 in
theorem ggX8_of_X8_left : GoodIn wsX8_of wsX8_left := goodIn_r _ [17, 10, 11, 12, 5, 13, 1, 18, 19, 20, 25, 26, 27, 28, 29, 30, 31] (by decide +kernel) (by decide +kernel)
set_option maxRecDepth 20000 in
theorem gX8_of_X8_left : GoodIn wsX8_of (wsV RX8 42 RX8 yX8_left wsX8_left) := goodIn_app (goodIn_of _ (by decide +kernel)) ggX8_of_X8_left
set_option maxRecDepth 20000 in
theorem ggX8_of_X8_goes : GoodIn wsX8_of wsX8_goes := goodIn_r _ [24, 10, 11, 12, 5, 13, 1, 25, 26, 27, 28, 29, 30, 31] (by decide +kernel) (by decide +kernel)
set_option maxRecDepth 20000 in
theorem gX8_of_X8_goes : GoodIn wsX8_of (wsV RX8 97 RX8 yX8_goes wsX8_goes) := goodIn_app (goodIn_of _ (by decide +kernel)) ggX8_of_X8_goes
theorem dX8_of_0 : decode cX8_of 0 = .ok (.aload_n 0, 1) := by decide +kernel
theorem dX8_of_1 : decode cX8_of 1 = .ok (.iload_n 1, 1) := by decide +kernel
theorem dX8_of_2 : decode cX8_of 2 = .ok (.invokevirtual 70, 3) := by decide +kernel
theorem dX8_of_5 : decode cX8_of 5 = .ok (.ifCond .ne 5, 3) := by decide +kernel
theorem dX8_of_8 : decode cX8_of 8 = .ok (.iconst (-1), 1) := by decide +kernel
theorem dX8_of_9 : decode cX8_of 9 = .ok (.ireturn, 1) := by decide +kernel
theorem dX8_of_10 : decode cX8_of 10 = .ok (.iload_n 2, 1) := by decide +kernel
theorem dX8_of_11 : decode cX8_of 11 = .ok (.tableswitch 111 0 7 #[45, 52, 45, 45, 45, 68, 78, 101], 45) := by decide +kernel
theorem dX8_of_56 : decode cX8_of 56 = .ok (.aload_n 0, 1) := by decide +kernel
theorem dX8_of_57 : decode cX8_of 57 = .ok (.iload_n 1, 1) := by decide +kernel
theorem dX8_of_58 : decode cX8_of 58 = .ok (.iload_n 2, 1) := by decide +kernel
theorem dX8_of_59 : decode cX8_of 59 = .ok (.invokevirtual 34, 3) := by decide +kernel
theorem dX8_of_62 : decode cX8_of 62 = .ok (.ireturn, 1) := by decide +kernel
theorem dX8_of_63 : decode cX8_of 63 = .ok (.aload_n 0, 1) := by decide +kernel
theorem dX8_of_64 : decode cX8_of 64 = .ok (.iload_n 1, 1) := by decide +kernel
theorem dX8_of_65 : decode cX8_of 65 = .ok (.aload_n 0, 1) := by decide +kernel
theorem dX8_of_66 : decode cX8_of 66 = .ok (.getfield 7, 3) := by decide +kernel
theorem dX8_of_69 : decode cX8_of 69 = .ok (.iconst 4, 1) := by decide +kernel
theorem dX8_of_70 : decode cX8_of 70 = .ok (.iaload, 1) := by decide +kernel
theorem dX8_of_71 : decode cX8_of 71 = .ok (.invokevirtual 42, 3) := by decide +kernel
theorem dX8_of_74 : decode cX8_of 74 = .ok (.sipush 1000, 3) := by decide +kernel
theorem dX8_of_77 : decode cX8_of 77 = .ok (.iadd, 1) := by decide +kernel
theorem dX8_of_78 : decode cX8_of 78 = .ok (.ireturn, 1) := by decide +kernel
theorem dX8_of_79 : decode cX8_of 79 = .ok (.aload_n 0, 1) := by decide +kernel
theorem dX8_of_80 : decode cX8_of 80 = .ok (.iload_n 1, 1) := by decide +kernel
theorem dX8_of_81 : decode cX8_of 81 = .ok (.iconst 5, 1) := by decide +kernel
theorem dX8_of_82 : decode cX8_of 82 = .ok (.invokevirtual 34, 3) := by decide +kernel
theorem dX8_of_85 : decode cX8_of 85 = .ok (.bipush 100, 2) := by decide +kernel
theorem dX8_of_87 : decode cX8_of 87 = .ok (.iadd, 1) := by decide +kernel
theorem dX8_of_88 : decode cX8_of 88 = .ok (.ireturn, 1) := by decide +kernel
theorem dX8_of_89 : decode cX8_of 89 = .ok (.aload_n 0, 1) := by decide +kernel
theorem dX8_of_90 : decode cX8_of 90 = .ok (.iload_n 1, 1) := by decide +kernel
theorem dX8_of_91 : decode cX8_of 91 = .ok (.bipush 7, 2) := by decide +kernel
theorem dX8_of_93 : decode cX8_of 93 = .ok (.invokevirtual 34, 3) := by decide +kernel
theorem dX8_of_96 : decode cX8_of 96 = .ok (.ifCond .ge 8, 3) := by decide +kernel
theorem dX8_of_99 : decode cX8_of 99 = .ok (.bipush (-6), 2) := by decide +kernel
theorem dX8_of_101 : decode cX8_of 101 = .ok (.goto 10, 3) := by decide +kernel
theorem dX8_of_104 : decode cX8_of 104 = .ok (.aload_n 0, 1) := by decide +kernel
theorem dX8_of_105 : decode cX8_of 105 = .ok (.iload_n 1, 1) := by decide +kernel
theorem dX8_of_106 : decode cX8_of 106 = .ok (.bipush 7, 2) := by decide +kernel
theorem dX8_of_108 : decode cX8_of 108 = .ok (.invokevirtual 34, 3) := by decide +kernel
theorem dX8_of_111 : decode cX8_of 111 = .ok (.ireturn, 1) := by decide +kernel
theorem dX8_of_112 : decode cX8_of 112 = .ok (.aload_n 0, 1) := by decide +kernel
theorem dX8_of_113 : decode cX8_of 113 = .ok (.iload_n 1, 1) := by decide +kernel
theorem dX8_of_114 : decode cX8_of 114 = .ok (.invokevirtual 97, 3) := by decide +kernel
theorem dX8_of_117 : decode cX8_of 117 = .ok (.sipush 1000, 3) := by decide +kernel
theorem dX8_of_120 : decode cX8_of 120 = .ok (.iadd, 1) := by decide +kernel
theorem dX8_of_121 : decode cX8_of 121 = .ok (.ireturn, 1) := by decide +kernel
theorem dX8_of_122 : decode cX8_of 122 = .ok (.bipush (-2), 2) := by decide +kernel
theorem dX8_of_124 : decode cX8_of 124 = .ok (.ireturn, 1) := by decide +kernel
set_option maxRecDepth 20000 in
theorem ggX8_goes_X8_its : GoodIn wsX8_goes wsX8_its := goodIn_r _ [5, 6, 7, 8, 9, 10, 11, 12, 13] (by decide +kernel) (by decide +kernel)
set_option maxRecDepth 20000 in
theorem gX8_goes_X8_its : GoodIn wsX8_goes (wsV RX8 34 RX8 yX8_its wsX8_its) := goodIn_app (goodIn_of _ (by decide +kernel)) ggX8_goes_X8_its
theorem dX8_goes_0 : decode cX8_goes 0 = .ok (.iconst 0, 1) := by decide +kernel
theorem dX8_goes_1 : decode cX8_goes 1 = .ok (.istore_n 2, 1) := by decide +kernel
theorem dX8_goes_2 : decode cX8_goes 2 = .ok (.iload_n 1, 1) := by decide +kernel
theorem dX8_goes_3 : decode cX8_goes 3 = .ok (.istore_n 3, 1) := by decide +kernel
theorem dX8_goes_4 : decode cX8_goes 4 = .ok (.iload_n 3, 1) := by decide +kernel
theorem dX8_goes_5 : decode cX8_goes 5 = .ok (.ifCond .lt 23, 3) := by decide +kernel
theorem dX8_goes_8 : decode cX8_goes 8 = .ok (.iload_n 2, 1) := by decide +kernel
theorem dX8_goes_9 : decode cX8_goes 9 = .ok (.aload_n 0, 1) := by decide +kernel
theorem dX8_goes_10 : decode cX8_goes 10 = .ok (.iload_n 3, 1) := by decide +kernel
theorem dX8_goes_11 : decode cX8_goes 11 = .ok (.iconst 5, 1) := by decide +kernel
theorem dX8_goes_12 : decode cX8_goes 12 = .ok (.invokevirtual 34, 3) := by decide +kernel
theorem dX8_goes_15 : decode cX8_goes 15 = .ok (.iadd, 1) := by decide +kernel
theorem dX8_goes_16 : decode cX8_goes 16 = .ok (.istore_n 2, 1) := by decide +kernel
theorem dX8_goes_17 : decode cX8_goes 17 = .ok (.aload_n 0, 1) := by decide +kernel
theorem dX8_goes_18 : decode cX8_goes 18 = .ok (.iload_n 3, 1) := by decide +kernel
theorem dX8_goes_19 : decode cX8_goes 19 = .ok (.bipush 7, 2) := by decide +kernel
theorem dX8_goes_21 : decode cX8_goes 21 = .ok (.invokevirtual 34, 3) := by decide +kernel
theorem dX8_goes_24 : decode cX8_goes 24 = .ok (.istore_n 3, 1) := by decide +kernel
theorem dX8_goes_25 : decode cX8_goes 25 = .ok (.goto (-21), 3) := by decide +kernel
theorem dX8_goes_28 : decode cX8_goes 28 = .ok (.iload_n 2, 1) := by decide +kernel
theorem dX8_goes_29 : decode cX8_goes 29 = .ok (.ireturn, 1) := by decide +kernel
set_option maxRecDepth 20000 in
theorem ggX8_isPixel_X8_in : GoodIn wsX8_isPixel wsX8_in := goodIn_r _ [4] (by decide +kernel) (by decide +kernel)
set_option maxRecDepth 20000 in
theorem gX8_isPixel_X8_in : GoodIn wsX8_isPixel (va_wsS RX8 30 yX8_in wsX8_in) := goodIn_app (goodIn_of _ (by decide +kernel)) ggX8_isPixel_X8_in
theorem dX8_isPixel_0 : decode cX8_isPixel 0 = .ok (.iload_n 0, 1) := by decide +kernel
theorem dX8_isPixel_1 : decode cX8_isPixel 1 = .ok (.iconst 0, 1) := by decide +kernel
theorem dX8_isPixel_2 : decode cX8_isPixel 2 = .ok (.bipush 15, 2) := by decide +kernel
theorem dX8_isPixel_4 : decode cX8_isPixel 4 = .ok (.invokestatic 30, 3) := by decide +kernel
theorem dX8_isPixel_7 : decode cX8_isPixel 7 = .ok (.ifCond .eq 17, 3) := by decide +kernel
theorem dX8_isPixel_10 : decode cX8_isPixel 10 = .ok (.iload_n 1, 1) := by decide +kernel
theorem dX8_isPixel_11 : decode cX8_isPixel 11 = .ok (.iconst 0, 1) := by decide +kernel
theorem dX8_isPixel_12 : decode cX8_isPixel 12 = .ok (.bipush 23, 2) := by decide +kernel
theorem dX8_isPixel_14 : decode cX8_isPixel 14 = .ok (.invokestatic 30, 3) := by decide +kernel
theorem dX8_isPixel_17 : decode cX8_isPixel 17 = .ok (.ifCond .eq 7, 3) := by decide +kernel
theorem dX8_isPixel_20 : decode cX8_isPixel 20 = .ok (.iconst 1, 1) := by decide +kernel
theorem dX8_isPixel_21 : decode cX8_isPixel 21 = .ok (.goto 4, 3) := by decide +kernel
theorem dX8_isPixel_24 : decode cX8_isPixel 24 = .ok (.iconst 0, 1) := by decide +kernel
theorem dX8_isPixel_25 : decode cX8_isPixel 25 = .ok (.ireturn, 1) := by decide +kernel
set_option maxRecDepth 20000 in
theorem ggX8_pixel_X8_isPixel : GoodIn wsX8_pixel wsX8_isPixel := goodIn_r _ [5, 6, 7, 4, 8] (by decide +kernel) (by decide +kernel)
set_option maxRecDepth 20000 in
theorem gX8_pixel_X8_isPixel : GoodIn wsX8_pixel (va_wsS RX8 100 yX8_isPixel wsX8_isPixel) := goodIn_app (goodIn_of _ (by decide +kernel)) ggX8_pixel_X8_isPixel
theorem dX8_pixel_0 : decode cX8_pixel 0 = .ok (.iload_n 1, 1) := by decide +kernel
theorem dX8_pixel_1 : decode cX8_pixel 1 = .ok (.iload_n 2, 1) := by decide +kernel
theorem dX8_pixel_2 : decode cX8_pixel 2 = .ok (.invokestatic 100, 3) := by decide +kernel
theorem dX8_pixel_5 : decode cX8_pixel 5 = .ok (.ifCond .eq 20, 3) := by decide +kernel
theorem dX8_pixel_8 : decode cX8_pixel 8 = .ok (.aload_n 0, 1) := by decide +kernel
theorem dX8_pixel_9 : decode cX8_pixel 9 = .ok (.getfield 7, 3) := by decide +kernel
theorem dX8_pixel_12 : decode cX8_pixel 12 = .ok (.bipush 81, 2) := by decide +kernel
theorem dX8_pixel_14 : decode cX8_pixel 14 = .ok (.bipush 24, 2) := by decide +kernel
theorem dX8_pixel_16 : decode cX8_pixel 16 = .ok (.iload_n 1, 1) := by decide +kernel
theorem dX8_pixel_17 : decode cX8_pixel 17 = .ok (.imul, 1) := by decide +kernel
theorem dX8_pixel_18 : decode cX8_pixel 18 = .ok (.iadd, 1) := by decide +kernel
theorem dX8_pixel_19 : decode cX8_pixel 19 = .ok (.iload_n 2, 1) := by decide +kernel
theorem dX8_pixel_20 : decode cX8_pixel 20 = .ok (.iadd, 1) := by decide +kernel
theorem dX8_pixel_21 : decode cX8_pixel 21 = .ok (.iaload, 1) := by decide +kernel
theorem dX8_pixel_22 : decode cX8_pixel 22 = .ok (.goto 4, 3) := by decide +kernel
theorem dX8_pixel_25 : decode cX8_pixel 25 = .ok (.iconst (-1), 1) := by decide +kernel
theorem dX8_pixel_26 : decode cX8_pixel 26 = .ok (.ireturn, 1) := by decide +kernel
set_option maxRecDepth 20000 in
theorem ggX8_joined_X8_isPixel : GoodIn wsX8_joined wsX8_isPixel := goodIn_r _ [5, 6, 7, 4, 8] (by decide +kernel) (by decide +kernel)
set_option maxRecDepth 20000 in
theorem gX8_joined_X8_isPixel : GoodIn wsX8_joined (va_wsS RX8 100 yX8_isPixel wsX8_isPixel) := goodIn_app (goodIn_of _ (by decide +kernel)) ggX8_joined_X8_isPixel
theorem dX8_joined_0 : decode cX8_joined 0 = .ok (.iload_n 1, 1) := by decide +kernel
theorem dX8_joined_1 : decode cX8_joined 1 = .ok (.iload_n 2, 1) := by decide +kernel
theorem dX8_joined_2 : decode cX8_joined 2 = .ok (.invokestatic 100, 3) := by decide +kernel
theorem dX8_joined_5 : decode cX8_joined 5 = .ok (.ifCond .eq 16, 3) := by decide +kernel
theorem dX8_joined_8 : decode cX8_joined 8 = .ok (.iload_n 1, 1) := by decide +kernel
theorem dX8_joined_9 : decode cX8_joined 9 = .ok (.aload_n 0, 1) := by decide +kernel
theorem dX8_joined_10 : decode cX8_joined 10 = .ok (.getfield 7, 3) := by decide +kernel
theorem dX8_joined_13 : decode cX8_joined 13 = .ok (.iconst 3, 1) := by decide +kernel
theorem dX8_joined_14 : decode cX8_joined 14 = .ok (.iaload, 1) := by decide +kernel
theorem dX8_joined_15 : decode cX8_joined 15 = .ok (.imul, 1) := by decide +kernel
theorem dX8_joined_16 : decode cX8_joined 16 = .ok (.bipush 16, 2) := by decide +kernel
theorem dX8_joined_18 : decode cX8_joined 18 = .ok (.if_icmp .lt 5, 3) := by decide +kernel
theorem dX8_joined_21 : decode cX8_joined 21 = .ok (.iconst (-1), 1) := by decide +kernel
theorem dX8_joined_22 : decode cX8_joined 22 = .ok (.ireturn, 1) := by decide +kernel
theorem dX8_joined_23 : decode cX8_joined 23 = .ok (.iconst 0, 1) := by decide +kernel
theorem dX8_joined_24 : decode cX8_joined 24 = .ok (.istore_n 3, 1) := by decide +kernel
theorem dX8_joined_25 : decode cX8_joined 25 = .ok (.iload_n 1, 1) := by decide +kernel
theorem dX8_joined_26 : decode cX8_joined 26 = .ok (.aload_n 0, 1) := by decide +kernel
theorem dX8_joined_27 : decode cX8_joined 27 = .ok (.getfield 7, 3) := by decide +kernel
theorem dX8_joined_30 : decode cX8_joined 30 = .ok (.iconst 3, 1) := by decide +kernel
theorem dX8_joined_31 : decode cX8_joined 31 = .ok (.iaload, 1) := by decide +kernel
theorem dX8_joined_32 : decode cX8_joined 32 = .ok (.imul, 1) := by decide +kernel
theorem dX8_joined_33 : decode cX8_joined 33 = .ok (.istore 4, 2) := by decide +kernel
theorem dX8_joined_35 : decode cX8_joined 35 = .ok (.iload 4, 2) := by decide +kernel
theorem dX8_joined_37 : decode cX8_joined 37 = .ok (.iload_n 1, 1) := by decide +kernel
theorem dX8_joined_38 : decode cX8_joined 38 = .ok (.aload_n 0, 1) := by decide +kernel
theorem dX8_joined_39 : decode cX8_joined 39 = .ok (.getfield 7, 3) := by decide +kernel
theorem dX8_joined_42 : decode cX8_joined 42 = .ok (.iconst 3, 1) := by decide +kernel
theorem dX8_joined_43 : decode cX8_joined 43 = .ok (.iaload, 1) := by decide +kernel
theorem dX8_joined_44 : decode cX8_joined 44 = .ok (.imul, 1) := by decide +kernel
theorem dX8_joined_45 : decode cX8_joined 45 = .ok (.aload_n 0, 1) := by decide +kernel
theorem dX8_joined_46 : decode cX8_joined 46 = .ok (.getfield 7, 3) := by decide +kernel
theorem dX8_joined_49 : decode cX8_joined 49 = .ok (.iconst 3, 1) := by decide +kernel
theorem dX8_joined_50 : decode cX8_joined 50 = .ok (.iaload, 1) := by decide +kernel
theorem dX8_joined_51 : decode cX8_joined 51 = .ok (.iadd, 1) := by decide +kernel
theorem dX8_joined_52 : decode cX8_joined 52 = .ok (.if_icmp .ge 34, 3) := by decide +kernel
theorem dX8_joined_55 : decode cX8_joined 55 = .ok (.iload 4, 2) := by decide +kernel
theorem dX8_joined_57 : decode cX8_joined 57 = .ok (.bipush 16, 2) := by decide +kernel
theorem dX8_joined_59 : decode cX8_joined 59 = .ok (.if_icmp .ge 27, 3) := by decide +kernel
theorem dX8_joined_62 : decode cX8_joined 62 = .ok (.iload_n 3, 1) := by decide +kernel
theorem dX8_joined_63 : decode cX8_joined 63 = .ok (.aload_n 0, 1) := by decide +kernel
theorem dX8_joined_64 : decode cX8_joined 64 = .ok (.getfield 7, 3) := by decide +kernel
theorem dX8_joined_67 : decode cX8_joined 67 = .ok (.bipush 81, 2) := by decide +kernel
theorem dX8_joined_69 : decode cX8_joined 69 = .ok (.bipush 24, 2) := by decide +kernel
theorem dX8_joined_71 : decode cX8_joined 71 = .ok (.iload 4, 2) := by decide +kernel
theorem dX8_joined_73 : decode cX8_joined 73 = .ok (.imul, 1) := by decide +kernel
theorem dX8_joined_74 : decode cX8_joined 74 = .ok (.iadd, 1) := by decide +kernel
theorem dX8_joined_75 : decode cX8_joined 75 = .ok (.iload_n 2, 1) := by decide +kernel
theorem dX8_joined_76 : decode cX8_joined 76 = .ok (.iadd, 1) := by decide +kernel
theorem dX8_joined_77 : decode cX8_joined 77 = .ok (.iaload, 1) := by decide +kernel
theorem dX8_joined_78 : decode cX8_joined 78 = .ok (.iadd, 1) := by decide +kernel
theorem dX8_joined_79 : decode cX8_joined 79 = .ok (.istore_n 3, 1) := by decide +kernel
theorem dX8_joined_80 : decode cX8_joined 80 = .ok (.iinc 4 1, 3) := by decide +kernel
theorem dX8_joined_83 : decode cX8_joined 83 = .ok (.goto (-48), 3) := by decide +kernel
theorem dX8_joined_86 : decode cX8_joined 86 = .ok (.iload_n 3, 1) := by decide +kernel
theorem dX8_joined_87 : decode cX8_joined 87 = .ok (.ireturn, 1) := by decide +kernel
theorem dX8_lit_0 : decode cX8_lit 0 = .ok (.iconst 0, 1) := by decide +kernel
theorem dX8_lit_1 : decode cX8_lit 1 = .ok (.istore_n 2, 1) := by decide +kernel
theorem dX8_lit_2 : decode cX8_lit 2 = .ok (.iconst 0, 1) := by decide +kernel
theorem dX8_lit_3 : decode cX8_lit 3 = .ok (.istore_n 3, 1) := by decide +kernel
theorem dX8_lit_4 : decode cX8_lit 4 = .ok (.iload_n 3, 1) := by decide +kernel
theorem dX8_lit_5 : decode cX8_lit 5 = .ok (.bipush 24, 2) := by decide +kernel
theorem dX8_lit_7 : decode cX8_lit 7 = .ok (.if_icmp .ge 36, 3) := by decide +kernel
theorem dX8_lit_10 : decode cX8_lit 10 = .ok (.iload_n 2, 1) := by decide +kernel
theorem dX8_lit_11 : decode cX8_lit 11 = .ok (.aload_n 0, 1) := by decide +kernel
theorem dX8_lit_12 : decode cX8_lit 12 = .ok (.getfield 7, 3) := by decide +kernel
theorem dX8_lit_15 : decode cX8_lit 15 = .ok (.bipush 81, 2) := by decide +kernel
theorem dX8_lit_17 : decode cX8_lit 17 = .ok (.bipush 24, 2) := by decide +kernel
theorem dX8_lit_19 : decode cX8_lit 19 = .ok (.iload_n 1, 1) := by decide +kernel
theorem dX8_lit_20 : decode cX8_lit 20 = .ok (.imul, 1) := by decide +kernel
theorem dX8_lit_21 : decode cX8_lit 21 = .ok (.iadd, 1) := by decide +kernel
theorem dX8_lit_22 : decode cX8_lit 22 = .ok (.iload_n 3, 1) := by decide +kernel
theorem dX8_lit_23 : decode cX8_lit 23 = .ok (.iadd, 1) := by decide +kernel
theorem dX8_lit_24 : decode cX8_lit 24 = .ok (.iaload, 1) := by decide +kernel
theorem dX8_lit_25 : decode cX8_lit 25 = .ok (.ifCond .le 9, 3) := by decide +kernel
theorem dX8_lit_28 : decode cX8_lit 28 = .ok (.iconst 1, 1) := by decide +kernel
theorem dX8_lit_29 : decode cX8_lit 29 = .ok (.iload_n 3, 1) := by decide +kernel
theorem dX8_lit_30 : decode cX8_lit 30 = .ok (.ishl, 1) := by decide +kernel
theorem dX8_lit_31 : decode cX8_lit 31 = .ok (.goto 4, 3) := by decide +kernel
theorem dX8_lit_34 : decode cX8_lit 34 = .ok (.iconst 0, 1) := by decide +kernel
theorem dX8_lit_35 : decode cX8_lit 35 = .ok (.ior, 1) := by decide +kernel
