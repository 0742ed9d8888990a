theorem dX9_ways_0 : decode cX9_ways 0 = .ok (.aload_n 0, 1) := by decide +kernel
theorem dX9_ways_1 : decode cX9_ways 1 = .ok (.iload_n 1, 1) := by decide +kernel
theorem dX9_ways_2 : decode cX9_ways 2 = .ok (.invokevirtual 97, 3) := by decide +kernel
theorem dX9_ways_5 : decode cX9_ways 5 = .ok (.ifCond .eq 20, 3) := by decide +kernel
theorem dX9_ways_8 : decode cX9_ways 8 = .ok (.iload_n 2, 1) := by decide +kernel
theorem dX9_ways_9 : decode cX9_ways 9 = .ok (.invokestatic 155, 3) := by decide +kernel
theorem dX9_ways_12 : decode cX9_ways 12 = .ok (.ifCond .eq 13, 3) := by decide +kernel
theorem dX9_ways_15 : decode cX9_ways 15 = .ok (.iload_n 3, 1) := by decide +kernel
theorem dX9_ways_16 : decode cX9_ways 16 = .ok (.iconst 0, 1) := by decide +kernel
theorem dX9_ways_17 : decode cX9_ways 17 = .ok (.bipush 6, 2) := by decide +kernel
theorem dX9_ways_19 : decode cX9_ways 19 = .ok (.invokestatic 49, 3) := by decide +kernel
theorem dX9_ways_22 : decode cX9_ways 22 = .ok (.ifCond .ne 10, 3) := by decide +kernel
theorem dX9_ways_25 : decode cX9_ways 25 = .ok (.aload_n 0, 1) := by decide +kernel
theorem dX9_ways_26 : decode cX9_ways 26 = .ok (.ldc 48, 2) := by decide +kernel
theorem dX9_ways_28 : decode cX9_ways 28 = .ok (.invokevirtual 64, 3) := by decide +kernel
theorem dX9_ways_31 : decode cX9_ways 31 = .ok (.ireturn, 1) := by decide +kernel
theorem dX9_ways_32 : decode cX9_ways 32 = .ok (.aload_n 0, 1) := by decide +kernel
theorem dX9_ways_33 : decode cX9_ways 33 = .ok (.iload_n 1, 1) := by decide +kernel
theorem dX9_ways_34 : decode cX9_ways 34 = .ok (.invokevirtual 135, 3) := by decide +kernel
theorem dX9_ways_37 : decode cX9_ways 37 = .ok (.iconst 0, 1) := by decide +kernel
theorem dX9_ways_38 : decode cX9_ways 38 = .ok (.istore 4, 2) := by decide +kernel
theorem dX9_ways_40 : decode cX9_ways 40 = .ok (.iconst 0, 1) := by decide +kernel
theorem dX9_ways_41 : decode cX9_ways 41 = .ok (.istore 5, 2) := by decide +kernel
theorem dX9_ways_43 : decode cX9_ways 43 = .ok (.iload 5, 2) := by decide +kernel
theorem dX9_ways_45 : decode cX9_ways 45 = .ok (.iconst 1, 1) := by decide +kernel
theorem dX9_ways_46 : decode cX9_ways 46 = .ok (.iconst 2, 1) := by decide +kernel
theorem dX9_ways_47 : decode cX9_ways 47 = .ok (.iload_n 3, 1) := by decide +kernel
theorem dX9_ways_48 : decode cX9_ways 48 = .ok (.imul, 1) := by decide +kernel
theorem dX9_ways_49 : decode cX9_ways 49 = .ok (.ishl, 1) := by decide +kernel
theorem dX9_ways_50 : decode cX9_ways 50 = .ok (.if_icmp .ge 41, 3) := by decide +kernel
theorem dX9_ways_53 : decode cX9_ways 53 = .ok (.aload_n 0, 1) := by decide +kernel
theorem dX9_ways_54 : decode cX9_ways 54 = .ok (.iload_n 1, 1) := by decide +kernel
theorem dX9_ways_55 : decode cX9_ways 55 = .ok (.iload 5, 2) := by decide +kernel
theorem dX9_ways_57 : decode cX9_ways 57 = .ok (.iload_n 3, 1) := by decide +kernel
theorem dX9_ways_58 : decode cX9_ways 58 = .ok (.invokevirtual 145, 3) := by decide +kernel
theorem dX9_ways_61 : decode cX9_ways 61 = .ok (.iload 4, 2) := by decide +kernel
theorem dX9_ways_63 : decode cX9_ways 63 = .ok (.aload_n 0, 1) := by decide +kernel
theorem dX9_ways_64 : decode cX9_ways 64 = .ok (.iload_n 1, 1) := by decide +kernel
theorem dX9_ways_65 : decode cX9_ways 65 = .ok (.invokevirtual 100, 3) := by decide +kernel
theorem dX9_ways_68 : decode cX9_ways 68 = .ok (.iload_n 2, 1) := by decide +kernel
theorem dX9_ways_69 : decode cX9_ways 69 = .ok (.if_icmp .ne 7, 3) := by decide +kernel
theorem dX9_ways_72 : decode cX9_ways 72 = .ok (.iconst 1, 1) := by decide +kernel
theorem dX9_ways_73 : decode cX9_ways 73 = .ok (.goto 4, 3) := by decide +kernel
theorem dX9_ways_76 : decode cX9_ways 76 = .ok (.iconst 0, 1) := by decide +kernel
theorem dX9_ways_77 : decode cX9_ways 77 = .ok (.iadd, 1) := by decide +kernel
theorem dX9_ways_78 : decode cX9_ways 78 = .ok (.istore 4, 2) := by decide +kernel
theorem dX9_ways_80 : decode cX9_ways 80 = .ok (.aload_n 0, 1) := by decide +kernel
theorem dX9_ways_81 : decode cX9_ways 81 = .ok (.iload_n 1, 1) := by decide +kernel
theorem dX9_ways_82 : decode cX9_ways 82 = .ok (.invokevirtual 142, 3) := by decide +kernel
theorem dX9_ways_85 : decode cX9_ways 85 = .ok (.iinc 5 1, 3) := by decide +kernel
theorem dX9_ways_88 : decode cX9_ways 88 = .ok (.goto (-45), 3) := by decide +kernel
theorem dX9_ways_91 : decode cX9_ways 91 = .ok (.iload 4, 2) := by decide +kernel
theorem dX9_ways_93 : decode cX9_ways 93 = .ok (.ireturn, 1) := by decide +kernel
set_option maxRecDepth 20000 in
theorem ggX9_most_X9_isCandle : GoodIn wsX9_most wsX9_isCandle := goodIn_r _ [6, 7, 8, 9, 5, 10, 83, 84, 85, 86, 87, 88, 89, 90, 91, 92, 93, 94, 95, 96, 97, 98, 99, 100, 101, 102] (by decide +kernel) (by decide +kernel)
set_option maxRecDepth 20000 in
theorem gX9_most_X9_isCandle : GoodIn wsX9_most (wsV RX9 97 RX9 yX9_isCandle wsX9_isCandle) := goodIn_app (goodIn_of _ (by decide +kernel)) ggX9_most_X9_isCandle
set_option maxRecDepth 20000 in
theorem ggX9_most_X9_in : GoodIn wsX9_most wsX9_in := goodIn_r _ [10] (by decide +kernel) (by decide +kernel)
set_option maxRecDepth 20000 in
theorem gX9_most_X9_in : GoodIn wsX9_most (va_wsS RX9 49 yX9_in wsX9_in) := goodIn_app (goodIn_of _ (by decide +kernel)) ggX9_most_X9_in
set_option maxRecDepth 20000 in
theorem ggX9_most_X9_finds : GoodIn wsX9_most wsX9_finds := goodIn_r _ [14, 15, 1, 83, 84, 85, 86, 87, 88, 89, 90, 91, 92, 93, 94, 95, 96, 97, 98, 99, 100, 101, 102] (by decide +kernel) (by decide +kernel)
set_option maxRecDepth 20000 in
theorem gX9_most_X9_finds : GoodIn wsX9_most (wsV RX9 64 RX9 yX9_finds wsX9_finds) := goodIn_app (goodIn_of _ (by decide +kernel)) ggX9_most_X9_finds
set_option maxRecDepth 20000 in
theorem ggX9_most_X9_keeps : GoodIn wsX9_most wsX9_keeps := goodIn_r _ [19, 20, 7, 21, 22, 5, 23, 83, 84, 85, 86, 87, 88, 89, 90, 91, 92, 93, 94, 95, 96, 97, 98, 99, 100, 101, 102] (by decide +kernel) (by decide +kernel)
set_option maxRecDepth 20000 in
theorem gX9_most_X9_keeps : GoodIn wsX9_most (wsV RX9 135 RX9 yX9_keeps wsX9_keeps) := goodIn_app (goodIn_of _ (by decide +kernel)) ggX9_most_X9_keeps
set_option maxRecDepth 20000 in
theorem ggX9_most_X9_dipRow : GoodIn wsX9_most wsX9_dipRow := goodIn_r _ [27, 28, 29, 30, 5, 31, 7, 32, 33, 34, 35, 21, 22, 23, 36, 37, 38, 39, 40, 41, 42, 43, 44, 45, 46, 47, 48, 49, 50, 51, 52, 53, 54, 55, 56, 57, 58, 59, 60, 61, 62, 63, 64, 65, 66, 67, 83, 84, 85, 86, 87, 88, 89, 90, 91, 92, 93, 94, 95, 96, 97, 98, 99, 100, 101, 102] (by decide +kernel) (by decide +kernel)
set_option maxRecDepth 20000 in
theorem gX9_most_X9_dipRow : GoodIn wsX9_most (wsV RX9 145 RX9 yX9_dipRow wsX9_dipRow) := goodIn_app (goodIn_of _ (by decide +kernel)) ggX9_most_X9_dipRow
set_option maxRecDepth 20000 in
theorem ggX9_most_X9_burnsOf : GoodIn wsX9_most wsX9_burnsOf := goodIn_r _ [71, 72, 73, 74, 5, 75, 32, 33, 34, 35, 7, 21, 22, 23, 59, 60, 61, 62, 47, 48, 49, 50, 76, 77, 78, 83, 84, 85, 86, 87, 88, 89, 90, 91, 92, 93, 94, 95, 96, 97, 98, 99, 100, 101, 102] (by decide +kernel) (by decide +kernel)
set_option maxRecDepth 20000 in
theorem gX9_most_X9_burnsOf : GoodIn wsX9_most (wsV RX9 100 RX9 yX9_burnsOf wsX9_burnsOf) := goodIn_app (goodIn_of _ (by decide +kernel)) ggX9_most_X9_burnsOf
set_option maxRecDepth 20000 in
theorem ggX9_most_X9_putsBack : GoodIn wsX9_most wsX9_putsBack := goodIn_r _ [82, 7, 20, 21, 22, 5, 23, 83, 84, 85, 86, 87, 88, 89, 90, 91, 92, 93, 94, 95, 96, 97, 98, 99, 100, 101, 102] (by decide +kernel) (by decide +kernel)
set_option maxRecDepth 20000 in
theorem gX9_most_X9_putsBack : GoodIn wsX9_most (wsV RX9 142 RX9 yX9_putsBack wsX9_putsBack) := goodIn_app (goodIn_of _ (by decide +kernel)) ggX9_most_X9_putsBack
theorem dX9_most_0 : decode cX9_most 0 = .ok (.aload_n 0, 1) := by decide +kernel
theorem dX9_most_1 : decode cX9_most 1 = .ok (.iload_n 1, 1) := by decide +kernel
theorem dX9_most_2 : decode cX9_most 2 = .ok (.invokevirtual 97, 3) := by decide +kernel
theorem dX9_most_5 : decode cX9_most 5 = .ok (.ifCond .eq 13, 3) := by decide +kernel
theorem dX9_most_8 : decode cX9_most 8 = .ok (.iload_n 2, 1) := by decide +kernel
theorem dX9_most_9 : decode cX9_most 9 = .ok (.iconst 0, 1) := by decide +kernel
theorem dX9_most_10 : decode cX9_most 10 = .ok (.bipush 6, 2) := by decide +kernel
theorem dX9_most_12 : decode cX9_most 12 = .ok (.invokestatic 49, 3) := by decide +kernel
theorem dX9_most_15 : decode cX9_most 15 = .ok (.ifCond .ne 10, 3) := by decide +kernel
theorem dX9_most_18 : decode cX9_most 18 = .ok (.aload_n 0, 1) := by decide +kernel
theorem dX9_most_19 : decode cX9_most 19 = .ok (.ldc 48, 2) := by decide +kernel
theorem dX9_most_21 : decode cX9_most 21 = .ok (.invokevirtual 64, 3) := by decide +kernel
theorem dX9_most_24 : decode cX9_most 24 = .ok (.ireturn, 1) := by decide +kernel
theorem dX9_most_25 : decode cX9_most 25 = .ok (.aload_n 0, 1) := by decide +kernel
theorem dX9_most_26 : decode cX9_most 26 = .ok (.iload_n 1, 1) := by decide +kernel
theorem dX9_most_27 : decode cX9_most 27 = .ok (.invokevirtual 135, 3) := by decide +kernel
theorem dX9_most_30 : decode cX9_most 30 = .ok (.iconst 0, 1) := by decide +kernel
theorem dX9_most_31 : decode cX9_most 31 = .ok (.istore_n 3, 1) := by decide +kernel
theorem dX9_most_32 : decode cX9_most 32 = .ok (.iconst 0, 1) := by decide +kernel
theorem dX9_most_33 : decode cX9_most 33 = .ok (.istore 4, 2) := by decide +kernel
theorem dX9_most_35 : decode cX9_most 35 = .ok (.iload 4, 2) := by decide +kernel
theorem dX9_most_37 : decode cX9_most 37 = .ok (.iconst 1, 1) := by decide +kernel
theorem dX9_most_38 : decode cX9_most 38 = .ok (.iconst 2, 1) := by decide +kernel
theorem dX9_most_39 : decode cX9_most 39 = .ok (.iload_n 2, 1) := by decide +kernel
theorem dX9_most_40 : decode cX9_most 40 = .ok (.imul, 1) := by decide +kernel
theorem dX9_most_41 : decode cX9_most 41 = .ok (.ishl, 1) := by decide +kernel
theorem dX9_most_42 : decode cX9_most 42 = .ok (.if_icmp .ge 42, 3) := by decide +kernel
theorem dX9_most_45 : decode cX9_most 45 = .ok (.aload_n 0, 1) := by decide +kernel
theorem dX9_most_46 : decode cX9_most 46 = .ok (.iload_n 1, 1) := by decide +kernel
theorem dX9_most_47 : decode cX9_most 47 = .ok (.iload 4, 2) := by decide +kernel
theorem dX9_most_49 : decode cX9_most 49 = .ok (.iload_n 2, 1) := by decide +kernel
theorem dX9_most_50 : decode cX9_most 50 = .ok (.invokevirtual 145, 3) := by decide +kernel
theorem dX9_most_53 : decode cX9_most 53 = .ok (.aload_n 0, 1) := by decide +kernel
theorem dX9_most_54 : decode cX9_most 54 = .ok (.iload_n 1, 1) := by decide +kernel
theorem dX9_most_55 : decode cX9_most 55 = .ok (.invokevirtual 100, 3) := by decide +kernel
theorem dX9_most_58 : decode cX9_most 58 = .ok (.istore 5, 2) := by decide +kernel
theorem dX9_most_60 : decode cX9_most 60 = .ok (.iload 5, 2) := by decide +kernel
theorem dX9_most_62 : decode cX9_most 62 = .ok (.iload_n 3, 1) := by decide +kernel
theorem dX9_most_63 : decode cX9_most 63 = .ok (.if_icmp .le 8, 3) := by decide +kernel
theorem dX9_most_66 : decode cX9_most 66 = .ok (.iload 5, 2) := by decide +kernel
theorem dX9_most_68 : decode cX9_most 68 = .ok (.goto 4, 3) := by decide +kernel
theorem dX9_most_71 : decode cX9_most 71 = .ok (.iload_n 3, 1) := by decide +kernel
theorem dX9_most_72 : decode cX9_most 72 = .ok (.istore_n 3, 1) := by decide +kernel
theorem dX9_most_73 : decode cX9_most 73 = .ok (.aload_n 0, 1) := by decide +kernel
theorem dX9_most_74 : decode cX9_most 74 = .ok (.iload_n 1, 1) := by decide +kernel
theorem dX9_most_75 : decode cX9_most 75 = .ok (.invokevirtual 142, 3) := by decide +kernel
theorem dX9_most_78 : decode cX9_most 78 = .ok (.iinc 4 1, 3) := by decide +kernel
theorem dX9_most_81 : decode cX9_most 81 = .ok (.goto (-46), 3) := by decide +kernel
theorem dX9_most_84 : decode cX9_most 84 = .ok (.iload_n 3, 1) := by decide +kernel
theorem dX9_most_85 : decode cX9_most 85 = .ok (.ireturn, 1) := by decide +kernel
set_option maxRecDepth 20000 in
theorem ggX9_best_X9_isCandle : GoodIn wsX9_best wsX9_isCandle := goodIn_r _ [7, 8, 9, 10, 6, 11, 84, 85, 86, 87, 88, 89, 90, 91, 92, 93, 94, 95, 96, 97, 98, 99, 100, 101, 102, 103] (by decide +kernel) (by decide +kernel)
set_option maxRecDepth 20000 in
theorem gX9_best_X9_isCandle : GoodIn wsX9_best (wsV RX9 97 RX9 yX9_isCandle wsX9_isCandle) := goodIn_app (goodIn_of _ (by decide +kernel)) ggX9_best_X9_isCandle
set_option maxRecDepth 20000 in
theorem ggX9_best_X9_finds : GoodIn wsX9_best wsX9_finds := goodIn_r _ [15, 16, 1, 84, 85, 86, 87, 88, 89, 90, 91, 92, 93, 94, 95, 96, 97, 98, 99, 100, 101, 102, 103] (by decide +kernel) (by decide +kernel)
set_option maxRecDepth 20000 in
theorem gX9_best_X9_finds : GoodIn wsX9_best (wsV RX9 64 RX9 yX9_finds wsX9_finds) := goodIn_app (goodIn_of _ (by decide +kernel)) ggX9_best_X9_finds
set_option maxRecDepth 20000 in
theorem ggX9_best_X9_many : GoodIn wsX9_best wsX9_many := goodIn_r _ [20, 8, 21, 22, 6, 23, 84, 85, 86, 87, 88, 89, 90, 91, 92, 93, 94, 95, 96, 97, 98, 99, 100, 101, 102, 103] (by decide +kernel) (by decide +kernel)
set_option maxRecDepth 20000 in
theorem gX9_best_X9_many : GoodIn wsX9_best (wsV RX9 81 RX9 yX9_many wsX9_many) := goodIn_app (goodIn_of _ (by decide +kernel)) ggX9_best_X9_many
set_option maxRecDepth 20000 in
theorem ggX9_best_X9_keeps : GoodIn wsX9_best wsX9_keeps := goodIn_r _ [27, 28, 8, 21, 22, 6, 23, 84, 85, 86, 87, 88, 89, 90, 91, 92, 93, 94, 95, 96, 97, 98, 99, 100, 101, 102, 103] (by decide +kernel) (by decide +kernel)
set_option maxRecDepth 20000 in
theorem gX9_best_X9_keeps : GoodIn wsX9_best (wsV RX9 135 RX9 yX9_keeps wsX9_keeps) := goodIn_app (goodIn_of _ (by decide +kernel)) ggX9_best_X9_keeps
set_option maxRecDepth 20000 in
theorem ggX9_best_X9_burnsBehind : GoodIn wsX9_best wsX9_burnsBehind := goodIn_r _ [32, 33, 34, 35, 6, 36, 8, 17, 18, 19, 20, 21, 22, 23, 37, 38, 39, 40, 41, 42, 43, 44, 45, 46, 47, 48, 49, 50, 51, 52, 53, 54, 55, 56, 57, 58, 59, 60, 61, 62, 63, 64, 65, 66, 67, 68, 69, 70, 71, 72, 73, 74, 75, 76, 77, 78, 79, 84, 85, 86, 87, 88, 89, 90, 91, 92, 93, 94, 95, 96, 97, 98, 99, 100, 101, 102, 103] (by decide +kernel) (by decide +kernel)
set_option maxRecDepth 20000 in
theorem gX9_best_X9_burnsBehind : GoodIn wsX9_best (wsV RX9 138 RX9 yX9_burnsBehind wsX9_burnsBehind) := goodIn_app (goodIn_of _ (by decide +kernel)) ggX9_best_X9_burnsBehind
set_option maxRecDepth 20000 in
theorem ggX9_best_X9_putsBack : GoodIn wsX9_best wsX9_putsBack := goodIn_r _ [83, 8, 28, 21, 22, 6, 23, 84, 85, 86, 87, 88, 89, 90, 91, 92, 93, 94, 95, 96, 97, 98, 99, 100, 101, 102, 103] (by decide +kernel) (by decide +kernel)
set_option maxRecDepth 20000 in
theorem gX9_best_X9_putsBack : GoodIn wsX9_best (wsV RX9 142 RX9 yX9_putsBack wsX9_putsBack) := goodIn_app (goodIn_of _ (by decide +kernel)) ggX9_best_X9_putsBack
theorem dX9_best_0 : decode cX9_best 0 = .ok (.aload_n 0, 1) := by decide +kernel
theorem dX9_best_1 : decode cX9_best 1 = .ok (.iload_n 1, 1) := by decide +kernel
theorem dX9_best_2 : decode cX9_best 2 = .ok (.invokevirtual 97, 3) := by decide +kernel
theorem dX9_best_5 : decode cX9_best 5 = .ok (.ifCond .ne 10, 3) := by decide +kernel
theorem dX9_best_8 : decode cX9_best 8 = .ok (.aload_n 0, 1) := by decide +kernel
theorem dX9_best_9 : decode cX9_best 9 = .ok (.ldc 48, 2) := by decide +kernel
theorem dX9_best_11 : decode cX9_best 11 = .ok (.invokevirtual 64, 3) := by decide +kernel
theorem dX9_best_14 : decode cX9_best 14 = .ok (.ireturn, 1) := by decide +kernel
theorem dX9_best_15 : decode cX9_best 15 = .ok (.aload_n 0, 1) := by decide +kernel
theorem dX9_best_16 : decode cX9_best 16 = .ok (.iload_n 1, 1) := by decide +kernel
theorem dX9_best_17 : decode cX9_best 17 = .ok (.invokevirtual 81, 3) := by decide +kernel
theorem dX9_best_20 : decode cX9_best 20 = .ok (.bipush 40, 2) := by decide +kernel
theorem dX9_best_22 : decode cX9_best 22 = .ok (.if_icmp .ne 10, 3) := by decide +kernel
theorem dX9_best_25 : decode cX9_best 25 = .ok (.aload_n 0, 1) := by decide +kernel
theorem dX9_best_26 : decode cX9_best 26 = .ok (.ldc 121, 2) := by decide +kernel
theorem dX9_best_28 : decode cX9_best 28 = .ok (.invokevirtual 64, 3) := by decide +kernel
theorem dX9_best_31 : decode cX9_best 31 = .ok (.ireturn, 1) := by decide +kernel
theorem dX9_best_32 : decode cX9_best 32 = .ok (.aload_n 0, 1) := by decide +kernel
theorem dX9_best_33 : decode cX9_best 33 = .ok (.iload_n 1, 1) := by decide +kernel
theorem dX9_best_34 : decode cX9_best 34 = .ok (.invokevirtual 135, 3) := by decide +kernel
theorem dX9_best_37 : decode cX9_best 37 = .ok (.iconst 0, 1) := by decide +kernel
theorem dX9_best_38 : decode cX9_best 38 = .ok (.istore_n 2, 1) := by decide +kernel
theorem dX9_best_39 : decode cX9_best 39 = .ok (.iconst (-1), 1) := by decide +kernel
theorem dX9_best_40 : decode cX9_best 40 = .ok (.istore_n 3, 1) := by decide +kernel
theorem dX9_best_41 : decode cX9_best 41 = .ok (.iconst 0, 1) := by decide +kernel
theorem dX9_best_42 : decode cX9_best 42 = .ok (.istore 4, 2) := by decide +kernel
theorem dX9_best_44 : decode cX9_best 44 = .ok (.iload 4, 2) := by decide +kernel
theorem dX9_best_46 : decode cX9_best 46 = .ok (.iconst 4, 1) := by decide +kernel
theorem dX9_best_47 : decode cX9_best 47 = .ok (.if_icmp .ge 50, 3) := by decide +kernel
theorem dX9_best_50 : decode cX9_best 50 = .ok (.aload_n 0, 1) := by decide +kernel
theorem dX9_best_51 : decode cX9_best 51 = .ok (.iload_n 1, 1) := by decide +kernel
theorem dX9_best_52 : decode cX9_best 52 = .ok (.iload 4, 2) := by decide +kernel
theorem dX9_best_54 : decode cX9_best 54 = .ok (.iconst 1, 1) := by decide +kernel
theorem dX9_best_55 : decode cX9_best 55 = .ok (.invokevirtual 138, 3) := by decide +kernel
theorem dX9_best_58 : decode cX9_best 58 = .ok (.istore 5, 2) := by decide +kernel
theorem dX9_best_60 : decode cX9_best 60 = .ok (.iload 5, 2) := by decide +kernel
theorem dX9_best_62 : decode cX9_best 62 = .ok (.iload_n 3, 1) := by decide +kernel
theorem dX9_best_63 : decode cX9_best 63 = .ok (.if_icmp .le 8, 3) := by decide +kernel
theorem dX9_best_66 : decode cX9_best 66 = .ok (.iload 4, 2) := by decide +kernel
theorem dX9_best_68 : decode cX9_best 68 = .ok (.goto 4, 3) := by decide +kernel
theorem dX9_best_71 : decode cX9_best 71 = .ok (.iload_n 2, 1) := by decide +kernel
theorem dX9_best_72 : decode cX9_best 72 = .ok (.istore_n 2, 1) := by decide +kernel
theorem dX9_best_73 : decode cX9_best 73 = .ok (.iload 5, 2) := by decide +kernel
theorem dX9_best_75 : decode cX9_best 75 = .ok (.iload_n 3, 1) := by decide +kernel
theorem dX9_best_76 : decode cX9_best 76 = .ok (.if_icmp .le 8, 3) := by decide +kernel
theorem dX9_best_79 : decode cX9_best 79 = .ok (.iload 5, 2) := by decide +kernel
theorem dX9_best_81 : decode cX9_best 81 = .ok (.goto 4, 3) := by decide +kernel
theorem dX9_best_84 : decode cX9_best 84 = .ok (.iload_n 3, 1) := by decide +kernel
theorem dX9_best_85 : decode cX9_best 85 = .ok (.istore_n 3, 1) := by decide +kernel
theorem dX9_best_86 : decode cX9_best 86 = .ok (.aload_n 0, 1) := by decide +kernel
theorem dX9_best_87 : decode cX9_best 87 = .ok (.iload_n 1, 1) := by decide +kernel
theorem dX9_best_88 : decode cX9_best 88 = .ok (.invokevirtual 142, 3) := by decide +kernel
theorem dX9_best_91 : decode cX9_best 91 = .ok (.iinc 4 1, 3) := by decide +kernel
theorem dX9_best_94 : decode cX9_best 94 = .ok (.goto (-50), 3) := by decide +kernel
theorem dX9_best_97 : decode cX9_best 97 = .ok (.iload_n 2, 1) := by decide +kernel
theorem dX9_best_98 : decode cX9_best 98 = .ok (.ireturn, 1) := by decide +kernel
set_option maxRecDepth 20000 in
theorem ggX9_kind_X9_isCandle : GoodIn wsX9_kind wsX9_isCandle := goodIn_r _ [7, 2, 8, 9, 6, 10, 86, 87, 88, 89, 90, 91, 92, 93, 94, 95, 96, 97, 98, 99, 100, 101, 102, 103, 104, 105] (by decide +kernel) (by decide +kernel)
set_option maxRecDepth 20000 in
theorem gX9_kind_X9_isCandle : GoodIn wsX9_kind (wsV RX9 97 RX9 yX9_isCandle wsX9_isCandle) := goodIn_app (goodIn_of _ (by decide +kernel)) ggX9_kind_X9_isCandle
set_option maxRecDepth 20000 in
theorem ggX9_kind_X9_isVat : GoodIn wsX9_kind wsX9_isVat := goodIn_r _ [13, 8, 9, 6, 10] (by decide +kernel) (by decide +kernel)
set_option maxRecDepth 20000 in
theorem gX9_kind_X9_isVat : GoodIn wsX9_kind (va_wsS RX9 57 yX9_isVat wsX9_isVat) := goodIn_app (goodIn_of _ (by decide +kernel)) ggX9_kind_X9_isVat
set_option maxRecDepth 20000 in
theorem ggX9_kind_X9_in : GoodIn wsX9_kind wsX9_in := goodIn_r _ [10] (by decide +kernel) (by decide +kernel)
set_option maxRecDepth 20000 in
theorem gX9_kind_X9_in : GoodIn wsX9_kind (va_wsS RX9 49 yX9_in wsX9_in) := goodIn_app (goodIn_of _ (by decide +kernel)) ggX9_kind_X9_in
set_option maxRecDepth 20000 in
theorem ggX9_kind_X9_finds : GoodIn wsX9_kind wsX9_finds := goodIn_r _ [17, 18, 1, 86, 87, 88, 89, 90, 91, 92, 93, 94, 95, 96, 97, 98, 99, 100, 101, 102, 103, 104, 105] (by decide +kernel) (by decide +kernel)
set_option maxRecDepth 20000 in
theorem gX9_kind_X9_finds : GoodIn wsX9_kind (wsV RX9 64 RX9 yX9_finds wsX9_finds) := goodIn_app (goodIn_of _ (by decide +kernel)) ggX9_kind_X9_finds
set_option maxRecDepth 20000 in
theorem ggX9_kind_X9_keeps : GoodIn wsX9_kind wsX9_keeps := goodIn_r _ [22, 23, 2, 24, 25, 6, 26, 86, 87, 88, 89, 90, 91, 92, 93, 94, 95, 96, 97, 98, 99, 100, 101, 102, 103, 104, 105] (by decide +kernel) (by decide +kernel)
set_option maxRecDepth 20000 in
theorem gX9_kind_X9_keeps : GoodIn wsX9_kind (wsV RX9 135 RX9 yX9_keeps wsX9_keeps) := goodIn_app (goodIn_of _ (by decide +kernel)) ggX9_kind_X9_keeps
set_option maxRecDepth 20000 in
theorem ggX9_kind_X9_at : GoodIn wsX9_kind wsX9_at := goodIn_r _ [26] (by decide +kernel) (by decide +kernel)
set_option maxRecDepth 20000 in
theorem gX9_kind_X9_at : GoodIn wsX9_kind (va_wsS RX9 53 yX9_at wsX9_at) := goodIn_app (goodIn_of _ (by decide +kernel)) ggX9_kind_X9_at
set_option maxRecDepth 20000 in
theorem ggX9_kind_X9_burnsBehind : GoodIn wsX9_kind wsX9_burnsBehind := goodIn_r _ [30, 31, 32, 33, 6, 34, 2, 35, 36, 37, 38, 24, 25, 26, 39, 40, 41, 42, 43, 44, 45, 46, 47, 48, 49, 50, 51, 52, 53, 54, 55, 56, 57, 58, 59, 60, 61, 62, 63, 64, 65, 66, 67, 68, 69, 70, 71, 72, 73, 74, 75, 76, 77, 78, 79, 80, 81, 86, 87, 88, 89, 90, 91, 92, 93, 94, 95, 96, 97, 98, 99, 100, 101, 102, 103, 104, 105] (by decide +kernel) (by decide +kernel)
set_option maxRecDepth 20000 in
theorem gX9_kind_X9_burnsBehind : GoodIn wsX9_kind (wsV RX9 138 RX9 yX9_burnsBehind wsX9_burnsBehind) := goodIn_app (goodIn_of _ (by decide +kernel)) ggX9_kind_X9_burnsBehind
set_option maxRecDepth 20000 in
theorem ggX9_kind_X9_putsBack : GoodIn wsX9_kind wsX9_putsBack := goodIn_r _ [85, 2, 23, 24, 25, 6, 26, 86, 87, 88, 89, 90, 91, 92, 93, 94, 95, 96, 97, 98, 99, 100, 101, 102, 103, 104, 105] (by decide +kernel) (by decide +kernel)
set_option maxRecDepth 20000 in
theorem gX9_kind_X9_putsBack : GoodIn wsX9_kind (wsV RX9 142 RX9 yX9_putsBack wsX9_putsBack) := goodIn_app (goodIn_of _ (by decide +kernel)) ggX9_kind_X9_putsBack
theorem dX9_kind_0 : decode cX9_kind 0 = .ok (.aload_n 0, 1) := by decide +kernel
theorem dX9_kind_1 : decode cX9_kind 1 = .ok (.iload_n 1, 1) := by decide +kernel
theorem dX9_kind_2 : decode cX9_kind 2 = .ok (.invokevirtual 97, 3) := by decide +kernel
theorem dX9_kind_5 : decode cX9_kind 5 = .ok (.ifCond .eq 20, 3) := by decide +kernel
theorem dX9_kind_8 : decode cX9_kind 8 = .ok (.iload_n 2, 1) := by decide +kernel
theorem dX9_kind_9 : decode cX9_kind 9 = .ok (.invokestatic 57, 3) := by decide +kernel
theorem dX9_kind_12 : decode cX9_kind 12 = .ok (.ifCond .eq 13, 3) := by decide +kernel
theorem dX9_kind_15 : decode cX9_kind 15 = .ok (.iload_n 3, 1) := by decide +kernel
theorem dX9_kind_16 : decode cX9_kind 16 = .ok (.iconst 0, 1) := by decide +kernel
theorem dX9_kind_17 : decode cX9_kind 17 = .ok (.bipush 40, 2) := by decide +kernel
theorem dX9_kind_19 : decode cX9_kind 19 = .ok (.invokestatic 49, 3) := by decide +kernel
theorem dX9_kind_22 : decode cX9_kind 22 = .ok (.ifCond .ne 10, 3) := by decide +kernel
theorem dX9_kind_25 : decode cX9_kind 25 = .ok (.aload_n 0, 1) := by decide +kernel
theorem dX9_kind_26 : decode cX9_kind 26 = .ok (.ldc 48, 2) := by decide +kernel
theorem dX9_kind_28 : decode cX9_kind 28 = .ok (.invokevirtual 64, 3) := by decide +kernel
theorem dX9_kind_31 : decode cX9_kind 31 = .ok (.ireturn, 1) := by decide +kernel
theorem dX9_kind_32 : decode cX9_kind 32 = .ok (.aload_n 0, 1) := by decide +kernel
theorem dX9_kind_33 : decode cX9_kind 33 = .ok (.iload_n 1, 1) := by decide +kernel
theorem dX9_kind_34 : decode cX9_kind 34 = .ok (.invokevirtual 135, 3) := by decide +kernel
theorem dX9_kind_37 : decode cX9_kind 37 = .ok (.iconst 0, 1) := by decide +kernel
theorem dX9_kind_38 : decode cX9_kind 38 = .ok (.istore 4, 2) := by decide +kernel
theorem dX9_kind_40 : decode cX9_kind 40 = .ok (.iconst (-1), 1) := by decide +kernel
theorem dX9_kind_41 : decode cX9_kind 41 = .ok (.istore 5, 2) := by decide +kernel
theorem dX9_kind_43 : decode cX9_kind 43 = .ok (.iconst 0, 1) := by decide +kernel
theorem dX9_kind_44 : decode cX9_kind 44 = .ok (.istore 6, 2) := by decide +kernel
theorem dX9_kind_46 : decode cX9_kind 46 = .ok (.iload 6, 2) := by decide +kernel
theorem dX9_kind_48 : decode cX9_kind 48 = .ok (.iconst 5, 1) := by decide +kernel
theorem dX9_kind_49 : decode cX9_kind 49 = .ok (.if_icmp .gt 67, 3) := by decide +kernel
theorem dX9_kind_52 : decode cX9_kind 52 = .ok (.aload_n 0, 1) := by decide +kernel
theorem dX9_kind_53 : decode cX9_kind 53 = .ok (.getfield 7, 3) := by decide +kernel
theorem dX9_kind_56 : decode cX9_kind 56 = .ok (.iload_n 1, 1) := by decide +kernel
theorem dX9_kind_57 : decode cX9_kind 57 = .ok (.iconst 0, 1) := by decide +kernel
theorem dX9_kind_58 : decode cX9_kind 58 = .ok (.invokestatic 53, 3) := by decide +kernel
theorem dX9_kind_61 : decode cX9_kind 61 = .ok (.iload 6, 2) := by decide +kernel
theorem dX9_kind_63 : decode cX9_kind 63 = .ok (.iastore, 1) := by decide +kernel
theorem dX9_kind_64 : decode cX9_kind 64 = .ok (.aload_n 0, 1) := by decide +kernel
theorem dX9_kind_65 : decode cX9_kind 65 = .ok (.iload_n 1, 1) := by decide +kernel
theorem dX9_kind_66 : decode cX9_kind 66 = .ok (.iload_n 2, 1) := by decide +kernel
theorem dX9_kind_67 : decode cX9_kind 67 = .ok (.iload_n 3, 1) := by decide +kernel
theorem dX9_kind_68 : decode cX9_kind 68 = .ok (.invokevirtual 138, 3) := by decide +kernel
theorem dX9_kind_71 : decode cX9_kind 71 = .ok (.istore 7, 2) := by decide +kernel
theorem dX9_kind_73 : decode cX9_kind 73 = .ok (.iload 7, 2) := by decide +kernel
theorem dX9_kind_75 : decode cX9_kind 75 = .ok (.iload 5, 2) := by decide +kernel
theorem dX9_kind_77 : decode cX9_kind 77 = .ok (.if_icmp .le 8, 3) := by decide +kernel
theorem dX9_kind_80 : decode cX9_kind 80 = .ok (.iload 6, 2) := by decide +kernel
theorem dX9_kind_82 : decode cX9_kind 82 = .ok (.goto 5, 3) := by decide +kernel
theorem dX9_kind_85 : decode cX9_kind 85 = .ok (.iload 4, 2) := by decide +kernel
theorem dX9_kind_87 : decode cX9_kind 87 = .ok (.istore 4, 2) := by decide +kernel
theorem dX9_kind_89 : decode cX9_kind 89 = .ok (.iload 7, 2) := by decide +kernel
theorem dX9_kind_91 : decode cX9_kind 91 = .ok (.iload 5, 2) := by decide +kernel
theorem dX9_kind_93 : decode cX9_kind 93 = .ok (.if_icmp .le 8, 3) := by decide +kernel
theorem dX9_kind_96 : decode cX9_kind 96 = .ok (.iload 7, 2) := by decide +kernel
theorem dX9_kind_98 : decode cX9_kind 98 = .ok (.goto 5, 3) := by decide +kernel
theorem dX9_kind_101 : decode cX9_kind 101 = .ok (.iload 5, 2) := by decide +kernel
theorem dX9_kind_103 : decode cX9_kind 103 = .ok (.istore 5, 2) := by decide +kernel
theorem dX9_kind_105 : decode cX9_kind 105 = .ok (.aload_n 0, 1) := by decide +kernel
theorem dX9_kind_106 : decode cX9_kind 106 = .ok (.iload_n 1, 1) := by decide +kernel
theorem dX9_kind_107 : decode cX9_kind 107 = .ok (.invokevirtual 142, 3) := by decide +kernel
theorem dX9_kind_110 : decode cX9_kind 110 = .ok (.iinc 6 1, 3) := by decide +kernel
theorem dX9_kind_113 : decode cX9_kind 113 = .ok (.goto (-67), 3) := by decide +kernel
theorem dX9_kind_116 : decode cX9_kind 116 = .ok (.iload 4, 2) := by decide +kernel
theorem dX9_kind_118 : decode cX9_kind 118 = .ok (.ireturn, 1) := by decide +kernel
set_option maxRecDepth 20000 in
theorem ggX9_areWarm_X9_its : GoodIn wsX9_areWarm wsX9_its := goodIn_r _ [5, 6, 7, 8, 9, 10, 11, 12, 13, 14, 15, 16, 17, 18, 19, 20, 21, 22, 23, 24, 25, 26] (by decide +kernel) (by decide +kernel)
set_option maxRecDepth 20000 in
theorem gX9_areWarm_X9_its : GoodIn wsX9_areWarm (wsV RX9 61 RX9 yX9_its wsX9_its) := goodIn_app (goodIn_of _ (by decide +kernel)) ggX9_areWarm_X9_its
theorem dX9_areWarm_0 : decode cX9_areWarm 0 = .ok (.iconst 1, 1) := by decide +kernel
theorem dX9_areWarm_1 : decode cX9_areWarm 1 = .ok (.istore_n 2, 1) := by decide +kernel
theorem dX9_areWarm_2 : decode cX9_areWarm 2 = .ok (.iconst 0, 1) := by decide +kernel
theorem dX9_areWarm_3 : decode cX9_areWarm 3 = .ok (.istore_n 3, 1) := by decide +kernel
theorem dX9_areWarm_4 : decode cX9_areWarm 4 = .ok (.iload_n 3, 1) := by decide +kernel
theorem dX9_areWarm_5 : decode cX9_areWarm 5 = .ok (.iconst 4, 1) := by decide +kernel
theorem dX9_areWarm_6 : decode cX9_areWarm 6 = .ok (.if_icmp .ge 29, 3) := by decide +kernel
theorem dX9_areWarm_9 : decode cX9_areWarm 9 = .ok (.iload_n 2, 1) := by decide +kernel
theorem dX9_areWarm_10 : decode cX9_areWarm 10 = .ok (.ifCond .eq 17, 3) := by decide +kernel
theorem dX9_areWarm_13 : decode cX9_areWarm 13 = .ok (.aload_n 0, 1) := by decide +kernel
theorem dX9_areWarm_14 : decode cX9_areWarm 14 = .ok (.iload_n 3, 1) := by decide +kernel
theorem dX9_areWarm_15 : decode cX9_areWarm 15 = .ok (.iconst 1, 1) := by decide +kernel
theorem dX9_areWarm_16 : decode cX9_areWarm 16 = .ok (.invokevirtual 61, 3) := by decide +kernel
theorem dX9_areWarm_19 : decode cX9_areWarm 19 = .ok (.iload_n 1, 1) := by decide +kernel
theorem dX9_areWarm_20 : decode cX9_areWarm 20 = .ok (.if_icmp .lt 7, 3) := by decide +kernel
theorem dX9_areWarm_23 : decode cX9_areWarm 23 = .ok (.iconst 1, 1) := by decide +kernel
theorem dX9_areWarm_24 : decode cX9_areWarm 24 = .ok (.goto 4, 3) := by decide +kernel
theorem dX9_areWarm_27 : decode cX9_areWarm 27 = .ok (.iconst 0, 1) := by decide +kernel
theorem dX9_areWarm_28 : decode cX9_areWarm 28 = .ok (.istore_n 2, 1) := by decide +kernel
theorem dX9_areWarm_29 : decode cX9_areWarm 29 = .ok (.iinc 3 1, 3) := by decide +kernel
theorem dX9_areWarm_32 : decode cX9_areWarm 32 = .ok (.goto (-28), 3) := by decide +kernel
theorem dX9_areWarm_35 : decode cX9_areWarm 35 = .ok (.iload_n 2, 1) := by decide +kernel
theorem dX9_areWarm_36 : decode cX9_areWarm 36 = .ok (.ireturn, 1) := by decide +kernel
set_option maxRecDepth 20000 in
theorem ggX9_fires_X9_in : GoodIn wsX9_fires wsX9_in := goodIn_r _ [9] (by decide +kernel) (by decide +kernel)
set_option maxRecDepth 20000 in
theorem gX9_fires_X9_in : GoodIn wsX9_fires (va_wsS RX9 49 yX9_in wsX9_in) := goodIn_app (goodIn_of _ (by decide +kernel)) ggX9_fires_X9_in
set_option maxRecDepth 20000 in
theorem ggX9_fires_X9_finds : GoodIn wsX9_fires wsX9_finds := goodIn_r _ [13, 14, 1, 39, 40, 41, 42, 43, 44, 45, 46, 47, 48, 49, 50, 51, 52, 53, 54, 55, 56, 57, 58] (by decide +kernel) (by decide +kernel)
set_option maxRecDepth 20000 in
theorem gX9_fires_X9_finds : GoodIn wsX9_fires (wsV RX9 64 RX9 yX9_finds wsX9_finds) := goodIn_app (goodIn_of _ (by decide +kernel)) ggX9_fires_X9_finds
set_option maxRecDepth 20000 in
theorem ggX9_fires_X9_moveAll : GoodIn wsX9_fires wsX9_moveAll := goodIn_r _ [18, 2, 39, 40, 41, 42, 43, 44, 45, 46, 47, 48, 49, 50, 51, 52, 53, 54, 55, 56, 57, 58] (by decide +kernel) (by decide +kernel)
set_option maxRecDepth 20000 in
theorem gX9_fires_X9_moveAll : GoodIn wsX9_fires (wsV RX9 131 RX9 yX9_moveAll wsX9_moveAll) := goodIn_app (goodIn_of _ (by decide +kernel)) ggX9_fires_X9_moveAll
set_option maxRecDepth 20000 in
theorem ggX9_fires_X9_setVat : GoodIn wsX9_fires wsX9_setVat := goodIn_r _ [22, 2, 39, 40, 41, 42, 43, 44, 45, 46, 47, 48, 49, 50, 51, 52, 53, 54, 55, 56, 57, 58] (by decide +kernel) (by decide +kernel)
set_option maxRecDepth 20000 in
theorem gX9_fires_X9_setVat : GoodIn wsX9_fires (wsV RX9 44 RX9 yX9_setVat wsX9_setVat) := goodIn_app (goodIn_of _ (by decide +kernel)) ggX9_fires_X9_setVat
set_option maxRecDepth 20000 in
theorem ggX9_fires_X9_go : GoodIn wsX9_fires wsX9_go := goodIn_r _ [26, 27, 28, 29, 8, 30, 2, 31, 32, 33, 34, 19, 20, 21, 22, 39, 40, 41, 42, 43, 44, 45, 46, 47, 48, 49, 50, 51, 52, 53, 54, 55, 56, 57, 58] (by decide +kernel) (by decide +kernel)
set_option maxRecDepth 20000 in
theorem gX9_fires_X9_go : GoodIn wsX9_fires (wsV RX9 128 RX9 yX9_go wsX9_go) := goodIn_app (goodIn_of _ (by decide +kernel)) ggX9_fires_X9_go
set_option maxRecDepth 20000 in
theorem ggX9_fires_X9_areWarm : GoodIn wsX9_fires wsX9_areWarm := goodIn_r _ [38, 31, 32, 33, 8, 34, 2, 39, 40, 41, 42, 43, 44, 45, 46, 47, 48, 49, 50, 51, 52, 53, 54, 55, 56, 57, 58] (by decide +kernel) (by decide +kernel)
set_option maxRecDepth 20000 in
theorem gX9_fires_X9_areWarm : GoodIn wsX9_fires (wsV RX9 161 RX9 yX9_areWarm wsX9_areWarm) := goodIn_app (goodIn_of _ (by decide +kernel)) ggX9_fires_X9_areWarm
theorem dX9_fires_0 : decode cX9_fires 0 = .ok (.iload_n 1, 1) := by decide +kernel
theorem dX9_fires_1 : decode cX9_fires 1 = .ok (.iconst 0, 1) := by decide +kernel
theorem dX9_fires_2 : decode cX9_fires 2 = .ok (.bipush 99, 2) := by decide +kernel
theorem dX9_fires_4 : decode cX9_fires 4 = .ok (.invokestatic 49, 3) := by decide +kernel
theorem dX9_fires_7 : decode cX9_fires 7 = .ok (.ifCond .eq 13, 3) := by decide +kernel
theorem dX9_fires_10 : decode cX9_fires 10 = .ok (.iload_n 2, 1) := by decide +kernel
theorem dX9_fires_11 : decode cX9_fires 11 = .ok (.iconst 1, 1) := by decide +kernel
theorem dX9_fires_12 : decode cX9_fires 12 = .ok (.bipush 100, 2) := by decide +kernel
theorem dX9_fires_14 : decode cX9_fires 14 = .ok (.invokestatic 49, 3) := by decide +kernel
theorem dX9_fires_17 : decode cX9_fires 17 = .ok (.ifCond .ne 10, 3) := by decide +kernel
theorem dX9_fires_20 : decode cX9_fires 20 = .ok (.aload_n 0, 1) := by decide +kernel
theorem dX9_fires_21 : decode cX9_fires 21 = .ok (.ldc 48, 2) := by decide +kernel
theorem dX9_fires_23 : decode cX9_fires 23 = .ok (.invokevirtual 64, 3) := by decide +kernel
theorem dX9_fires_26 : decode cX9_fires 26 = .ok (.ireturn, 1) := by decide +kernel
theorem dX9_fires_27 : decode cX9_fires 27 = .ok (.aload_n 0, 1) := by decide +kernel
theorem dX9_fires_28 : decode cX9_fires 28 = .ok (.getfield 7, 3) := by decide +kernel
theorem dX9_fires_31 : decode cX9_fires 31 = .ok (.iconst 3, 1) := by decide +kernel
theorem dX9_fires_32 : decode cX9_fires 32 = .ok (.iaload, 1) := by decide +kernel
theorem dX9_fires_33 : decode cX9_fires 33 = .ok (.iload_n 2, 1) := by decide +kernel
theorem dX9_fires_34 : decode cX9_fires 34 = .ok (.iadd, 1) := by decide +kernel
theorem dX9_fires_35 : decode cX9_fires 35 = .ok (.sipush 9999, 3) := by decide +kernel
theorem dX9_fires_38 : decode cX9_fires 38 = .ok (.if_icmp .le 10, 3) := by decide +kernel
theorem dX9_fires_41 : decode cX9_fires 41 = .ok (.aload_n 0, 1) := by decide +kernel
theorem dX9_fires_42 : decode cX9_fires 42 = .ok (.ldc 121, 2) := by decide +kernel
theorem dX9_fires_44 : decode cX9_fires 44 = .ok (.invokevirtual 64, 3) := by decide +kernel
theorem dX9_fires_47 : decode cX9_fires 47 = .ok (.ireturn, 1) := by decide +kernel
theorem dX9_fires_48 : decode cX9_fires 48 = .ok (.aload_n 0, 1) := by decide +kernel
theorem dX9_fires_49 : decode cX9_fires 49 = .ok (.iconst 1, 1) := by decide +kernel
theorem dX9_fires_50 : decode cX9_fires 50 = .ok (.aload_n 0, 1) := by decide +kernel
theorem dX9_fires_51 : decode cX9_fires 51 = .ok (.getfield 16, 3) := by decide +kernel
theorem dX9_fires_54 : decode cX9_fires 54 = .ok (.invokevirtual 131, 3) := by decide +kernel
theorem dX9_fires_57 : decode cX9_fires 57 = .ok (.iconst (-1), 1) := by decide +kernel
theorem dX9_fires_58 : decode cX9_fires 58 = .ok (.istore_n 3, 1) := by decide +kernel
theorem dX9_fires_59 : decode cX9_fires 59 = .ok (.iconst (-1), 1) := by decide +kernel
theorem dX9_fires_60 : decode cX9_fires 60 = .ok (.istore 4, 2) := by decide +kernel
theorem dX9_fires_62 : decode cX9_fires 62 = .ok (.iconst 0, 1) := by decide +kernel
theorem dX9_fires_63 : decode cX9_fires 63 = .ok (.istore 5, 2) := by decide +kernel
theorem dX9_fires_65 : decode cX9_fires 65 = .ok (.iload 5, 2) := by decide +kernel
theorem dX9_fires_67 : decode cX9_fires 67 = .ok (.bipush 16, 2) := by decide +kernel
theorem dX9_fires_69 : decode cX9_fires 69 = .ok (.if_icmp .ge 108, 3) := by decide +kernel
theorem dX9_fires_72 : decode cX9_fires 72 = .ok (.iconst 0, 1) := by decide +kernel
theorem dX9_fires_73 : decode cX9_fires 73 = .ok (.istore 6, 2) := by decide +kernel
theorem dX9_fires_75 : decode cX9_fires 75 = .ok (.iload 6, 2) := by decide +kernel
theorem dX9_fires_77 : decode cX9_fires 77 = .ok (.iconst 4, 1) := by decide +kernel
theorem dX9_fires_78 : decode cX9_fires 78 = .ok (.if_icmp .ge 23, 3) := by decide +kernel
theorem dX9_fires_81 : decode cX9_fires 81 = .ok (.aload_n 0, 1) := by decide +kernel
theorem dX9_fires_82 : decode cX9_fires 82 = .ok (.iload 6, 2) := by decide +kernel
theorem dX9_fires_84 : decode cX9_fires 84 = .ok (.iconst 3, 1) := by decide +kernel
theorem dX9_fires_85 : decode cX9_fires 85 = .ok (.iload 5, 2) := by decide +kernel
theorem dX9_fires_87 : decode cX9_fires 87 = .ok (.iload 6, 2) := by decide +kernel
theorem dX9_fires_89 : decode cX9_fires 89 = .ok (.ishr, 1) := by decide +kernel
theorem dX9_fires_90 : decode cX9_fires 90 = .ok (.iconst 1, 1) := by decide +kernel
theorem dX9_fires_91 : decode cX9_fires 91 = .ok (.iand, 1) := by decide +kernel
theorem dX9_fires_92 : decode cX9_fires 92 = .ok (.invokevirtual 44, 3) := by decide +kernel
theorem dX9_fires_95 : decode cX9_fires 95 = .ok (.iinc 6 1, 3) := by decide +kernel
theorem dX9_fires_98 : decode cX9_fires 98 = .ok (.goto (-23), 3) := by decide +kernel
theorem dX9_fires_101 : decode cX9_fires 101 = .ok (.aload_n 0, 1) := by decide +kernel
theorem dX9_fires_102 : decode cX9_fires 102 = .ok (.iload_n 2, 1) := by decide +kernel
theorem dX9_fires_103 : decode cX9_fires 103 = .ok (.invokevirtual 128, 3) := by decide +kernel
theorem dX9_fires_106 : decode cX9_fires 106 = .ok (.aload_n 0, 1) := by decide +kernel
theorem dX9_fires_107 : decode cX9_fires 107 = .ok (.iload_n 1, 1) := by decide +kernel
theorem dX9_fires_108 : decode cX9_fires 108 = .ok (.invokevirtual 161, 3) := by decide +kernel
theorem dX9_fires_111 : decode cX9_fires 111 = .ok (.ifCond .eq 18, 3) := by decide +kernel
theorem dX9_fires_114 : decode cX9_fires 114 = .ok (.aload_n 0, 1) := by decide +kernel
theorem dX9_fires_115 : decode cX9_fires 115 = .ok (.getfield 7, 3) := by decide +kernel
theorem dX9_fires_118 : decode cX9_fires 118 = .ok (.iconst 1, 1) := by decide +kernel
theorem dX9_fires_119 : decode cX9_fires 119 = .ok (.iaload, 1) := by decide +kernel
theorem dX9_fires_120 : decode cX9_fires 120 = .ok (.iload 4, 2) := by decide +kernel
theorem dX9_fires_122 : decode cX9_fires 122 = .ok (.if_icmp .le 7, 3) := by decide +kernel
theorem dX9_fires_125 : decode cX9_fires 125 = .ok (.iconst 1, 1) := by decide +kernel
theorem dX9_fires_126 : decode cX9_fires 126 = .ok (.goto 4, 3) := by decide +kernel
theorem dX9_fires_129 : decode cX9_fires 129 = .ok (.iconst 0, 1) := by decide +kernel
theorem dX9_fires_130 : decode cX9_fires 130 = .ok (.istore 6, 2) := by decide +kernel
theorem dX9_fires_132 : decode cX9_fires 132 = .ok (.iload 6, 2) := by decide +kernel
theorem dX9_fires_134 : decode cX9_fires 134 = .ok (.ifCond .eq 8, 3) := by decide +kernel
theorem dX9_fires_137 : decode cX9_fires 137 = .ok (.iload 5, 2) := by decide +kernel
theorem dX9_fires_139 : decode cX9_fires 139 = .ok (.goto 4, 3) := by decide +kernel
theorem dX9_fires_142 : decode cX9_fires 142 = .ok (.iload_n 3, 1) := by decide +kernel
theorem dX9_fires_143 : decode cX9_fires 143 = .ok (.istore_n 3, 1) := by decide +kernel
theorem dX9_fires_144 : decode cX9_fires 144 = .ok (.iload 6, 2) := by decide +kernel
theorem dX9_fires_146 : decode cX9_fires 146 = .ok (.ifCond .eq 12, 3) := by decide +kernel
theorem dX9_fires_149 : decode cX9_fires 149 = .ok (.aload_n 0, 1) := by decide +kernel
theorem dX9_fires_150 : decode cX9_fires 150 = .ok (.getfield 7, 3) := by decide +kernel
theorem dX9_fires_153 : decode cX9_fires 153 = .ok (.iconst 1, 1) := by decide +kernel
theorem dX9_fires_154 : decode cX9_fires 154 = .ok (.iaload, 1) := by decide +kernel
theorem dX9_fires_155 : decode cX9_fires 155 = .ok (.goto 5, 3) := by decide +kernel
theorem dX9_fires_158 : decode cX9_fires 158 = .ok (.iload 4, 2) := by decide +kernel
theorem dX9_fires_160 : decode cX9_fires 160 = .ok (.istore 4, 2) := by decide +kernel
theorem dX9_fires_162 : decode cX9_fires 162 = .ok (.aload_n 0, 1) := by decide +kernel
theorem dX9_fires_163 : decode cX9_fires 163 = .ok (.iconst 0, 1) := by decide +kernel
theorem dX9_fires_164 : decode cX9_fires 164 = .ok (.aload_n 0, 1) := by decide +kernel
theorem dX9_fires_165 : decode cX9_fires 165 = .ok (.getfield 16, 3) := by decide +kernel
theorem dX9_fires_168 : decode cX9_fires 168 = .ok (.invokevirtual 131, 3) := by decide +kernel
theorem dX9_fires_171 : decode cX9_fires 171 = .ok (.iinc 5 1, 3) := by decide +kernel
theorem dX9_fires_174 : decode cX9_fires 174 = .ok (.goto (-109), 3) := by decide +kernel
theorem dX9_fires_177 : decode cX9_fires 177 = .ok (.iload_n 3, 1) := by decide +kernel
theorem dX9_fires_178 : decode cX9_fires 178 = .ok (.ifCond .ge 12, 3) := by decide +kernel
theorem dX9_fires_181 : decode cX9_fires 181 = .ok (.aload_n 0, 1) := by decide +kernel
theorem dX9_fires_182 : decode cX9_fires 182 = .ok (.ldc 103, 2) := by decide +kernel
theorem dX9_fires_184 : decode cX9_fires 184 = .ok (.invokevirtual 64, 3) := by decide +kernel
theorem dX9_fires_187 : decode cX9_fires 187 = .ok (.goto 4, 3) := by decide +kernel
theorem dX9_fires_190 : decode cX9_fires 190 = .ok (.iload_n 3, 1) := by decide +kernel
theorem dX9_fires_191 : decode cX9_fires 191 = .ok (.ireturn, 1) := by decide +kernel
set_option maxRecDepth 20000 in
theorem ggX9_enough_X9_isMinutes : GoodIn wsX9_enough wsX9_isMinutes := goodIn_r _ [6, 7, 8, 5, 9] (by decide +kernel) (by decide +kernel)
set_option maxRecDepth 20000 in
theorem gX9_enough_X9_isMinutes : GoodIn wsX9_enough (va_wsS RX9 155 yX9_isMinutes wsX9_isMinutes) := goodIn_app (goodIn_of _ (by decide +kernel)) ggX9_enough_X9_isMinutes
set_option maxRecDepth 20000 in
theorem ggX9_enough_X9_finds : GoodIn wsX9_enough wsX9_finds := goodIn_r _ [13, 14, 1, 41, 42, 43, 44, 45, 46, 47, 48, 49, 50, 51, 52, 53, 54, 55, 56, 57, 58, 59, 60] (by decide +kernel) (by decide +kernel)
set_option maxRecDepth 20000 in
theorem gX9_enough_X9_finds : GoodIn wsX9_enough (wsV RX9 64 RX9 yX9_finds wsX9_finds) := goodIn_app (goodIn_of _ (by decide +kernel)) ggX9_enough_X9_finds
set_option maxRecDepth 20000 in
theorem ggX9_enough_X9_burnsOf : GoodIn wsX9_enough wsX9_burnsOf := goodIn_r _ [18, 19, 20, 21, 5, 22, 23, 24, 25, 26, 2, 27, 28, 29, 30, 31, 32, 33, 34, 35, 36, 37, 38, 39, 40, 41, 42, 43, 44, 45, 46, 47, 48, 49, 50, 51, 52, 53, 54, 55, 56, 57, 58, 59, 60] (by decide +kernel) (by decide +kernel)
set_option maxRecDepth 20000 in
theorem gX9_enough_X9_burnsOf : GoodIn wsX9_enough (wsV RX9 100 RX9 yX9_burnsOf wsX9_burnsOf) := goodIn_app (goodIn_of _ (by decide +kernel)) ggX9_enough_X9_burnsOf
theorem dX9_enough_0 : decode cX9_enough 0 = .ok (.iload_n 1, 1) := by decide +kernel
theorem dX9_enough_1 : decode cX9_enough 1 = .ok (.invokestatic 155, 3) := by decide +kernel
theorem dX9_enough_4 : decode cX9_enough 4 = .ok (.ifCond .ne 10, 3) := by decide +kernel
theorem dX9_enough_7 : decode cX9_enough 7 = .ok (.aload_n 0, 1) := by decide +kernel
theorem dX9_enough_8 : decode cX9_enough 8 = .ok (.ldc 48, 2) := by decide +kernel
theorem dX9_enough_10 : decode cX9_enough 10 = .ok (.invokevirtual 64, 3) := by decide +kernel
theorem dX9_enough_13 : decode cX9_enough 13 = .ok (.ireturn, 1) := by decide +kernel
theorem dX9_enough_14 : decode cX9_enough 14 = .ok (.iconst 0, 1) := by decide +kernel
theorem dX9_enough_15 : decode cX9_enough 15 = .ok (.istore_n 2, 1) := by decide +kernel
theorem dX9_enough_16 : decode cX9_enough 16 = .ok (.iconst 0, 1) := by decide +kernel
theorem dX9_enough_17 : decode cX9_enough 17 = .ok (.istore_n 3, 1) := by decide +kernel
theorem dX9_enough_18 : decode cX9_enough 18 = .ok (.iload_n 3, 1) := by decide +kernel
theorem dX9_enough_19 : decode cX9_enough 19 = .ok (.aload_n 0, 1) := by decide +kernel
theorem dX9_enough_20 : decode cX9_enough 20 = .ok (.getfield 7, 3) := by decide +kernel
theorem dX9_enough_23 : decode cX9_enough 23 = .ok (.iconst 0, 1) := by decide +kernel
theorem dX9_enough_24 : decode cX9_enough 24 = .ok (.iaload, 1) := by decide +kernel
theorem dX9_enough_25 : decode cX9_enough 25 = .ok (.if_icmp .ge 28, 3) := by decide +kernel
theorem dX9_enough_28 : decode cX9_enough 28 = .ok (.iload_n 2, 1) := by decide +kernel
theorem dX9_enough_29 : decode cX9_enough 29 = .ok (.aload_n 0, 1) := by decide +kernel
theorem dX9_enough_30 : decode cX9_enough 30 = .ok (.iload_n 3, 1) := by decide +kernel
theorem dX9_enough_31 : decode cX9_enough 31 = .ok (.invokevirtual 100, 3) := by decide +kernel
theorem dX9_enough_34 : decode cX9_enough 34 = .ok (.iload_n 1, 1) := by decide +kernel
theorem dX9_enough_35 : decode cX9_enough 35 = .ok (.if_icmp .lt 9, 3) := by decide +kernel
theorem dX9_enough_38 : decode cX9_enough 38 = .ok (.iconst 1, 1) := by decide +kernel
theorem dX9_enough_39 : decode cX9_enough 39 = .ok (.iload_n 3, 1) := by decide +kernel
theorem dX9_enough_40 : decode cX9_enough 40 = .ok (.ishl, 1) := by decide +kernel
theorem dX9_enough_41 : decode cX9_enough 41 = .ok (.goto 4, 3) := by decide +kernel
theorem dX9_enough_44 : decode cX9_enough 44 = .ok (.iconst 0, 1) := by decide +kernel
theorem dX9_enough_45 : decode cX9_enough 45 = .ok (.ior, 1) := by decide +kernel
theorem dX9_enough_46 : decode cX9_enough 46 = .ok (.istore_n 2, 1) := by decide +kernel
theorem dX9_enough_47 : decode cX9_enough 47 = .ok (.iinc 3 1, 3) := by decide +kernel
theorem dX9_enough_50 : decode cX9_enough 50 = .ok (.goto (-32), 3) := by decide +kernel
theorem dX9_enough_53 : decode cX9_enough 53 = .ok (.iload_n 2, 1) := by decide +kernel
theorem dX9_enough_54 : decode cX9_enough 54 = .ok (.ireturn, 1) := by decide +kernel
set_option maxRecDepth 20000 in
theorem ggX9_feed_X9_in : GoodIn wsX9_feed wsX9_in := goodIn_r _ [8] (by decide +kernel) (by decide +kernel)
set_option maxRecDepth 20000 in
theorem gX9_feed_X9_in : GoodIn wsX9_feed (va_wsS RX9 49 yX9_in wsX9_in) := goodIn_app (goodIn_of _ (by decide +kernel)) ggX9_feed_X9_in
set_option maxRecDepth 20000 in
theorem ggX9_feed_X9_finds : GoodIn wsX9_feed wsX9_finds := goodIn_r _ [12, 13, 1, 14, 15, 16, 17, 18, 19, 20, 21, 22, 23, 24, 25, 26, 27, 28, 29, 30, 31, 32, 33] (by decide +kernel) (by decide +kernel)
set_option maxRecDepth 20000 in
theorem gX9_feed_X9_finds : GoodIn wsX9_feed (wsV RX9 64 RX9 yX9_finds wsX9_finds) := goodIn_app (goodIn_of _ (by decide +kernel)) ggX9_feed_X9_finds
theorem dX9_feed_0 : decode cX9_feed 0 = .ok (.iload_n 2, 1) := by decide +kernel
theorem dX9_feed_1 : decode cX9_feed 1 = .ok (.iconst 1, 1) := by decide +kernel
theorem dX9_feed_2 : decode cX9_feed 2 = .ok (.iconst 4, 1) := by decide +kernel
theorem dX9_feed_3 : decode cX9_feed 3 = .ok (.invokestatic 49, 3) := by decide +kernel
theorem dX9_feed_6 : decode cX9_feed 6 = .ok (.ifCond .ne 10, 3) := by decide +kernel
theorem dX9_feed_9 : decode cX9_feed 9 = .ok (.aload_n 0, 1) := by decide +kernel
theorem dX9_feed_10 : decode cX9_feed 10 = .ok (.ldc 48, 2) := by decide +kernel
theorem dX9_feed_12 : decode cX9_feed 12 = .ok (.invokevirtual 64, 3) := by decide +kernel
theorem dX9_feed_15 : decode cX9_feed 15 = .ok (.ireturn, 1) := by decide +kernel
theorem dX9_feed_16 : decode cX9_feed 16 = .ok (.aload_n 0, 1) := by decide +kernel
theorem dX9_feed_17 : decode cX9_feed 17 = .ok (.getfield 164, 3) := by decide +kernel
theorem dX9_feed_20 : decode cX9_feed 20 = .ok (.iload_n 2, 1) := by decide +kernel
theorem dX9_feed_21 : decode cX9_feed 21 = .ok (.iadd, 1) := by decide +kernel
theorem dX9_feed_22 : decode cX9_feed 22 = .ok (.bipush 120, 2) := by decide +kernel
theorem dX9_feed_24 : decode cX9_feed 24 = .ok (.if_icmp .le 10, 3) := by decide +kernel
theorem dX9_feed_27 : decode cX9_feed 27 = .ok (.aload_n 0, 1) := by decide +kernel
theorem dX9_feed_28 : decode cX9_feed 28 = .ok (.ldc 76, 2) := by decide +kernel
theorem dX9_feed_30 : decode cX9_feed 30 = .ok (.invokevirtual 64, 3) := by decide +kernel
theorem dX9_feed_33 : decode cX9_feed 33 = .ok (.ireturn, 1) := by decide +kernel
theorem dX9_feed_34 : decode cX9_feed 34 = .ok (.iload_n 2, 1) := by decide +kernel
theorem dX9_feed_35 : decode cX9_feed 35 = .ok (.iconst 1, 1) := by decide +kernel
theorem dX9_feed_36 : decode cX9_feed 36 = .ok (.isub, 1) := by decide +kernel
theorem dX9_feed_37 : decode cX9_feed 37 = .ok (.istore_n 3, 1) := by decide +kernel
theorem dX9_feed_38 : decode cX9_feed 38 = .ok (.iload_n 3, 1) := by decide +kernel
theorem dX9_feed_39 : decode cX9_feed 39 = .ok (.ifCond .lt 38, 3) := by decide +kernel
theorem dX9_feed_42 : decode cX9_feed 42 = .ok (.aload_n 0, 1) := by decide +kernel
theorem dX9_feed_43 : decode cX9_feed 43 = .ok (.getfield 22, 3) := by decide +kernel
theorem dX9_feed_46 : decode cX9_feed 46 = .ok (.aload_n 0, 1) := by decide +kernel
theorem dX9_feed_47 : decode cX9_feed 47 = .ok (.getfield 164, 3) := by decide +kernel
theorem dX9_feed_50 : decode cX9_feed 50 = .ok (.iload_n 1, 1) := by decide +kernel
theorem dX9_feed_51 : decode cX9_feed 51 = .ok (.bipush 8, 2) := by decide +kernel
theorem dX9_feed_53 : decode cX9_feed 53 = .ok (.iload_n 3, 1) := by decide +kernel
theorem dX9_feed_54 : decode cX9_feed 54 = .ok (.imul, 1) := by decide +kernel
theorem dX9_feed_55 : decode cX9_feed 55 = .ok (.ishr, 1) := by decide +kernel
theorem dX9_feed_56 : decode cX9_feed 56 = .ok (.sipush 255, 3) := by decide +kernel
theorem dX9_feed_59 : decode cX9_feed 59 = .ok (.iand, 1) := by decide +kernel
theorem dX9_feed_60 : decode cX9_feed 60 = .ok (.iastore, 1) := by decide +kernel
theorem dX9_feed_61 : decode cX9_feed 61 = .ok (.aload_n 0, 1) := by decide +kernel
theorem dX9_feed_62 : decode cX9_feed 62 = .ok (.dup, 1) := by decide +kernel
theorem dX9_feed_63 : decode cX9_feed 63 = .ok (.getfield 164, 3) := by decide +kernel
theorem dX9_feed_66 : decode cX9_feed 66 = .ok (.iconst 1, 1) := by decide +kernel
theorem dX9_feed_67 : decode cX9_feed 67 = .ok (.iadd, 1) := by decide +kernel
theorem dX9_feed_68 : decode cX9_feed 68 = .ok (.putfield 164, 3) := by decide +kernel
theorem dX9_feed_71 : decode cX9_feed 71 = .ok (.iinc 3 (-1), 3) := by decide +kernel
theorem dX9_feed_74 : decode cX9_feed 74 = .ok (.goto (-36), 3) := by decide +kernel
theorem dX9_feed_77 : decode cX9_feed 77 = .ok (.aload_n 0, 1) := by decide +kernel
theorem dX9_feed_78 : decode cX9_feed 78 = .ok (.getfield 164, 3) := by decide +kernel
theorem dX9_feed_81 : decode cX9_feed 81 = .ok (.ireturn, 1) := by decide +kernel
theorem dX9_wipe_0 : decode cX9_wipe 0 = .ok (.aload_n 0, 1) := by decide +kernel
theorem dX9_wipe_1 : decode cX9_wipe 1 = .ok (.getfield 164, 3) := by decide +kernel
theorem dX9_wipe_4 : decode cX9_wipe 4 = .ok (.istore_n 1, 1) := by decide +kernel
theorem dX9_wipe_5 : decode cX9_wipe 5 = .ok (.aload_n 0, 1) := by decide +kernel
theorem dX9_wipe_6 : decode cX9_wipe 6 = .ok (.iconst 0, 1) := by decide +kernel
theorem dX9_wipe_7 : decode cX9_wipe 7 = .ok (.putfield 164, 3) := by decide +kernel
theorem dX9_wipe_10 : decode cX9_wipe 10 = .ok (.iload_n 1, 1) := by decide +kernel
theorem dX9_wipe_11 : decode cX9_wipe 11 = .ok (.ireturn, 1) := by decide +kernel
theorem dX9_byteAt_0 : decode cX9_byteAt 0 = .ok (.iload_n 1, 1) := by decide +kernel
theorem dX9_byteAt_1 : decode cX9_byteAt 1 = .ok (.aload_n 0, 1) := by decide +kernel
theorem dX9_byteAt_2 : decode cX9_byteAt 2 = .ok (.getfield 164, 3) := by decide +kernel
theorem dX9_byteAt_5 : decode cX9_byteAt 5 = .ok (.if_icmp .ge 12, 3) := by decide +kernel
theorem dX9_byteAt_8 : decode cX9_byteAt 8 = .ok (.aload_n 0, 1) := by decide +kernel
theorem dX9_byteAt_9 : decode cX9_byteAt 9 = .ok (.getfield 22, 3) := by decide +kernel
theorem dX9_byteAt_12 : decode cX9_byteAt 12 = .ok (.iload_n 1, 1) := by decide +kernel
theorem dX9_byteAt_13 : decode cX9_byteAt 13 = .ok (.iaload, 1) := by decide +kernel
theorem dX9_byteAt_14 : decode cX9_byteAt 14 = .ok (.goto 4, 3) := by decide +kernel
theorem dX9_byteAt_17 : decode cX9_byteAt 17 = .ok (.iconst (-1), 1) := by decide +kernel
theorem dX9_byteAt_18 : decode cX9_byteAt 18 = .ok (.ireturn, 1) := by decide +kernel
set_option maxRecDepth 20000 in
theorem ggX9_isLetter_X9_in : GoodIn wsX9_isLetter wsX9_in := goodIn_r _ [4] (by decide +kernel) (by decide +kernel)
set_option maxRecDepth 20000 in
theorem gX9_isLetter_X9_in : GoodIn wsX9_isLetter (va_wsS RX9 49 yX9_in wsX9_in) := goodIn_app (goodIn_of _ (by decide +kernel)) ggX9_isLetter_X9_in
theorem dX9_isLetter_0 : decode cX9_isLetter 0 = .ok (.iload_n 0, 1) := by decide +kernel
theorem dX9_isLetter_1 : decode cX9_isLetter 1 = .ok (.bipush 97, 2) := by decide +kernel
theorem dX9_isLetter_3 : decode cX9_isLetter 3 = .ok (.bipush 122, 2) := by decide +kernel
theorem dX9_isLetter_5 : decode cX9_isLetter 5 = .ok (.invokestatic 49, 3) := by decide +kernel
theorem dX9_isLetter_8 : decode cX9_isLetter 8 = .ok (.ireturn, 1) := by decide +kernel
set_option maxRecDepth 20000 in
theorem ggX9_isDigit_X9_in : GoodIn wsX9_isDigit wsX9_in := goodIn_r _ [4] (by decide +kernel) (by decide +kernel)
set_option maxRecDepth 20000 in
theorem gX9_isDigit_X9_in : GoodIn wsX9_isDigit (va_wsS RX9 49 yX9_in wsX9_in) := goodIn_app (goodIn_of _ (by decide +kernel)) ggX9_isDigit_X9_in
theorem dX9_isDigit_0 : decode cX9_isDigit 0 = .ok (.iload_n 0, 1) := by decide +kernel
theorem dX9_isDigit_1 : decode cX9_isDigit 1 = .ok (.bipush 48, 2) := by decide +kernel
theorem dX9_isDigit_3 : decode cX9_isDigit 3 = .ok (.bipush 57, 2) := by decide +kernel
theorem dX9_isDigit_5 : decode cX9_isDigit 5 = .ok (.invokestatic 49, 3) := by decide +kernel
theorem dX9_isDigit_8 : decode cX9_isDigit 8 = .ok (.ireturn, 1) := by decide +kernel
set_option maxRecDepth 20000 in
theorem ggX9_advance_X9_byteAt : GoodIn wsX9_advance wsX9_byteAt := goodIn_r _ [14, 15, 16, 26, 27, 28, 29, 30, 31, 32, 33, 34, 35, 36, 37, 38, 39, 40, 41, 42, 43, 44, 45] (by decide +kernel) (by decide +kernel)
set_option maxRecDepth 20000 in
theorem gX9_advance_X9_byteAt : GoodIn wsX9_advance (wsV RX9 173 RX9 yX9_byteAt wsX9_byteAt) := goodIn_app (goodIn_of _ (by decide +kernel)) ggX9_advance_X9_byteAt
set_option maxRecDepth 20000 in
theorem ggX9_advance_X9_isLetter : GoodIn wsX9_advance wsX9_isLetter := goodIn_r _ [19, 20, 21, 13, 22] (by decide +kernel) (by decide +kernel)
set_option maxRecDepth 20000 in
theorem gX9_advance_X9_isLetter : GoodIn wsX9_advance (va_wsS RX9 176 yX9_isLetter wsX9_isLetter) := goodIn_app (goodIn_of _ (by decide +kernel)) ggX9_advance_X9_isLetter
set_option maxRecDepth 20000 in
theorem ggX9_advance_X9_isDigit : GoodIn wsX9_advance wsX9_isDigit := goodIn_r _ [25, 20, 21, 13, 22] (by decide +kernel) (by decide +kernel)
set_option maxRecDepth 20000 in
theorem gX9_advance_X9_isDigit : GoodIn wsX9_advance (va_wsS RX9 179 yX9_isDigit wsX9_isDigit) := goodIn_app (goodIn_of _ (by decide +kernel)) ggX9_advance_X9_isDigit
theorem dX9_advance_0 : decode cX9_advance 0 = .ok (.aload_n 0, 1) := by decide +kernel
theorem dX9_advance_1 : decode cX9_advance 1 = .ok (.aload_n 0, 1) := by decide +kernel
theorem dX9_advance_2 : decode cX9_advance 2 = .ok (.getfield 167, 3) := by decide +kernel
theorem dX9_advance_5 : decode cX9_advance 5 = .ok (.putfield 170, 3) := by decide +kernel
theorem dX9_advance_8 : decode cX9_advance 8 = .ok (.aload_n 0, 1) := by decide +kernel
theorem dX9_advance_9 : decode cX9_advance 9 = .ok (.aload_n 0, 1) := by decide +kernel
theorem dX9_advance_10 : decode cX9_advance 10 = .ok (.getfield 170, 3) := by decide +kernel
theorem dX9_advance_13 : decode cX9_advance 13 = .ok (.invokevirtual 173, 3) := by decide +kernel
theorem dX9_advance_16 : decode cX9_advance 16 = .ok (.bipush 32, 2) := by decide +kernel
theorem dX9_advance_18 : decode cX9_advance 18 = .ok (.if_icmp .ne 16, 3) := by decide +kernel
theorem dX9_advance_21 : decode cX9_advance 21 = .ok (.aload_n 0, 1) := by decide +kernel
theorem dX9_advance_22 : decode cX9_advance 22 = .ok (.dup, 1) := by decide +kernel
theorem dX9_advance_23 : decode cX9_advance 23 = .ok (.getfield 170, 3) := by decide +kernel
theorem dX9_advance_26 : decode cX9_advance 26 = .ok (.iconst 1, 1) := by decide +kernel
theorem dX9_advance_27 : decode cX9_advance 27 = .ok (.iadd, 1) := by decide +kernel
theorem dX9_advance_28 : decode cX9_advance 28 = .ok (.putfield 170, 3) := by decide +kernel
theorem dX9_advance_31 : decode cX9_advance 31 = .ok (.goto (-23), 3) := by decide +kernel
theorem dX9_advance_34 : decode cX9_advance 34 = .ok (.aload_n 0, 1) := by decide +kernel
theorem dX9_advance_35 : decode cX9_advance 35 = .ok (.aload_n 0, 1) := by decide +kernel
theorem dX9_advance_36 : decode cX9_advance 36 = .ok (.getfield 170, 3) := by decide +kernel
theorem dX9_advance_39 : decode cX9_advance 39 = .ok (.putfield 167, 3) := by decide +kernel
theorem dX9_advance_42 : decode cX9_advance 42 = .ok (.aload_n 0, 1) := by decide +kernel
theorem dX9_advance_43 : decode cX9_advance 43 = .ok (.aload_n 0, 1) := by decide +kernel
theorem dX9_advance_44 : decode cX9_advance 44 = .ok (.getfield 170, 3) := by decide +kernel
theorem dX9_advance_47 : decode cX9_advance 47 = .ok (.invokevirtual 173, 3) := by decide +kernel
theorem dX9_advance_50 : decode cX9_advance 50 = .ok (.istore_n 1, 1) := by decide +kernel
theorem dX9_advance_51 : decode cX9_advance 51 = .ok (.aload_n 0, 1) := by decide +kernel
theorem dX9_advance_52 : decode cX9_advance 52 = .ok (.iload_n 1, 1) := by decide +kernel
theorem dX9_advance_53 : decode cX9_advance 53 = .ok (.ifCond .ge 7, 3) := by decide +kernel
theorem dX9_advance_56 : decode cX9_advance 56 = .ok (.iconst 0, 1) := by decide +kernel
theorem dX9_advance_57 : decode cX9_advance 57 = .ok (.goto 26, 3) := by decide +kernel
theorem dX9_advance_60 : decode cX9_advance 60 = .ok (.iload_n 1, 1) := by decide +kernel
theorem dX9_advance_61 : decode cX9_advance 61 = .ok (.invokestatic 176, 3) := by decide +kernel
theorem dX9_advance_64 : decode cX9_advance 64 = .ok (.ifCond .eq 7, 3) := by decide +kernel
theorem dX9_advance_67 : decode cX9_advance 67 = .ok (.iconst 1, 1) := by decide +kernel
theorem dX9_advance_68 : decode cX9_advance 68 = .ok (.goto 15, 3) := by decide +kernel
theorem dX9_advance_71 : decode cX9_advance 71 = .ok (.iload_n 1, 1) := by decide +kernel
theorem dX9_advance_72 : decode cX9_advance 72 = .ok (.invokestatic 179, 3) := by decide +kernel
theorem dX9_advance_75 : decode cX9_advance 75 = .ok (.ifCond .eq 7, 3) := by decide +kernel
theorem dX9_advance_78 : decode cX9_advance 78 = .ok (.iconst 2, 1) := by decide +kernel
theorem dX9_advance_79 : decode cX9_advance 79 = .ok (.goto 4, 3) := by decide +kernel
theorem dX9_advance_82 : decode cX9_advance 82 = .ok (.iconst 3, 1) := by decide +kernel
theorem dX9_advance_83 : decode cX9_advance 83 = .ok (.putfield 182, 3) := by decide +kernel
theorem dX9_advance_86 : decode cX9_advance 86 = .ok (.aload_n 0, 1) := by decide +kernel
theorem dX9_advance_87 : decode cX9_advance 87 = .ok (.lconst 0, 1) := by decide +kernel
theorem dX9_advance_88 : decode cX9_advance 88 = .ok (.putfield 185, 3) := by decide +kernel
theorem dX9_advance_91 : decode cX9_advance 91 = .ok (.aload_n 0, 1) := by decide +kernel
theorem dX9_advance_92 : decode cX9_advance 92 = .ok (.aload_n 0, 1) := by decide +kernel
theorem dX9_advance_93 : decode cX9_advance 93 = .ok (.getfield 182, 3) := by decide +kernel
theorem dX9_advance_96 : decode cX9_advance 96 = .ok (.iconst 2, 1) := by decide +kernel
theorem dX9_advance_97 : decode cX9_advance 97 = .ok (.if_icmp .ne 7, 3) := by decide +kernel
theorem dX9_advance_100 : decode cX9_advance 100 = .ok (.iconst 0, 1) := by decide +kernel
theorem dX9_advance_101 : decode cX9_advance 101 = .ok (.goto 4, 3) := by decide +kernel
theorem dX9_advance_104 : decode cX9_advance 104 = .ok (.iload_n 1, 1) := by decide +kernel
theorem dX9_advance_105 : decode cX9_advance 105 = .ok (.putfield 189, 3) := by decide +kernel
theorem dX9_advance_108 : decode cX9_advance 108 = .ok (.aload_n 0, 1) := by decide +kernel
theorem dX9_advance_109 : decode cX9_advance 109 = .ok (.getfield 182, 3) := by decide +kernel
theorem dX9_advance_112 : decode cX9_advance 112 = .ok (.iconst 3, 1) := by decide +kernel
theorem dX9_advance_113 : decode cX9_advance 113 = .ok (.if_icmp .ne 13, 3) := by decide +kernel
theorem dX9_advance_116 : decode cX9_advance 116 = .ok (.aload_n 0, 1) := by decide +kernel
theorem dX9_advance_117 : decode cX9_advance 117 = .ok (.dup, 1) := by decide +kernel
theorem dX9_advance_118 : decode cX9_advance 118 = .ok (.getfield 167, 3) := by decide +kernel
theorem dX9_advance_121 : decode cX9_advance 121 = .ok (.iconst 1, 1) := by decide +kernel
theorem dX9_advance_122 : decode cX9_advance 122 = .ok (.iadd, 1) := by decide +kernel
theorem dX9_advance_123 : decode cX9_advance 123 = .ok (.putfield 167, 3) := by decide +kernel
theorem dX9_advance_126 : decode cX9_advance 126 = .ok (.aload_n 0, 1) := by decide +kernel
theorem dX9_advance_127 : decode cX9_advance 127 = .ok (.getfield 182, 3) := by decide +kernel
theorem dX9_advance_130 : decode cX9_advance 130 = .ok (.iconst 1, 1) := by decide +kernel
theorem dX9_advance_131 : decode cX9_advance 131 = .ok (.if_icmp .ne 76, 3) := by decide +kernel
theorem dX9_advance_134 : decode cX9_advance 134 = .ok (.aload_n 0, 1) := by decide +kernel
theorem dX9_advance_135 : decode cX9_advance 135 = .ok (.aload_n 0, 1) := by decide +kernel
theorem dX9_advance_136 : decode cX9_advance 136 = .ok (.getfield 167, 3) := by decide +kernel
theorem dX9_advance_139 : decode cX9_advance 139 = .ok (.invokevirtual 173, 3) := by decide +kernel
theorem dX9_advance_142 : decode cX9_advance 142 = .ok (.invokestatic 176, 3) := by decide +kernel
theorem dX9_advance_145 : decode cX9_advance 145 = .ok (.ifCond .eq 62, 3) := by decide +kernel
theorem dX9_advance_148 : decode cX9_advance 148 = .ok (.aload_n 0, 1) := by decide +kernel
theorem dX9_advance_149 : decode cX9_advance 149 = .ok (.aload_n 0, 1) := by decide +kernel
theorem dX9_advance_150 : decode cX9_advance 150 = .ok (.getfield 167, 3) := by decide +kernel
theorem dX9_advance_153 : decode cX9_advance 153 = .ok (.aload_n 0, 1) := by decide +kernel
theorem dX9_advance_154 : decode cX9_advance 154 = .ok (.getfield 170, 3) := by decide +kernel
theorem dX9_advance_157 : decode cX9_advance 157 = .ok (.isub, 1) := by decide +kernel
theorem dX9_advance_158 : decode cX9_advance 158 = .ok (.bipush 12, 2) := by decide +kernel
theorem dX9_advance_160 : decode cX9_advance 160 = .ok (.if_icmp .ge 28, 3) := by decide +kernel
theorem dX9_advance_163 : decode cX9_advance 163 = .ok (.ldc2_w 192, 3) := by decide +kernel
theorem dX9_advance_166 : decode cX9_advance 166 = .ok (.aload_n 0, 1) := by decide +kernel
theorem dX9_advance_167 : decode cX9_advance 167 = .ok (.getfield 185, 3) := by decide +kernel
theorem dX9_advance_170 : decode cX9_advance 170 = .ok (.lmul, 1) := by decide +kernel
theorem dX9_advance_171 : decode cX9_advance 171 = .ok (.aload_n 0, 1) := by decide +kernel
theorem dX9_advance_172 : decode cX9_advance 172 = .ok (.aload_n 0, 1) := by decide +kernel
theorem dX9_advance_173 : decode cX9_advance 173 = .ok (.getfield 167, 3) := by decide +kernel
theorem dX9_advance_176 : decode cX9_advance 176 = .ok (.invokevirtual 173, 3) := by decide +kernel
theorem dX9_advance_179 : decode cX9_advance 179 = .ok (.i2l, 1) := by decide +kernel
theorem dX9_advance_180 : decode cX9_advance 180 = .ok (.ladd, 1) := by decide +kernel
theorem dX9_advance_181 : decode cX9_advance 181 = .ok (.ldc2_w 194, 3) := by decide +kernel
theorem dX9_advance_184 : decode cX9_advance 184 = .ok (.lsub, 1) := by decide +kernel
theorem dX9_advance_185 : decode cX9_advance 185 = .ok (.goto 6, 3) := by decide +kernel
theorem dX9_advance_188 : decode cX9_advance 188 = .ok (.ldc2_w 196, 3) := by decide +kernel
theorem dX9_advance_191 : decode cX9_advance 191 = .ok (.putfield 185, 3) := by decide +kernel
theorem dX9_advance_194 : decode cX9_advance 194 = .ok (.aload_n 0, 1) := by decide +kernel
theorem dX9_advance_195 : decode cX9_advance 195 = .ok (.dup, 1) := by decide +kernel
theorem dX9_advance_196 : decode cX9_advance 196 = .ok (.getfield 167, 3) := by decide +kernel
theorem dX9_advance_199 : decode cX9_advance 199 = .ok (.iconst 1, 1) := by decide +kernel
theorem dX9_advance_200 : decode cX9_advance 200 = .ok (.iadd, 1) := by decide +kernel
theorem dX9_advance_201 : decode cX9_advance 201 = .ok (.putfield 167, 3) := by decide +kernel
theorem dX9_advance_204 : decode cX9_advance 204 = .ok (.goto (-78), 3) := by decide +kernel
theorem dX9_advance_207 : decode cX9_advance 207 = .ok (.aload_n 0, 1) := by decide +kernel
theorem dX9_advance_208 : decode cX9_advance 208 = .ok (.getfield 182, 3) := by decide +kernel
theorem dX9_advance_211 : decode cX9_advance 211 = .ok (.iconst 2, 1) := by decide +kernel
theorem dX9_advance_212 : decode cX9_advance 212 = .ok (.if_icmp .ne 68, 3) := by decide +kernel
theorem dX9_advance_215 : decode cX9_advance 215 = .ok (.aload_n 0, 1) := by decide +kernel
theorem dX9_advance_216 : decode cX9_advance 216 = .ok (.aload_n 0, 1) := by decide +kernel
theorem dX9_advance_217 : decode cX9_advance 217 = .ok (.getfield 167, 3) := by decide +kernel
theorem dX9_advance_220 : decode cX9_advance 220 = .ok (.invokevirtual 173, 3) := by decide +kernel
theorem dX9_advance_223 : decode cX9_advance 223 = .ok (.invokestatic 179, 3) := by decide +kernel
theorem dX9_advance_226 : decode cX9_advance 226 = .ok (.ifCond .eq 54, 3) := by decide +kernel
theorem dX9_advance_229 : decode cX9_advance 229 = .ok (.aload_n 0, 1) := by decide +kernel
theorem dX9_advance_230 : decode cX9_advance 230 = .ok (.aload_n 0, 1) := by decide +kernel
theorem dX9_advance_231 : decode cX9_advance 231 = .ok (.getfield 189, 3) := by decide +kernel
theorem dX9_advance_234 : decode cX9_advance 234 = .ok (.sipush 9999, 3) := by decide +kernel
theorem dX9_advance_237 : decode cX9_advance 237 = .ok (.if_icmp .le 8, 3) := by decide +kernel
theorem dX9_advance_240 : decode cX9_advance 240 = .ok (.ldc 198, 2) := by decide +kernel
theorem dX9_advance_242 : decode cX9_advance 242 = .ok (.goto 22, 3) := by decide +kernel
theorem dX9_advance_245 : decode cX9_advance 245 = .ok (.bipush 10, 2) := by decide +kernel
theorem dX9_advance_247 : decode cX9_advance 247 = .ok (.aload_n 0, 1) := by decide +kernel
theorem dX9_advance_248 : decode cX9_advance 248 = .ok (.getfield 189, 3) := by decide +kernel
theorem dX9_advance_251 : decode cX9_advance 251 = .ok (.imul, 1) := by decide +kernel
theorem dX9_advance_252 : decode cX9_advance 252 = .ok (.aload_n 0, 1) := by decide +kernel
theorem dX9_advance_253 : decode cX9_advance 253 = .ok (.aload_n 0, 1) := by decide +kernel
theorem dX9_advance_254 : decode cX9_advance 254 = .ok (.getfield 167, 3) := by decide +kernel
theorem dX9_advance_257 : decode cX9_advance 257 = .ok (.invokevirtual 173, 3) := by decide +kernel
theorem dX9_advance_260 : decode cX9_advance 260 = .ok (.iadd, 1) := by decide +kernel
theorem dX9_advance_261 : decode cX9_advance 261 = .ok (.bipush 48, 2) := by decide +kernel
theorem dX9_advance_263 : decode cX9_advance 263 = .ok (.isub, 1) := by decide +kernel
theorem dX9_advance_264 : decode cX9_advance 264 = .ok (.putfield 189, 3) := by decide +kernel
theorem dX9_advance_267 : decode cX9_advance 267 = .ok (.aload_n 0, 1) := by decide +kernel
theorem dX9_advance_268 : decode cX9_advance 268 = .ok (.dup, 1) := by decide +kernel
theorem dX9_advance_269 : decode cX9_advance 269 = .ok (.getfield 167, 3) := by decide +kernel
theorem dX9_advance_272 : decode cX9_advance 272 = .ok (.iconst 1, 1) := by decide +kernel
theorem dX9_advance_273 : decode cX9_advance 273 = .ok (.iadd, 1) := by decide +kernel
theorem dX9_advance_274 : decode cX9_advance 274 = .ok (.putfield 167, 3) := by decide +kernel
theorem dX9_advance_277 : decode cX9_advance 277 = .ok (.goto (-70), 3) := by decide +kernel
theorem dX9_advance_280 : decode cX9_advance 280 = .ok (.return_, 1) := by decide +kernel
theorem dX9_isWord_0 : decode cX9_isWord 0 = .ok (.aload_n 0, 1) := by decide +kernel
theorem dX9_isWord_1 : decode cX9_isWord 1 = .ok (.getfield 182, 3) := by decide +kernel
theorem dX9_isWord_4 : decode cX9_isWord 4 = .ok (.iconst 1, 1) := by decide +kernel
theorem dX9_isWord_5 : decode cX9_isWord 5 = .ok (.if_icmp .ne 16, 3) := by decide +kernel
theorem dX9_isWord_8 : decode cX9_isWord 8 = .ok (.aload_n 0, 1) := by decide +kernel
theorem dX9_isWord_9 : decode cX9_isWord 9 = .ok (.getfield 185, 3) := by decide +kernel
theorem dX9_isWord_12 : decode cX9_isWord 12 = .ok (.lload_n 1, 1) := by decide +kernel
theorem dX9_isWord_13 : decode cX9_isWord 13 = .ok (.lcmp, 1) := by decide +kernel
theorem dX9_isWord_14 : decode cX9_isWord 14 = .ok (.ifCond .ne 7, 3) := by decide +kernel
theorem dX9_isWord_17 : decode cX9_isWord 17 = .ok (.iconst 1, 1) := by decide +kernel
theorem dX9_isWord_18 : decode cX9_isWord 18 = .ok (.goto 4, 3) := by decide +kernel
theorem dX9_isWord_21 : decode cX9_isWord 21 = .ok (.iconst 0, 1) := by decide +kernel
theorem dX9_isWord_22 : decode cX9_isWord 22 = .ok (.ireturn, 1) := by decide +kernel
set_option maxRecDepth 20000 in
theorem ggX9_kindHere_X9_isWord : GoodIn wsX9_kindHere wsX9_isWord := goodIn_r _ [11, 12, 13, 14, 15, 16, 17, 18, 19, 20, 21, 22, 23, 24, 25, 26, 27, 28, 29, 30, 31, 32, 33] (by decide +kernel) (by decide +kernel)
set_option maxRecDepth 20000 in
theorem gX9_kindHere_X9_isWord : GoodIn wsX9_kindHere (wsV RX9 201 RX9 yX9_isWord wsX9_isWord) := goodIn_app (goodIn_of _ (by decide +kernel)) ggX9_kindHere_X9_isWord
theorem dX9_kindHere_0 : decode cX9_kindHere 0 = .ok (.aload_n 0, 1) := by decide +kernel
theorem dX9_kindHere_1 : decode cX9_kindHere 1 = .ok (.ldc2_w 199, 3) := by decide +kernel
theorem dX9_kindHere_4 : decode cX9_kindHere 4 = .ok (.invokevirtual 201, 3) := by decide +kernel
theorem dX9_kindHere_7 : decode cX9_kindHere 7 = .ok (.ifCond .eq 7, 3) := by decide +kernel
theorem dX9_kindHere_10 : decode cX9_kindHere 10 = .ok (.iconst 0, 1) := by decide +kernel
theorem dX9_kindHere_11 : decode cX9_kindHere 11 = .ok (.goto 74, 3) := by decide +kernel
theorem dX9_kindHere_14 : decode cX9_kindHere 14 = .ok (.aload_n 0, 1) := by decide +kernel
theorem dX9_kindHere_15 : decode cX9_kindHere 15 = .ok (.ldc2_w 205, 3) := by decide +kernel
theorem dX9_kindHere_18 : decode cX9_kindHere 18 = .ok (.invokevirtual 201, 3) := by decide +kernel
theorem dX9_kindHere_21 : decode cX9_kindHere 21 = .ok (.ifCond .eq 7, 3) := by decide +kernel
theorem dX9_kindHere_24 : decode cX9_kindHere 24 = .ok (.iconst 1, 1) := by decide +kernel
theorem dX9_kindHere_25 : decode cX9_kindHere 25 = .ok (.goto 60, 3) := by decide +kernel
theorem dX9_kindHere_28 : decode cX9_kindHere 28 = .ok (.aload_n 0, 1) := by decide +kernel
theorem dX9_kindHere_29 : decode cX9_kindHere 29 = .ok (.ldc2_w 207, 3) := by decide +kernel
theorem dX9_kindHere_32 : decode cX9_kindHere 32 = .ok (.invokevirtual 201, 3) := by decide +kernel
theorem dX9_kindHere_35 : decode cX9_kindHere 35 = .ok (.ifCond .eq 7, 3) := by decide +kernel
theorem dX9_kindHere_38 : decode cX9_kindHere 38 = .ok (.iconst 2, 1) := by decide +kernel
theorem dX9_kindHere_39 : decode cX9_kindHere 39 = .ok (.goto 46, 3) := by decide +kernel
theorem dX9_kindHere_42 : decode cX9_kindHere 42 = .ok (.aload_n 0, 1) := by decide +kernel
theorem dX9_kindHere_43 : decode cX9_kindHere 43 = .ok (.ldc2_w 209, 3) := by decide +kernel
theorem dX9_kindHere_46 : decode cX9_kindHere 46 = .ok (.invokevirtual 201, 3) := by decide +kernel
theorem dX9_kindHere_49 : decode cX9_kindHere 49 = .ok (.ifCond .eq 7, 3) := by decide +kernel
theorem dX9_kindHere_52 : decode cX9_kindHere 52 = .ok (.iconst 3, 1) := by decide +kernel
theorem dX9_kindHere_53 : decode cX9_kindHere 53 = .ok (.goto 32, 3) := by decide +kernel
theorem dX9_kindHere_56 : decode cX9_kindHere 56 = .ok (.aload_n 0, 1) := by decide +kernel
theorem dX9_kindHere_57 : decode cX9_kindHere 57 = .ok (.ldc2_w 211, 3) := by decide +kernel
theorem dX9_kindHere_60 : decode cX9_kindHere 60 = .ok (.invokevirtual 201, 3) := by decide +kernel
theorem dX9_kindHere_63 : decode cX9_kindHere 63 = .ok (.ifCond .eq 7, 3) := by decide +kernel
theorem dX9_kindHere_66 : decode cX9_kindHere 66 = .ok (.iconst 4, 1) := by decide +kernel
theorem dX9_kindHere_67 : decode cX9_kindHere 67 = .ok (.goto 18, 3) := by decide +kernel
theorem dX9_kindHere_70 : decode cX9_kindHere 70 = .ok (.aload_n 0, 1) := by decide +kernel
theorem dX9_kindHere_71 : decode cX9_kindHere 71 = .ok (.ldc2_w 213, 3) := by decide +kernel
theorem dX9_kindHere_74 : decode cX9_kindHere 74 = .ok (.invokevirtual 201, 3) := by decide +kernel
theorem dX9_kindHere_77 : decode cX9_kindHere 77 = .ok (.ifCond .eq 7, 3) := by decide +kernel
theorem dX9_kindHere_80 : decode cX9_kindHere 80 = .ok (.iconst 5, 1) := by decide +kernel
theorem dX9_kindHere_81 : decode cX9_kindHere 81 = .ok (.goto 4, 3) := by decide +kernel
theorem dX9_kindHere_84 : decode cX9_kindHere 84 = .ok (.iconst (-1), 1) := by decide +kernel
theorem dX9_kindHere_85 : decode cX9_kindHere 85 = .ok (.ireturn, 1) := by decide +kernel
set_option maxRecDepth 20000 in
theorem ggX9_wantNumber_X9_in : GoodIn wsX9_wantNumber wsX9_in := goodIn_r _ [7] (by decide +kernel) (by decide +kernel)
set_option maxRecDepth 20000 in
theorem gX9_wantNumber_X9_in : GoodIn wsX9_wantNumber (va_wsS RX9 49 yX9_in wsX9_in) := goodIn_app (goodIn_of _ (by decide +kernel)) ggX9_wantNumber_X9_in
set_option maxRecDepth 20000 in
theorem ggX9_wantNumber_X9_advance : GoodIn wsX9_wantNumber wsX9_advance := goodIn_r _ [11, 12, 13, 3, 14, 1, 15, 16, 17, 18, 19, 20, 21, 6, 22, 23, 24, 25, 26, 27, 4, 5, 7, 28, 29, 30, 31, 32, 33, 34, 35, 36, 37, 38, 39, 40, 41, 42, 43, 44, 45, 46, 47, 48, 49, 50] (by decide +kernel) (by decide +kernel)
set_option maxRecDepth 20000 in
theorem gX9_wantNumber_X9_advance : GoodIn wsX9_wantNumber (wsV RX9 219 RX9 yX9_advance wsX9_advance) := goodIn_app (goodIn_of _ (by decide +kernel)) ggX9_wantNumber_X9_advance
theorem dX9_wantNumber_0 : decode cX9_wantNumber 0 = .ok (.aload_n 0, 1) := by decide +kernel
theorem dX9_wantNumber_1 : decode cX9_wantNumber 1 = .ok (.getfield 189, 3) := by decide +kernel
theorem dX9_wantNumber_4 : decode cX9_wantNumber 4 = .ok (.istore_n 3, 1) := by decide +kernel
theorem dX9_wantNumber_5 : decode cX9_wantNumber 5 = .ok (.aload_n 0, 1) := by decide +kernel
theorem dX9_wantNumber_6 : decode cX9_wantNumber 6 = .ok (.aload_n 0, 1) := by decide +kernel
theorem dX9_wantNumber_7 : decode cX9_wantNumber 7 = .ok (.getfield 215, 3) := by decide +kernel
theorem dX9_wantNumber_10 : decode cX9_wantNumber 10 = .ok (.ifCond .eq 24, 3) := by decide +kernel
theorem dX9_wantNumber_13 : decode cX9_wantNumber 13 = .ok (.aload_n 0, 1) := by decide +kernel
theorem dX9_wantNumber_14 : decode cX9_wantNumber 14 = .ok (.getfield 182, 3) := by decide +kernel
theorem dX9_wantNumber_17 : decode cX9_wantNumber 17 = .ok (.iconst 2, 1) := by decide +kernel
theorem dX9_wantNumber_18 : decode cX9_wantNumber 18 = .ok (.if_icmp .ne 16, 3) := by decide +kernel
theorem dX9_wantNumber_21 : decode cX9_wantNumber 21 = .ok (.iload_n 3, 1) := by decide +kernel
theorem dX9_wantNumber_22 : decode cX9_wantNumber 22 = .ok (.iload_n 1, 1) := by decide +kernel
theorem dX9_wantNumber_23 : decode cX9_wantNumber 23 = .ok (.iload_n 2, 1) := by decide +kernel
theorem dX9_wantNumber_24 : decode cX9_wantNumber 24 = .ok (.invokestatic 49, 3) := by decide +kernel
theorem dX9_wantNumber_27 : decode cX9_wantNumber 27 = .ok (.ifCond .eq 7, 3) := by decide +kernel
theorem dX9_wantNumber_30 : decode cX9_wantNumber 30 = .ok (.iconst 1, 1) := by decide +kernel
theorem dX9_wantNumber_31 : decode cX9_wantNumber 31 = .ok (.goto 4, 3) := by decide +kernel
theorem dX9_wantNumber_34 : decode cX9_wantNumber 34 = .ok (.iconst 0, 1) := by decide +kernel
theorem dX9_wantNumber_35 : decode cX9_wantNumber 35 = .ok (.putfield 215, 3) := by decide +kernel
theorem dX9_wantNumber_38 : decode cX9_wantNumber 38 = .ok (.aload_n 0, 1) := by decide +kernel
theorem dX9_wantNumber_39 : decode cX9_wantNumber 39 = .ok (.getfield 215, 3) := by decide +kernel
theorem dX9_wantNumber_42 : decode cX9_wantNumber 42 = .ok (.ifCond .eq 7, 3) := by decide +kernel
theorem dX9_wantNumber_45 : decode cX9_wantNumber 45 = .ok (.aload_n 0, 1) := by decide +kernel
theorem dX9_wantNumber_46 : decode cX9_wantNumber 46 = .ok (.invokevirtual 219, 3) := by decide +kernel
theorem dX9_wantNumber_49 : decode cX9_wantNumber 49 = .ok (.iload_n 3, 1) := by decide +kernel
theorem dX9_wantNumber_50 : decode cX9_wantNumber 50 = .ok (.ireturn, 1) := by decide +kernel
set_option maxRecDepth 20000 in
theorem ggX9_mayWant_X9_isWord : GoodIn wsX9_mayWant wsX9_isWord := goodIn_r _ [6, 7, 8, 39, 40, 41, 42, 43, 44, 45, 46, 47, 48, 49, 50, 51, 52, 53, 54, 55, 56, 57, 58] (by decide +kernel) (by decide +kernel)
set_option maxRecDepth 20000 in
theorem gX9_mayWant_X9_isWord : GoodIn wsX9_mayWant (wsV RX9 201 RX9 yX9_isWord wsX9_isWord) := goodIn_app (goodIn_of _ (by decide +kernel)) ggX9_mayWant_X9_isWord
set_option maxRecDepth 20000 in
theorem ggX9_mayWant_X9_advance : GoodIn wsX9_mayWant wsX9_advance := goodIn_r _ [12, 13, 14, 7, 8, 15, 16, 17, 18, 19, 20, 21, 22, 5, 23, 24, 25, 26, 27, 28, 29, 30, 31, 32, 33, 34, 39, 40, 41, 42, 43, 44, 45, 46, 47, 48, 49, 50, 51, 52, 53, 54, 55, 56, 57, 58] (by decide +kernel) (by decide +kernel)
set_option maxRecDepth 20000 in
theorem gX9_mayWant_X9_advance : GoodIn wsX9_mayWant (wsV RX9 219 RX9 yX9_advance wsX9_advance) := goodIn_app (goodIn_of _ (by decide +kernel)) ggX9_mayWant_X9_advance
set_option maxRecDepth 20000 in
theorem ggX9_mayWant_X9_wantNumber : GoodIn wsX9_mayWant wsX9_wantNumber := goodIn_r _ [38, 15, 1, 7, 29, 30, 5, 31, 9, 10, 11, 12, 13, 14, 8, 16, 17, 18, 19, 20, 21, 22, 23, 24, 25, 26, 27, 28, 32, 33, 34, 39, 40, 41, 42, 43, 44, 45, 46, 47, 48, 49, 50, 51, 52, 53, 54, 55, 56, 57, 58] (by decide +kernel) (by decide +kernel)
set_option maxRecDepth 20000 in
theorem gX9_mayWant_X9_wantNumber : GoodIn wsX9_mayWant (wsV RX9 222 RX9 yX9_wantNumber wsX9_wantNumber) := goodIn_app (goodIn_of _ (by decide +kernel)) ggX9_mayWant_X9_wantNumber
theorem dX9_mayWant_0 : decode cX9_mayWant 0 = .ok (.aload_n 0, 1) := by decide +kernel
theorem dX9_mayWant_1 : decode cX9_mayWant 1 = .ok (.getfield 215, 3) := by decide +kernel
theorem dX9_mayWant_4 : decode cX9_mayWant 4 = .ok (.ifCond .eq 11, 3) := by decide +kernel
theorem dX9_mayWant_7 : decode cX9_mayWant 7 = .ok (.aload_n 0, 1) := by decide +kernel
theorem dX9_mayWant_8 : decode cX9_mayWant 8 = .ok (.lload_n 1, 1) := by decide +kernel
theorem dX9_mayWant_9 : decode cX9_mayWant 9 = .ok (.invokevirtual 201, 3) := by decide +kernel
theorem dX9_mayWant_12 : decode cX9_mayWant 12 = .ok (.ifCond .ne 6, 3) := by decide +kernel
theorem dX9_mayWant_15 : decode cX9_mayWant 15 = .ok (.iload 5, 2) := by decide +kernel
theorem dX9_mayWant_17 : decode cX9_mayWant 17 = .ok (.ireturn, 1) := by decide +kernel
theorem dX9_mayWant_18 : decode cX9_mayWant 18 = .ok (.aload_n 0, 1) := by decide +kernel
theorem dX9_mayWant_19 : decode cX9_mayWant 19 = .ok (.invokevirtual 219, 3) := by decide +kernel
theorem dX9_mayWant_22 : decode cX9_mayWant 22 = .ok (.aload_n 0, 1) := by decide +kernel
theorem dX9_mayWant_23 : decode cX9_mayWant 23 = .ok (.iload_n 3, 1) := by decide +kernel
theorem dX9_mayWant_24 : decode cX9_mayWant 24 = .ok (.iload 4, 2) := by decide +kernel
theorem dX9_mayWant_26 : decode cX9_mayWant 26 = .ok (.invokevirtual 222, 3) := by decide +kernel
theorem dX9_mayWant_29 : decode cX9_mayWant 29 = .ok (.ireturn, 1) := by decide +kernel
set_option maxRecDepth 20000 in
theorem ggX9_wantWord_X9_isWord : GoodIn wsX9_wantWord wsX9_isWord := goodIn_r _ [6, 7, 8, 35, 36, 37, 38, 39, 40, 41, 42, 43, 44, 45, 46, 47, 48, 49, 50, 51, 52, 53, 54] (by decide +kernel) (by decide +kernel)
set_option maxRecDepth 20000 in
theorem gX9_wantWord_X9_isWord : GoodIn wsX9_wantWord (wsV RX9 201 RX9 yX9_isWord wsX9_isWord) := goodIn_app (goodIn_of _ (by decide +kernel)) ggX9_wantWord_X9_isWord
set_option maxRecDepth 20000 in
theorem ggX9_wantWord_X9_advance : GoodIn wsX9_wantWord wsX9_advance := goodIn_r _ [12, 13, 14, 7, 8, 15, 16, 17, 18, 19, 20, 21, 22, 5, 23, 24, 25, 26, 27, 28, 29, 30, 31, 32, 33, 34, 35, 36, 37, 38, 39, 40, 41, 42, 43, 44, 45, 46, 47, 48, 49, 50, 51, 52, 53, 54] (by decide +kernel) (by decide +kernel)
set_option maxRecDepth 20000 in
theorem gX9_wantWord_X9_advance : GoodIn wsX9_wantWord (wsV RX9 219 RX9 yX9_advance wsX9_advance) := goodIn_app (goodIn_of _ (by decide +kernel)) ggX9_wantWord_X9_advance
theorem dX9_wantWord_0 : decode cX9_wantWord 0 = .ok (.aload_n 0, 1) := by decide +kernel
theorem dX9_wantWord_1 : decode cX9_wantWord 1 = .ok (.aload_n 0, 1) := by decide +kernel
theorem dX9_wantWord_2 : decode cX9_wantWord 2 = .ok (.getfield 215, 3) := by decide +kernel
theorem dX9_wantWord_5 : decode cX9_wantWord 5 = .ok (.ifCond .eq 15, 3) := by decide +kernel
theorem dX9_wantWord_8 : decode cX9_wantWord 8 = .ok (.aload_n 0, 1) := by decide +kernel
theorem dX9_wantWord_9 : decode cX9_wantWord 9 = .ok (.lload_n 1, 1) := by decide +kernel
theorem dX9_wantWord_10 : decode cX9_wantWord 10 = .ok (.invokevirtual 201, 3) := by decide +kernel
theorem dX9_wantWord_13 : decode cX9_wantWord 13 = .ok (.ifCond .eq 7, 3) := by decide +kernel
theorem dX9_wantWord_16 : decode cX9_wantWord 16 = .ok (.iconst 1, 1) := by decide +kernel
theorem dX9_wantWord_17 : decode cX9_wantWord 17 = .ok (.goto 4, 3) := by decide +kernel
theorem dX9_wantWord_20 : decode cX9_wantWord 20 = .ok (.iconst 0, 1) := by decide +kernel
theorem dX9_wantWord_21 : decode cX9_wantWord 21 = .ok (.putfield 215, 3) := by decide +kernel
theorem dX9_wantWord_24 : decode cX9_wantWord 24 = .ok (.aload_n 0, 1) := by decide +kernel
theorem dX9_wantWord_25 : decode cX9_wantWord 25 = .ok (.getfield 215, 3) := by decide +kernel
theorem dX9_wantWord_28 : decode cX9_wantWord 28 = .ok (.ifCond .eq 7, 3) := by decide +kernel
theorem dX9_wantWord_31 : decode cX9_wantWord 31 = .ok (.aload_n 0, 1) := by decide +kernel
theorem dX9_wantWord_32 : decode cX9_wantWord 32 = .ok (.invokevirtual 219, 3) := by decide +kernel
theorem dX9_wantWord_35 : decode cX9_wantWord 35 = .ok (.return_, 1) := by decide +kernel
set_option maxRecDepth 20000 in
theorem ggX9_mayBe_X9_isWord : GoodIn wsX9_mayBe wsX9_isWord := goodIn_r _ [6, 7, 8, 35, 36, 37, 38, 39, 40, 41, 42, 43, 44, 45, 46, 47, 48, 49, 50, 51, 52, 53, 54] (by decide +kernel) (by decide +kernel)
set_option maxRecDepth 20000 in
theorem gX9_mayBe_X9_isWord : GoodIn wsX9_mayBe (wsV RX9 201 RX9 yX9_isWord wsX9_isWord) := goodIn_app (goodIn_of _ (by decide +kernel)) ggX9_mayBe_X9_isWord
set_option maxRecDepth 20000 in
theorem ggX9_mayBe_X9_advance : GoodIn wsX9_mayBe wsX9_advance := goodIn_r _ [12, 13, 14, 7, 8, 15, 16, 17, 18, 19, 20, 21, 22, 5, 23, 24, 25, 26, 27, 28, 29, 30, 31, 32, 33, 34, 35, 36, 37, 38, 39, 40, 41, 42, 43, 44, 45, 46, 47, 48, 49, 50, 51, 52, 53, 54] (by decide +kernel) (by decide +kernel)
set_option maxRecDepth 20000 in
theorem gX9_mayBe_X9_advance : GoodIn wsX9_mayBe (wsV RX9 219 RX9 yX9_advance wsX9_advance) := goodIn_app (goodIn_of _ (by decide +kernel)) ggX9_mayBe_X9_advance
theorem dX9_mayBe_0 : decode cX9_mayBe 0 = .ok (.aload_n 0, 1) := by decide +kernel
theorem dX9_mayBe_1 : decode cX9_mayBe 1 = .ok (.getfield 215, 3) := by decide +kernel
theorem dX9_mayBe_4 : decode cX9_mayBe 4 = .ok (.ifCond .eq 19, 3) := by decide +kernel
theorem dX9_mayBe_7 : decode cX9_mayBe 7 = .ok (.aload_n 0, 1) := by decide +kernel
theorem dX9_mayBe_8 : decode cX9_mayBe 8 = .ok (.lload_n 1, 1) := by decide +kernel
theorem dX9_mayBe_9 : decode cX9_mayBe 9 = .ok (.invokevirtual 201, 3) := by decide +kernel
theorem dX9_mayBe_12 : decode cX9_mayBe 12 = .ok (.ifCond .ne 14, 3) := by decide +kernel
theorem dX9_mayBe_15 : decode cX9_mayBe 15 = .ok (.aload_n 0, 1) := by decide +kernel
theorem dX9_mayBe_16 : decode cX9_mayBe 16 = .ok (.lload_n 3, 1) := by decide +kernel
theorem dX9_mayBe_17 : decode cX9_mayBe 17 = .ok (.invokevirtual 201, 3) := by decide +kernel
theorem dX9_mayBe_20 : decode cX9_mayBe 20 = .ok (.ifCond .ne 6, 3) := by decide +kernel
theorem dX9_mayBe_23 : decode cX9_mayBe 23 = .ok (.iload 5, 2) := by decide +kernel
theorem dX9_mayBe_25 : decode cX9_mayBe 25 = .ok (.ireturn, 1) := by decide +kernel
theorem dX9_mayBe_26 : decode cX9_mayBe 26 = .ok (.aload_n 0, 1) := by decide +kernel
theorem dX9_mayBe_27 : decode cX9_mayBe 27 = .ok (.lload_n 1, 1) := by decide +kernel
theorem dX9_mayBe_28 : decode cX9_mayBe 28 = .ok (.invokevirtual 201, 3) := by decide +kernel
theorem dX9_mayBe_31 : decode cX9_mayBe 31 = .ok (.ifCond .eq 7, 3) := by decide +kernel
theorem dX9_mayBe_34 : decode cX9_mayBe 34 = .ok (.iconst 0, 1) := by decide +kernel
theorem dX9_mayBe_35 : decode cX9_mayBe 35 = .ok (.goto 4, 3) := by decide +kernel
theorem dX9_mayBe_38 : decode cX9_mayBe 38 = .ok (.iconst 1, 1) := by decide +kernel
theorem dX9_mayBe_39 : decode cX9_mayBe 39 = .ok (.istore 6, 2) := by decide +kernel
theorem dX9_mayBe_41 : decode cX9_mayBe 41 = .ok (.aload_n 0, 1) := by decide +kernel
theorem dX9_mayBe_42 : decode cX9_mayBe 42 = .ok (.invokevirtual 219, 3) := by decide +kernel
theorem dX9_mayBe_45 : decode cX9_mayBe 45 = .ok (.iload 6, 2) := by decide +kernel
theorem dX9_mayBe_47 : decode cX9_mayBe 47 = .ok (.ireturn, 1) := by decide +kernel
set_option maxRecDepth 20000 in
theorem ggX9_wantCandle_X9_advance : GoodIn wsX9_wantCandle wsX9_advance := goodIn_r _ [7, 8, 9, 10, 11, 12, 13, 14, 15, 16, 17, 18, 19, 6, 20, 21, 22, 23, 24, 25, 26, 27, 28, 29, 30, 31, 39, 40, 41, 42, 43, 44, 45, 46, 47, 48, 49, 50, 51, 52, 53, 54, 55, 56, 57, 58] (by decide +kernel) (by decide +kernel)
set_option maxRecDepth 20000 in
theorem gX9_wantCandle_X9_advance : GoodIn wsX9_wantCandle (wsV RX9 219 RX9 yX9_advance wsX9_advance) := goodIn_app (goodIn_of _ (by decide +kernel)) ggX9_wantCandle_X9_advance
set_option maxRecDepth 20000 in
theorem ggX9_wantCandle_X9_addCandle : GoodIn wsX9_wantCandle wsX9_addCandle := goodIn_r _ [35, 1, 36, 37, 6, 38, 39, 40, 41, 42, 43, 44, 45, 46, 47, 48, 49, 50, 51, 52, 53, 54, 55, 56, 57, 58] (by decide +kernel) (by decide +kernel)
set_option maxRecDepth 20000 in
theorem gX9_wantCandle_X9_addCandle : GoodIn wsX9_wantCandle (wsV RX9 77 RX9 yX9_addCandle wsX9_addCandle) := goodIn_app (goodIn_of _ (by decide +kernel)) ggX9_wantCandle_X9_addCandle
theorem dX9_wantCandle_0 : decode cX9_wantCandle 0 = .ok (.aload_n 0, 1) := by decide +kernel
theorem dX9_wantCandle_1 : decode cX9_wantCandle 1 = .ok (.aload_n 0, 1) := by decide +kernel
theorem dX9_wantCandle_2 : decode cX9_wantCandle 2 = .ok (.getfield 7, 3) := by decide +kernel
theorem dX9_wantCandle_5 : decode cX9_wantCandle 5 = .ok (.iconst 0, 1) := by decide +kernel
theorem dX9_wantCandle_6 : decode cX9_wantCandle 6 = .ok (.iaload, 1) := by decide +kernel
theorem dX9_wantCandle_7 : decode cX9_wantCandle 7 = .ok (.bipush 10, 2) := by decide +kernel
theorem dX9_wantCandle_9 : decode cX9_wantCandle 9 = .ok (.if_icmp .ge 7, 3) := by decide +kernel
theorem dX9_wantCandle_12 : decode cX9_wantCandle 12 = .ok (.iconst 1, 1) := by decide +kernel
theorem dX9_wantCandle_13 : decode cX9_wantCandle 13 = .ok (.goto 4, 3) := by decide +kernel
theorem dX9_wantCandle_16 : decode cX9_wantCandle 16 = .ok (.iconst 0, 1) := by decide +kernel
theorem dX9_wantCandle_17 : decode cX9_wantCandle 17 = .ok (.putfield 215, 3) := by decide +kernel
theorem dX9_wantCandle_20 : decode cX9_wantCandle 20 = .ok (.aload_n 0, 1) := by decide +kernel
theorem dX9_wantCandle_21 : decode cX9_wantCandle 21 = .ok (.getfield 215, 3) := by decide +kernel
theorem dX9_wantCandle_24 : decode cX9_wantCandle 24 = .ok (.ifCond .eq 12, 3) := by decide +kernel
theorem dX9_wantCandle_27 : decode cX9_wantCandle 27 = .ok (.aload_n 0, 1) := by decide +kernel
theorem dX9_wantCandle_28 : decode cX9_wantCandle 28 = .ok (.invokevirtual 219, 3) := by decide +kernel
theorem dX9_wantCandle_31 : decode cX9_wantCandle 31 = .ok (.aload_n 0, 1) := by decide +kernel
theorem dX9_wantCandle_32 : decode cX9_wantCandle 32 = .ok (.iload_n 1, 1) := by decide +kernel
theorem dX9_wantCandle_33 : decode cX9_wantCandle 33 = .ok (.invokevirtual 77, 3) := by decide +kernel
theorem dX9_wantCandle_36 : decode cX9_wantCandle 36 = .ok (.return_, 1) := by decide +kernel
set_option maxRecDepth 20000 in
theorem ggX9_wantVat_X9_advance : GoodIn wsX9_wantVat wsX9_advance := goodIn_r _ [13, 14, 15, 16, 17, 18, 19, 20, 21, 22, 23, 24, 25, 12, 26, 27, 28, 29, 30, 31, 32, 33, 34, 35, 36, 37, 63, 64, 65, 66, 67, 68, 69, 70, 71, 72, 73, 74, 75, 76, 77, 78, 79, 80, 81, 82] (by decide +kernel) (by decide +kernel)
set_option maxRecDepth 20000 in
theorem gX9_wantVat_X9_advance : GoodIn wsX9_wantVat (wsV RX9 219 RX9 yX9_advance wsX9_advance) := goodIn_app (goodIn_of _ (by decide +kernel)) ggX9_wantVat_X9_advance
set_option maxRecDepth 20000 in
theorem ggX9_wantVat_X9_wantNumber : GoodIn wsX9_wantVat wsX9_wantNumber := goodIn_r _ [41, 18, 1, 16, 32, 33, 12, 34, 9, 10, 11, 13, 14, 15, 17, 19, 20, 21, 22, 23, 24, 25, 26, 27, 28, 29, 30, 31, 35, 36, 37, 63, 64, 65, 66, 67, 68, 69, 70, 71, 72, 73, 74, 75, 76, 77, 78, 79, 80, 81, 82] (by decide +kernel) (by decide +kernel)
set_option maxRecDepth 20000 in
theorem gX9_wantVat_X9_wantNumber : GoodIn wsX9_wantVat (wsV RX9 222 RX9 yX9_wantNumber wsX9_wantNumber) := goodIn_app (goodIn_of _ (by decide +kernel)) ggX9_wantVat_X9_wantNumber
set_option maxRecDepth 20000 in
theorem ggX9_wantVat_X9_its : GoodIn wsX9_wantVat wsX9_its := goodIn_r _ [45, 46, 63, 64, 65, 66, 67, 68, 69, 70, 71, 72, 73, 74, 75, 76, 77, 78, 79, 80, 81, 82] (by decide +kernel) (by decide +kernel)
set_option maxRecDepth 20000 in
theorem gX9_wantVat_X9_its : GoodIn wsX9_wantVat (wsV RX9 61 RX9 yX9_its wsX9_its) := goodIn_app (goodIn_of _ (by decide +kernel)) ggX9_wantVat_X9_its
set_option maxRecDepth 20000 in
theorem ggX9_wantVat_X9_mayBe : GoodIn wsX9_wantVat wsX9_mayBe := goodIn_r _ [50, 1, 51, 52, 53, 12, 54, 16, 17, 9, 10, 11, 13, 14, 15, 18, 19, 20, 21, 22, 23, 24, 25, 26, 27, 28, 29, 30, 31, 32, 33, 34, 35, 36, 37, 63, 64, 65, 66, 67, 68, 69, 70, 71, 72, 73, 74, 75, 76, 77, 78, 79, 80, 81, 82] (by decide +kernel) (by decide +kernel)
set_option maxRecDepth 20000 in
theorem gX9_wantVat_X9_mayBe : GoodIn wsX9_wantVat (wsV RX9 229 RX9 yX9_mayBe wsX9_mayBe) := goodIn_app (goodIn_of _ (by decide +kernel)) ggX9_wantVat_X9_mayBe
set_option maxRecDepth 20000 in
theorem ggX9_wantVat_X9_mayWant : GoodIn wsX9_wantVat wsX9_mayWant := goodIn_r _ [58, 1, 51, 52, 53, 12, 54, 16, 17, 9, 10, 11, 13, 14, 15, 18, 19, 20, 21, 22, 23, 24, 25, 26, 27, 28, 29, 30, 31, 32, 33, 34, 35, 36, 37, 38, 39, 40, 41, 63, 64, 65, 66, 67, 68, 69, 70, 71, 72, 73, 74, 75, 76, 77, 78, 79, 80, 81, 82] (by decide +kernel) (by decide +kernel)
set_option maxRecDepth 20000 in
theorem gX9_wantVat_X9_mayWant : GoodIn wsX9_wantVat (wsV RX9 235 RX9 yX9_mayWant wsX9_mayWant) := goodIn_app (goodIn_of _ (by decide +kernel)) ggX9_wantVat_X9_mayWant
set_option maxRecDepth 20000 in
theorem ggX9_wantVat_X9_setVat : GoodIn wsX9_wantVat wsX9_setVat := goodIn_r _ [62, 46, 63, 64, 65, 66, 67, 68, 69, 70, 71, 72, 73, 74, 75, 76, 77, 78, 79, 80, 81, 82] (by decide +kernel) (by decide +kernel)
set_option maxRecDepth 20000 in
theorem gX9_wantVat_X9_setVat : GoodIn wsX9_wantVat (wsV RX9 44 RX9 yX9_setVat wsX9_setVat) := goodIn_app (goodIn_of _ (by decide +kernel)) ggX9_wantVat_X9_setVat
theorem dX9_wantVat_0 : decode cX9_wantVat 0 = .ok (.aload_n 0, 1) := by decide +kernel
theorem dX9_wantVat_1 : decode cX9_wantVat 1 = .ok (.invokevirtual 219, 3) := by decide +kernel
theorem dX9_wantVat_4 : decode cX9_wantVat 4 = .ok (.aload_n 0, 1) := by decide +kernel
theorem dX9_wantVat_5 : decode cX9_wantVat 5 = .ok (.iconst 0, 1) := by decide +kernel
theorem dX9_wantVat_6 : decode cX9_wantVat 6 = .ok (.iconst 3, 1) := by decide +kernel
theorem dX9_wantVat_7 : decode cX9_wantVat 7 = .ok (.invokevirtual 222, 3) := by decide +kernel
theorem dX9_wantVat_10 : decode cX9_wantVat 10 = .ok (.istore_n 1, 1) := by decide +kernel
theorem dX9_wantVat_11 : decode cX9_wantVat 11 = .ok (.aload_n 0, 1) := by decide +kernel
theorem dX9_wantVat_12 : decode cX9_wantVat 12 = .ok (.getfield 215, 3) := by decide +kernel
theorem dX9_wantVat_15 : decode cX9_wantVat 15 = .ok (.ifCond .eq 7, 3) := by decide +kernel
theorem dX9_wantVat_18 : decode cX9_wantVat 18 = .ok (.iload_n 1, 1) := by decide +kernel
theorem dX9_wantVat_19 : decode cX9_wantVat 19 = .ok (.goto 4, 3) := by decide +kernel
theorem dX9_wantVat_22 : decode cX9_wantVat 22 = .ok (.iconst 0, 1) := by decide +kernel
theorem dX9_wantVat_23 : decode cX9_wantVat 23 = .ok (.istore_n 2, 1) := by decide +kernel
theorem dX9_wantVat_24 : decode cX9_wantVat 24 = .ok (.aload_n 0, 1) := by decide +kernel
theorem dX9_wantVat_25 : decode cX9_wantVat 25 = .ok (.ldc2_w 225, 3) := by decide +kernel
theorem dX9_wantVat_28 : decode cX9_wantVat 28 = .ok (.ldc2_w 227, 3) := by decide +kernel
theorem dX9_wantVat_31 : decode cX9_wantVat 31 = .ok (.aload_n 0, 1) := by decide +kernel
theorem dX9_wantVat_32 : decode cX9_wantVat 32 = .ok (.iload_n 2, 1) := by decide +kernel
theorem dX9_wantVat_33 : decode cX9_wantVat 33 = .ok (.iconst 0, 1) := by decide +kernel
theorem dX9_wantVat_34 : decode cX9_wantVat 34 = .ok (.invokevirtual 61, 3) := by decide +kernel
theorem dX9_wantVat_37 : decode cX9_wantVat 37 = .ok (.invokevirtual 229, 3) := by decide +kernel
theorem dX9_wantVat_40 : decode cX9_wantVat 40 = .ok (.istore_n 3, 1) := by decide +kernel
theorem dX9_wantVat_41 : decode cX9_wantVat 41 = .ok (.aload_n 0, 1) := by decide +kernel
theorem dX9_wantVat_42 : decode cX9_wantVat 42 = .ok (.ldc2_w 233, 3) := by decide +kernel
theorem dX9_wantVat_45 : decode cX9_wantVat 45 = .ok (.iconst 0, 1) := by decide +kernel
theorem dX9_wantVat_46 : decode cX9_wantVat 46 = .ok (.bipush 99, 2) := by decide +kernel
theorem dX9_wantVat_48 : decode cX9_wantVat 48 = .ok (.aload_n 0, 1) := by decide +kernel
theorem dX9_wantVat_49 : decode cX9_wantVat 49 = .ok (.iload_n 2, 1) := by decide +kernel
theorem dX9_wantVat_50 : decode cX9_wantVat 50 = .ok (.iconst 1, 1) := by decide +kernel
theorem dX9_wantVat_51 : decode cX9_wantVat 51 = .ok (.invokevirtual 61, 3) := by decide +kernel
theorem dX9_wantVat_54 : decode cX9_wantVat 54 = .ok (.invokevirtual 235, 3) := by decide +kernel
theorem dX9_wantVat_57 : decode cX9_wantVat 57 = .ok (.istore 4, 2) := by decide +kernel
theorem dX9_wantVat_59 : decode cX9_wantVat 59 = .ok (.aload_n 0, 1) := by decide +kernel
theorem dX9_wantVat_60 : decode cX9_wantVat 60 = .ok (.ldc2_w 239, 3) := by decide +kernel
theorem dX9_wantVat_63 : decode cX9_wantVat 63 = .ok (.iconst 0, 1) := by decide +kernel
theorem dX9_wantVat_64 : decode cX9_wantVat 64 = .ok (.ldc 68, 2) := by decide +kernel
theorem dX9_wantVat_66 : decode cX9_wantVat 66 = .ok (.aload_n 0, 1) := by decide +kernel
theorem dX9_wantVat_67 : decode cX9_wantVat 67 = .ok (.iload_n 2, 1) := by decide +kernel
theorem dX9_wantVat_68 : decode cX9_wantVat 68 = .ok (.iconst 2, 1) := by decide +kernel
theorem dX9_wantVat_69 : decode cX9_wantVat 69 = .ok (.invokevirtual 61, 3) := by decide +kernel
theorem dX9_wantVat_72 : decode cX9_wantVat 72 = .ok (.invokevirtual 235, 3) := by decide +kernel
theorem dX9_wantVat_75 : decode cX9_wantVat 75 = .ok (.istore 5, 2) := by decide +kernel
theorem dX9_wantVat_77 : decode cX9_wantVat 77 = .ok (.aload_n 0, 1) := by decide +kernel
theorem dX9_wantVat_78 : decode cX9_wantVat 78 = .ok (.ldc2_w 241, 3) := by decide +kernel
theorem dX9_wantVat_81 : decode cX9_wantVat 81 = .ok (.ldc2_w 243, 3) := by decide +kernel
theorem dX9_wantVat_84 : decode cX9_wantVat 84 = .ok (.aload_n 0, 1) := by decide +kernel
theorem dX9_wantVat_85 : decode cX9_wantVat 85 = .ok (.iload_n 2, 1) := by decide +kernel
theorem dX9_wantVat_86 : decode cX9_wantVat 86 = .ok (.iconst 3, 1) := by decide +kernel
theorem dX9_wantVat_87 : decode cX9_wantVat 87 = .ok (.invokevirtual 61, 3) := by decide +kernel
theorem dX9_wantVat_90 : decode cX9_wantVat 90 = .ok (.invokevirtual 229, 3) := by decide +kernel
theorem dX9_wantVat_93 : decode cX9_wantVat 93 = .ok (.istore 6, 2) := by decide +kernel
theorem dX9_wantVat_95 : decode cX9_wantVat 95 = .ok (.aload_n 0, 1) := by decide +kernel
theorem dX9_wantVat_96 : decode cX9_wantVat 96 = .ok (.getfield 215, 3) := by decide +kernel
theorem dX9_wantVat_99 : decode cX9_wantVat 99 = .ok (.ifCond .eq 34, 3) := by decide +kernel
theorem dX9_wantVat_102 : decode cX9_wantVat 102 = .ok (.aload_n 0, 1) := by decide +kernel
theorem dX9_wantVat_103 : decode cX9_wantVat 103 = .ok (.iload_n 1, 1) := by decide +kernel
theorem dX9_wantVat_104 : decode cX9_wantVat 104 = .ok (.iconst 0, 1) := by decide +kernel
theorem dX9_wantVat_105 : decode cX9_wantVat 105 = .ok (.iload_n 3, 1) := by decide +kernel
theorem dX9_wantVat_106 : decode cX9_wantVat 106 = .ok (.invokevirtual 44, 3) := by decide +kernel
theorem dX9_wantVat_109 : decode cX9_wantVat 109 = .ok (.aload_n 0, 1) := by decide +kernel
theorem dX9_wantVat_110 : decode cX9_wantVat 110 = .ok (.iload_n 1, 1) := by decide +kernel
theorem dX9_wantVat_111 : decode cX9_wantVat 111 = .ok (.iconst 1, 1) := by decide +kernel
theorem dX9_wantVat_112 : decode cX9_wantVat 112 = .ok (.iload 4, 2) := by decide +kernel
theorem dX9_wantVat_114 : decode cX9_wantVat 114 = .ok (.invokevirtual 44, 3) := by decide +kernel
theorem dX9_wantVat_117 : decode cX9_wantVat 117 = .ok (.aload_n 0, 1) := by decide +kernel
theorem dX9_wantVat_118 : decode cX9_wantVat 118 = .ok (.iload_n 1, 1) := by decide +kernel
theorem dX9_wantVat_119 : decode cX9_wantVat 119 = .ok (.iconst 2, 1) := by decide +kernel
theorem dX9_wantVat_120 : decode cX9_wantVat 120 = .ok (.iload 5, 2) := by decide +kernel
theorem dX9_wantVat_122 : decode cX9_wantVat 122 = .ok (.invokevirtual 44, 3) := by decide +kernel
theorem dX9_wantVat_125 : decode cX9_wantVat 125 = .ok (.aload_n 0, 1) := by decide +kernel
theorem dX9_wantVat_126 : decode cX9_wantVat 126 = .ok (.iload_n 1, 1) := by decide +kernel
theorem dX9_wantVat_127 : decode cX9_wantVat 127 = .ok (.iconst 3, 1) := by decide +kernel
theorem dX9_wantVat_128 : decode cX9_wantVat 128 = .ok (.iload 6, 2) := by decide +kernel
theorem dX9_wantVat_130 : decode cX9_wantVat 130 = .ok (.invokevirtual 44, 3) := by decide +kernel
theorem dX9_wantVat_133 : decode cX9_wantVat 133 = .ok (.return_, 1) := by decide +kernel
set_option maxRecDepth 20000 in
theorem ggX9_wantDip_X9_advance : GoodIn wsX9_wantDip wsX9_advance := goodIn_r _ [8, 9, 10, 11, 12, 13, 14, 15, 16, 17, 18, 19, 20, 7, 21, 22, 23, 24, 25, 26, 27, 28, 29, 30, 31, 32, 88, 89, 90, 91, 92, 93, 94, 95, 96, 97, 98, 99, 100, 101, 102, 103, 104, 105, 106, 107] (by decide +kernel) (by decide +kernel)
set_option maxRecDepth 20000 in
theorem gX9_wantDip_X9_advance : GoodIn wsX9_wantDip (wsV RX9 219 RX9 yX9_advance wsX9_advance) := goodIn_app (goodIn_of _ (by decide +kernel)) ggX9_wantDip_X9_advance
set_option maxRecDepth 20000 in
theorem ggX9_wantDip_X9_wantNumber : GoodIn wsX9_wantDip wsX9_wantNumber := goodIn_r _ [36, 13, 3, 11, 27, 28, 7, 29, 4, 5, 6, 8, 9, 10, 12, 14, 15, 16, 17, 18, 19, 20, 21, 22, 23, 24, 25, 26, 30, 31, 32, 88, 89, 90, 91, 92, 93, 94, 95, 96, 97, 98, 99, 100, 101, 102, 103, 104, 105, 106, 107] (by decide +kernel) (by decide +kernel)
set_option maxRecDepth 20000 in
theorem gX9_wantDip_X9_wantNumber : GoodIn wsX9_wantDip (wsV RX9 222 RX9 yX9_wantNumber wsX9_wantNumber) := goodIn_app (goodIn_of _ (by decide +kernel)) ggX9_wantDip_X9_wantNumber
set_option maxRecDepth 20000 in
theorem ggX9_wantDip_X9_wantWord : GoodIn wsX9_wantDip wsX9_wantWord := goodIn_r _ [40, 3, 41, 42, 43, 7, 44, 11, 12, 4, 5, 6, 8, 9, 10, 13, 14, 15, 16, 17, 18, 19, 20, 21, 22, 23, 24, 25, 26, 27, 28, 29, 30, 31, 32, 88, 89, 90, 91, 92, 93, 94, 95, 96, 97, 98, 99, 100, 101, 102, 103, 104, 105, 106, 107] (by decide +kernel) (by decide +kernel)
set_option maxRecDepth 20000 in
theorem gX9_wantDip_X9_wantWord : GoodIn wsX9_wantDip (wsV RX9 247 RX9 yX9_wantWord wsX9_wantWord) := goodIn_app (goodIn_of _ (by decide +kernel)) ggX9_wantDip_X9_wantWord
set_option maxRecDepth 20000 in
theorem ggX9_wantDip_X9_dips : GoodIn wsX9_wantDip wsX9_dips := goodIn_r _ [48, 1, 49, 50, 51, 7, 52, 53, 54, 55, 56, 57, 58, 59, 60, 61, 62, 63, 64, 65, 66, 67, 68, 69, 70, 71, 72, 73, 74, 75, 76, 77, 78, 79, 80, 81, 82, 83, 84, 85, 86, 87, 88, 89, 90, 91, 92, 93, 94, 95, 96, 97, 98, 99, 100, 101, 102, 103, 104, 105, 106, 107] (by decide +kernel) (by decide +kernel)
set_option maxRecDepth 20000 in
theorem gX9_wantDip_X9_dips : GoodIn wsX9_wantDip (wsV RX9 122 RX9 yX9_dips wsX9_dips) := goodIn_app (goodIn_of _ (by decide +kernel)) ggX9_wantDip_X9_dips
theorem dX9_wantDip_0 : decode cX9_wantDip 0 = .ok (.aload_n 0, 1) := by decide +kernel
theorem dX9_wantDip_1 : decode cX9_wantDip 1 = .ok (.invokevirtual 219, 3) := by decide +kernel
theorem dX9_wantDip_4 : decode cX9_wantDip 4 = .ok (.aload_n 0, 1) := by decide +kernel
theorem dX9_wantDip_5 : decode cX9_wantDip 5 = .ok (.iconst 0, 1) := by decide +kernel
theorem dX9_wantDip_6 : decode cX9_wantDip 6 = .ok (.aload_n 0, 1) := by decide +kernel
theorem dX9_wantDip_7 : decode cX9_wantDip 7 = .ok (.getfield 7, 3) := by decide +kernel
theorem dX9_wantDip_10 : decode cX9_wantDip 10 = .ok (.iconst 0, 1) := by decide +kernel
theorem dX9_wantDip_11 : decode cX9_wantDip 11 = .ok (.iaload, 1) := by decide +kernel
theorem dX9_wantDip_12 : decode cX9_wantDip 12 = .ok (.iconst 1, 1) := by decide +kernel
theorem dX9_wantDip_13 : decode cX9_wantDip 13 = .ok (.isub, 1) := by decide +kernel
theorem dX9_wantDip_14 : decode cX9_wantDip 14 = .ok (.invokevirtual 222, 3) := by decide +kernel
theorem dX9_wantDip_17 : decode cX9_wantDip 17 = .ok (.istore_n 1, 1) := by decide +kernel
theorem dX9_wantDip_18 : decode cX9_wantDip 18 = .ok (.aload_n 0, 1) := by decide +kernel
theorem dX9_wantDip_19 : decode cX9_wantDip 19 = .ok (.ldc2_w 245, 3) := by decide +kernel
theorem dX9_wantDip_22 : decode cX9_wantDip 22 = .ok (.invokevirtual 247, 3) := by decide +kernel
theorem dX9_wantDip_25 : decode cX9_wantDip 25 = .ok (.aload_n 0, 1) := by decide +kernel
theorem dX9_wantDip_26 : decode cX9_wantDip 26 = .ok (.iconst 0, 1) := by decide +kernel
theorem dX9_wantDip_27 : decode cX9_wantDip 27 = .ok (.iconst 3, 1) := by decide +kernel
theorem dX9_wantDip_28 : decode cX9_wantDip 28 = .ok (.invokevirtual 222, 3) := by decide +kernel
theorem dX9_wantDip_31 : decode cX9_wantDip 31 = .ok (.istore_n 2, 1) := by decide +kernel
theorem dX9_wantDip_32 : decode cX9_wantDip 32 = .ok (.aload_n 0, 1) := by decide +kernel
theorem dX9_wantDip_33 : decode cX9_wantDip 33 = .ok (.getfield 215, 3) := by decide +kernel
theorem dX9_wantDip_36 : decode cX9_wantDip 36 = .ok (.ifCond .eq 9, 3) := by decide +kernel
theorem dX9_wantDip_39 : decode cX9_wantDip 39 = .ok (.aload_n 0, 1) := by decide +kernel
theorem dX9_wantDip_40 : decode cX9_wantDip 40 = .ok (.iload_n 1, 1) := by decide +kernel
theorem dX9_wantDip_41 : decode cX9_wantDip 41 = .ok (.iload_n 2, 1) := by decide +kernel
theorem dX9_wantDip_42 : decode cX9_wantDip 42 = .ok (.invokevirtual 122, 3) := by decide +kernel
theorem dX9_wantDip_45 : decode cX9_wantDip 45 = .ok (.return_, 1) := by decide +kernel
set_option maxRecDepth 20000 in
theorem ggX9_wantLet_X9_advance : GoodIn wsX9_wantLet wsX9_advance := goodIn_r _ [7, 8, 9, 10, 11, 12, 13, 14, 15, 16, 17, 18, 19, 6, 20, 21, 22, 23, 24, 25, 26, 27, 28, 29, 30, 31, 36, 37, 38, 39, 40, 41, 42, 43, 44, 45, 46, 47, 48, 49, 50, 51, 52, 53, 54, 55] (by decide +kernel) (by decide +kernel)
set_option maxRecDepth 20000 in
theorem gX9_wantLet_X9_advance : GoodIn wsX9_wantLet (wsV RX9 219 RX9 yX9_advance wsX9_advance) := goodIn_app (goodIn_of _ (by decide +kernel)) ggX9_wantLet_X9_advance
set_option maxRecDepth 20000 in
theorem ggX9_wantLet_X9_wantNumber : GoodIn wsX9_wantLet wsX9_wantNumber := goodIn_r _ [35, 12, 1, 10, 26, 27, 6, 28, 3, 4, 5, 7, 8, 9, 11, 13, 14, 15, 16, 17, 18, 19, 20, 21, 22, 23, 24, 25, 29, 30, 31, 36, 37, 38, 39, 40, 41, 42, 43, 44, 45, 46, 47, 48, 49, 50, 51, 52, 53, 54, 55] (by decide +kernel) (by decide +kernel)
set_option maxRecDepth 20000 in
theorem gX9_wantLet_X9_wantNumber : GoodIn wsX9_wantLet (wsV RX9 222 RX9 yX9_wantNumber wsX9_wantNumber) := goodIn_app (goodIn_of _ (by decide +kernel)) ggX9_wantLet_X9_wantNumber
theorem dX9_wantLet_0 : decode cX9_wantLet 0 = .ok (.aload_n 0, 1) := by decide +kernel
theorem dX9_wantLet_1 : decode cX9_wantLet 1 = .ok (.invokevirtual 219, 3) := by decide +kernel
theorem dX9_wantLet_4 : decode cX9_wantLet 4 = .ok (.aload_n 0, 1) := by decide +kernel
theorem dX9_wantLet_5 : decode cX9_wantLet 5 = .ok (.iconst 0, 1) := by decide +kernel
theorem dX9_wantLet_6 : decode cX9_wantLet 6 = .ok (.iload_n 2, 1) := by decide +kernel
theorem dX9_wantLet_7 : decode cX9_wantLet 7 = .ok (.invokevirtual 222, 3) := by decide +kernel
theorem dX9_wantLet_10 : decode cX9_wantLet 10 = .ok (.istore_n 3, 1) := by decide +kernel
theorem dX9_wantLet_11 : decode cX9_wantLet 11 = .ok (.aload_n 0, 1) := by decide +kernel
theorem dX9_wantLet_12 : decode cX9_wantLet 12 = .ok (.getfield 215, 3) := by decide +kernel
theorem dX9_wantLet_15 : decode cX9_wantLet 15 = .ok (.ifCond .eq 10, 3) := by decide +kernel
theorem dX9_wantLet_18 : decode cX9_wantLet 18 = .ok (.aload_n 0, 1) := by decide +kernel
theorem dX9_wantLet_19 : decode cX9_wantLet 19 = .ok (.getfield 7, 3) := by decide +kernel
theorem dX9_wantLet_22 : decode cX9_wantLet 22 = .ok (.iload_n 1, 1) := by decide +kernel
theorem dX9_wantLet_23 : decode cX9_wantLet 23 = .ok (.iload_n 3, 1) := by decide +kernel
theorem dX9_wantLet_24 : decode cX9_wantLet 24 = .ok (.iastore, 1) := by decide +kernel
theorem dX9_wantLet_25 : decode cX9_wantLet 25 = .ok (.return_, 1) := by decide +kernel
set_option maxRecDepth 20000 in
theorem ggX9_wantItem_X9_kindHere : GoodIn wsX9_wantItem wsX9_kindHere := goodIn_r _ [10, 11, 12, 13, 14, 15, 16, 17, 18, 19, 9, 20, 21, 22, 136, 137, 138, 139, 140, 141, 142, 143, 144, 145, 146, 147, 148, 149, 150, 151, 152, 153, 154, 155] (by decide +kernel) (by decide +kernel)
set_option maxRecDepth 20000 in
theorem gX9_wantItem_X9_kindHere : GoodIn wsX9_wantItem (wsV RX9 251 RX9 yX9_kindHere wsX9_kindHere) := goodIn_app (goodIn_of _ (by decide +kernel)) ggX9_wantItem_X9_kindHere
set_option maxRecDepth 20000 in
theorem ggX9_wantItem_X9_wantCandle : GoodIn wsX9_wantItem wsX9_wantCandle := goodIn_r _ [26, 27, 5, 28, 29, 30, 9, 31, 32, 33, 21, 22, 34, 35, 36, 37, 38, 39, 40, 41, 42, 43, 44, 45, 46, 47, 48, 49, 50, 51, 52, 53, 54, 55, 56, 57, 58, 59, 60, 136, 137, 138, 139, 140, 141, 142, 143, 144, 145, 146, 147, 148, 149, 150, 151, 152, 153, 154, 155] (by decide +kernel) (by decide +kernel)
set_option maxRecDepth 20000 in
theorem gX9_wantItem_X9_wantCandle : GoodIn wsX9_wantItem (wsV RX9 255 RX9 yX9_wantCandle wsX9_wantCandle) := goodIn_app (goodIn_of _ (by decide +kernel)) ggX9_wantItem_X9_wantCandle
set_option maxRecDepth 20000 in
theorem ggX9_wantItem_X9_isWord : GoodIn wsX9_wantItem wsX9_isWord := goodIn_r _ [20, 21, 22, 136, 137, 138, 139, 140, 141, 142, 143, 144, 145, 146, 147, 148, 149, 150, 151, 152, 153, 154, 155] (by decide +kernel) (by decide +kernel)
set_option maxRecDepth 20000 in
theorem gX9_wantItem_X9_isWord : GoodIn wsX9_wantItem (wsV RX9 201 RX9 yX9_isWord wsX9_isWord) := goodIn_app (goodIn_of _ (by decide +kernel)) ggX9_wantItem_X9_isWord
set_option maxRecDepth 20000 in
theorem ggX9_wantItem_X9_wantVat : GoodIn wsX9_wantItem wsX9_wantVat := goodIn_r _ [64, 5, 65, 66, 67, 68, 69, 70, 71, 28, 29, 30, 9, 31, 32, 33, 21, 22, 34, 35, 36, 37, 38, 39, 40, 41, 42, 43, 44, 45, 46, 47, 48, 49, 50, 51, 52, 53, 72, 73, 74, 75, 76, 77, 78, 79, 27, 80, 81, 82, 83, 17, 18, 19, 20, 84, 85, 86, 87, 88, 89, 90, 91, 136, 137, 138, 139, 140, 141, 142, 143, 144, 145, 146, 147, 148, 149, 150, 151, 152, 153, 154, 155] (by decide +kernel) (by decide +kernel)
set_option maxRecDepth 20000 in
theorem gX9_wantItem_X9_wantVat : GoodIn wsX9_wantItem (wsV RX9 260 RX9 yX9_wantVat wsX9_wantVat) := goodIn_app (goodIn_of _ (by decide +kernel)) ggX9_wantItem_X9_wantVat
set_option maxRecDepth 20000 in
theorem ggX9_wantItem_X9_wantDip : GoodIn wsX9_wantItem wsX9_wantDip := goodIn_r _ [95, 27, 96, 5, 28, 29, 30, 9, 31, 32, 33, 21, 22, 34, 35, 36, 37, 38, 39, 40, 41, 42, 43, 44, 45, 46, 47, 48, 49, 50, 51, 52, 53, 72, 73, 74, 75, 97, 98, 99, 100, 17, 18, 19, 20, 101, 102, 103, 104, 105, 106, 107, 108, 58, 59, 60, 76, 77, 78, 79, 109, 110, 111, 112, 113, 114, 115, 116, 117, 118, 119, 88, 89, 90, 91, 120, 121, 122, 123, 124, 125, 126, 127, 128, 129, 130, 131, 69, 136, 137, 138, 139, 140, 141, 142, 143, 144, 145, 146, 147, 148, 149, 150, 151, 152, 153, 154, 155] (by decide +kernel) (by decide +kernel)
set_option maxRecDepth 20000 in
theorem gX9_wantItem_X9_wantDip : GoodIn wsX9_wantItem (wsV RX9 265 RX9 yX9_wantDip wsX9_wantDip) := goodIn_app (goodIn_of _ (by decide +kernel)) ggX9_wantItem_X9_wantDip
set_option maxRecDepth 20000 in
theorem ggX9_wantItem_X9_wantLet : GoodIn wsX9_wantItem wsX9_wantLet := goodIn_r _ [135, 5, 27, 28, 29, 30, 9, 31, 32, 33, 21, 22, 34, 35, 36, 37, 38, 39, 40, 41, 42, 43, 44, 45, 46, 47, 48, 49, 50, 51, 52, 53, 72, 73, 74, 75, 136, 137, 138, 139, 140, 141, 142, 143, 144, 145, 146, 147, 148, 149, 150, 151, 152, 153, 154, 155] (by decide +kernel) (by decide +kernel)
set_option maxRecDepth 20000 in
theorem gX9_wantItem_X9_wantLet : GoodIn wsX9_wantItem (wsV RX9 270 RX9 yX9_wantLet wsX9_wantLet) := goodIn_app (goodIn_of _ (by decide +kernel)) ggX9_wantItem_X9_wantLet
theorem dX9_wantItem_0 : decode cX9_wantItem 0 = .ok (.aload_n 0, 1) := by decide +kernel
theorem dX9_wantItem_1 : decode cX9_wantItem 1 = .ok (.invokevirtual 251, 3) := by decide +kernel
theorem dX9_wantItem_4 : decode cX9_wantItem 4 = .ok (.ifCond .lt 14, 3) := by decide +kernel
theorem dX9_wantItem_7 : decode cX9_wantItem 7 = .ok (.aload_n 0, 1) := by decide +kernel
theorem dX9_wantItem_8 : decode cX9_wantItem 8 = .ok (.aload_n 0, 1) := by decide +kernel
theorem dX9_wantItem_9 : decode cX9_wantItem 9 = .ok (.invokevirtual 251, 3) := by decide +kernel
theorem dX9_wantItem_12 : decode cX9_wantItem 12 = .ok (.invokevirtual 255, 3) := by decide +kernel
theorem dX9_wantItem_15 : decode cX9_wantItem 15 = .ok (.goto 83, 3) := by decide +kernel
theorem dX9_wantItem_18 : decode cX9_wantItem 18 = .ok (.aload_n 0, 1) := by decide +kernel
theorem dX9_wantItem_19 : decode cX9_wantItem 19 = .ok (.ldc2_w 258, 3) := by decide +kernel
theorem dX9_wantItem_22 : decode cX9_wantItem 22 = .ok (.invokevirtual 201, 3) := by decide +kernel
theorem dX9_wantItem_25 : decode cX9_wantItem 25 = .ok (.ifCond .eq 10, 3) := by decide +kernel
theorem dX9_wantItem_28 : decode cX9_wantItem 28 = .ok (.aload_n 0, 1) := by decide +kernel
theorem dX9_wantItem_29 : decode cX9_wantItem 29 = .ok (.invokevirtual 260, 3) := by decide +kernel
theorem dX9_wantItem_32 : decode cX9_wantItem 32 = .ok (.goto 66, 3) := by decide +kernel
theorem dX9_wantItem_35 : decode cX9_wantItem 35 = .ok (.aload_n 0, 1) := by decide +kernel
theorem dX9_wantItem_36 : decode cX9_wantItem 36 = .ok (.ldc2_w 263, 3) := by decide +kernel
theorem dX9_wantItem_39 : decode cX9_wantItem 39 = .ok (.invokevirtual 201, 3) := by decide +kernel
theorem dX9_wantItem_42 : decode cX9_wantItem 42 = .ok (.ifCond .eq 10, 3) := by decide +kernel
theorem dX9_wantItem_45 : decode cX9_wantItem 45 = .ok (.aload_n 0, 1) := by decide +kernel
theorem dX9_wantItem_46 : decode cX9_wantItem 46 = .ok (.invokevirtual 265, 3) := by decide +kernel
theorem dX9_wantItem_49 : decode cX9_wantItem 49 = .ok (.goto 49, 3) := by decide +kernel
theorem dX9_wantItem_52 : decode cX9_wantItem 52 = .ok (.aload_n 0, 1) := by decide +kernel
theorem dX9_wantItem_53 : decode cX9_wantItem 53 = .ok (.ldc2_w 268, 3) := by decide +kernel
theorem dX9_wantItem_56 : decode cX9_wantItem 56 = .ok (.invokevirtual 201, 3) := by decide +kernel
theorem dX9_wantItem_59 : decode cX9_wantItem 59 = .ok (.ifCond .eq 14, 3) := by decide +kernel
theorem dX9_wantItem_62 : decode cX9_wantItem 62 = .ok (.aload_n 0, 1) := by decide +kernel
theorem dX9_wantItem_63 : decode cX9_wantItem 63 = .ok (.iconst 1, 1) := by decide +kernel
theorem dX9_wantItem_64 : decode cX9_wantItem 64 = .ok (.sipush 9999, 3) := by decide +kernel
theorem dX9_wantItem_67 : decode cX9_wantItem 67 = .ok (.invokevirtual 270, 3) := by decide +kernel
theorem dX9_wantItem_70 : decode cX9_wantItem 70 = .ok (.goto 28, 3) := by decide +kernel
theorem dX9_wantItem_73 : decode cX9_wantItem 73 = .ok (.aload_n 0, 1) := by decide +kernel
theorem dX9_wantItem_74 : decode cX9_wantItem 74 = .ok (.ldc2_w 273, 3) := by decide +kernel
theorem dX9_wantItem_77 : decode cX9_wantItem 77 = .ok (.invokevirtual 201, 3) := by decide +kernel
theorem dX9_wantItem_80 : decode cX9_wantItem 80 = .ok (.ifCond .eq 13, 3) := by decide +kernel
theorem dX9_wantItem_83 : decode cX9_wantItem 83 = .ok (.aload_n 0, 1) := by decide +kernel
theorem dX9_wantItem_84 : decode cX9_wantItem 84 = .ok (.iconst 2, 1) := by decide +kernel
theorem dX9_wantItem_85 : decode cX9_wantItem 85 = .ok (.bipush 9, 2) := by decide +kernel
theorem dX9_wantItem_87 : decode cX9_wantItem 87 = .ok (.invokevirtual 270, 3) := by decide +kernel
theorem dX9_wantItem_90 : decode cX9_wantItem 90 = .ok (.goto 8, 3) := by decide +kernel
theorem dX9_wantItem_93 : decode cX9_wantItem 93 = .ok (.aload_n 0, 1) := by decide +kernel
theorem dX9_wantItem_94 : decode cX9_wantItem 94 = .ok (.iconst 0, 1) := by decide +kernel
theorem dX9_wantItem_95 : decode cX9_wantItem 95 = .ok (.putfield 215, 3) := by decide +kernel
theorem dX9_wantItem_98 : decode cX9_wantItem 98 = .ok (.return_, 1) := by decide +kernel
set_option maxRecDepth 20000 in
theorem ggX9_text_X9_moveAll : GoodIn wsX9_text wsX9_moveAll := goodIn_r _ [12, 13, 145, 146, 147, 148, 149, 150, 151, 152, 153, 154, 155, 156, 157, 158, 159, 160, 161, 162, 163, 164] (by decide +kernel) (by decide +kernel)
set_option maxRecDepth 20000 in
theorem gX9_text_X9_moveAll : GoodIn wsX9_text (wsV RX9 131 RX9 yX9_moveAll wsX9_moveAll) := goodIn_app (goodIn_of _ (by decide +kernel)) ggX9_text_X9_moveAll
set_option maxRecDepth 20000 in
theorem ggX9_text_X9_advance : GoodIn wsX9_text wsX9_advance := goodIn_r _ [17, 2, 7, 4, 18, 5, 19, 20, 21, 22, 23, 24, 25, 11, 26, 6, 27, 28, 29, 30, 31, 32, 33, 34, 35, 36, 145, 146, 147, 148, 149, 150, 151, 152, 153, 154, 155, 156, 157, 158, 159, 160, 161, 162, 163, 164] (by decide +kernel) (by decide +kernel)
set_option maxRecDepth 20000 in
theorem gX9_text_X9_advance : GoodIn wsX9_text (wsV RX9 219 RX9 yX9_advance wsX9_advance) := goodIn_app (goodIn_of _ (by decide +kernel)) ggX9_text_X9_advance
set_option maxRecDepth 20000 in
theorem ggX9_text_X9_wantItem : GoodIn wsX9_text wsX9_wantItem := goodIn_r _ [40, 41, 42, 43, 44, 3, 45, 46, 47, 11, 48, 49, 50, 51, 52, 53, 54, 55, 56, 57, 58, 4, 18, 59, 60, 61, 62, 13, 14, 15, 16, 17, 2, 7, 5, 19, 20, 21, 22, 23, 24, 25, 26, 6, 27, 28, 29, 30, 31, 32, 33, 34, 35, 36, 63, 64, 65, 66, 67, 68, 69, 70, 71, 72, 73, 74, 75, 76, 77, 78, 79, 80, 81, 82, 83, 84, 85, 86, 87, 88, 89, 90, 91, 92, 93, 94, 95, 96, 97, 98, 99, 100, 101, 102, 103, 104, 105, 106, 107, 108, 109, 110, 111, 112, 113, 114, 115, 116, 117, 118, 119, 120, 121, 122, 123, 124, 125, 126, 127, 128, 129, 130, 131, 132, 133, 134, 135, 136, 137, 138, 139, 140, 141, 142, 143, 144, 145, 146, 147, 148, 149, 150, 151, 152, 153, 154, 155, 156, 157, 158, 159, 160, 161, 162, 163, 164] (by decide +kernel) (by decide +kernel)
set_option maxRecDepth 20000 in
theorem gX9_text_X9_wantItem : GoodIn wsX9_text (wsV RX9 275 RX9 yX9_wantItem wsX9_wantItem) := goodIn_app (goodIn_of _ (by decide +kernel)) ggX9_text_X9_wantItem
theorem dX9_text_0 : decode cX9_text 0 = .ok (.aload_n 0, 1) := by decide +kernel
theorem dX9_text_1 : decode cX9_text 1 = .ok (.iconst 1, 1) := by decide +kernel
theorem dX9_text_2 : decode cX9_text 2 = .ok (.aload_n 0, 1) := by decide +kernel
theorem dX9_text_3 : decode cX9_text 3 = .ok (.getfield 41, 3) := by decide +kernel
theorem dX9_text_6 : decode cX9_text 6 = .ok (.invokevirtual 131, 3) := by decide +kernel
theorem dX9_text_9 : decode cX9_text 9 = .ok (.aload_n 0, 1) := by decide +kernel
theorem dX9_text_10 : decode cX9_text 10 = .ok (.iconst 0, 1) := by decide +kernel
theorem dX9_text_11 : decode cX9_text 11 = .ok (.putfield 167, 3) := by decide +kernel
theorem dX9_text_14 : decode cX9_text 14 = .ok (.aload_n 0, 1) := by decide +kernel
theorem dX9_text_15 : decode cX9_text 15 = .ok (.iconst 1, 1) := by decide +kernel
theorem dX9_text_16 : decode cX9_text 16 = .ok (.putfield 215, 3) := by decide +kernel
theorem dX9_text_19 : decode cX9_text 19 = .ok (.iconst 0, 1) := by decide +kernel
theorem dX9_text_20 : decode cX9_text 20 = .ok (.istore_n 1, 1) := by decide +kernel
theorem dX9_text_21 : decode cX9_text 21 = .ok (.iconst 1, 1) := by decide +kernel
theorem dX9_text_22 : decode cX9_text 22 = .ok (.istore_n 2, 1) := by decide +kernel
theorem dX9_text_23 : decode cX9_text 23 = .ok (.iload_n 2, 1) := by decide +kernel
theorem dX9_text_24 : decode cX9_text 24 = .ok (.ifCond .eq 47, 3) := by decide +kernel
theorem dX9_text_27 : decode cX9_text 27 = .ok (.aload_n 0, 1) := by decide +kernel
theorem dX9_text_28 : decode cX9_text 28 = .ok (.invokevirtual 219, 3) := by decide +kernel
theorem dX9_text_31 : decode cX9_text 31 = .ok (.aload_n 0, 1) := by decide +kernel
theorem dX9_text_32 : decode cX9_text 32 = .ok (.invokevirtual 275, 3) := by decide +kernel
theorem dX9_text_35 : decode cX9_text 35 = .ok (.iinc 1 1, 3) := by decide +kernel
theorem dX9_text_38 : decode cX9_text 38 = .ok (.aload_n 0, 1) := by decide +kernel
theorem dX9_text_39 : decode cX9_text 39 = .ok (.getfield 215, 3) := by decide +kernel
theorem dX9_text_42 : decode cX9_text 42 = .ok (.ifCond .eq 24, 3) := by decide +kernel
theorem dX9_text_45 : decode cX9_text 45 = .ok (.aload_n 0, 1) := by decide +kernel
theorem dX9_text_46 : decode cX9_text 46 = .ok (.getfield 182, 3) := by decide +kernel
theorem dX9_text_49 : decode cX9_text 49 = .ok (.iconst 3, 1) := by decide +kernel
theorem dX9_text_50 : decode cX9_text 50 = .ok (.if_icmp .ne 16, 3) := by decide +kernel
theorem dX9_text_53 : decode cX9_text 53 = .ok (.aload_n 0, 1) := by decide +kernel
theorem dX9_text_54 : decode cX9_text 54 = .ok (.getfield 189, 3) := by decide +kernel
theorem dX9_text_57 : decode cX9_text 57 = .ok (.bipush 59, 2) := by decide +kernel
theorem dX9_text_59 : decode cX9_text 59 = .ok (.if_icmp .ne 7, 3) := by decide +kernel
theorem dX9_text_62 : decode cX9_text 62 = .ok (.iconst 1, 1) := by decide +kernel
theorem dX9_text_63 : decode cX9_text 63 = .ok (.goto 4, 3) := by decide +kernel
theorem dX9_text_66 : decode cX9_text 66 = .ok (.iconst 0, 1) := by decide +kernel
theorem dX9_text_67 : decode cX9_text 67 = .ok (.istore_n 2, 1) := by decide +kernel
theorem dX9_text_68 : decode cX9_text 68 = .ok (.goto (-45), 3) := by decide +kernel
theorem dX9_text_71 : decode cX9_text 71 = .ok (.aload_n 0, 1) := by decide +kernel
theorem dX9_text_72 : decode cX9_text 72 = .ok (.aload_n 0, 1) := by decide +kernel
theorem dX9_text_73 : decode cX9_text 73 = .ok (.getfield 215, 3) := by decide +kernel
theorem dX9_text_76 : decode cX9_text 76 = .ok (.ifCond .eq 14, 3) := by decide +kernel
theorem dX9_text_79 : decode cX9_text 79 = .ok (.aload_n 0, 1) := by decide +kernel
theorem dX9_text_80 : decode cX9_text 80 = .ok (.getfield 182, 3) := by decide +kernel
theorem dX9_text_83 : decode cX9_text 83 = .ok (.ifCond .ne 7, 3) := by decide +kernel
theorem dX9_text_86 : decode cX9_text 86 = .ok (.iconst 1, 1) := by decide +kernel
theorem dX9_text_87 : decode cX9_text 87 = .ok (.goto 4, 3) := by decide +kernel
theorem dX9_text_90 : decode cX9_text 90 = .ok (.iconst 0, 1) := by decide +kernel
theorem dX9_text_91 : decode cX9_text 91 = .ok (.putfield 215, 3) := by decide +kernel
theorem dX9_text_94 : decode cX9_text 94 = .ok (.aload_n 0, 1) := by decide +kernel
theorem dX9_text_95 : decode cX9_text 95 = .ok (.iconst 0, 1) := by decide +kernel
theorem dX9_text_96 : decode cX9_text 96 = .ok (.putfield 164, 3) := by decide +kernel
theorem dX9_text_99 : decode cX9_text 99 = .ok (.aload_n 0, 1) := by decide +kernel
theorem dX9_text_100 : decode cX9_text 100 = .ok (.getfield 215, 3) := by decide +kernel
theorem dX9_text_103 : decode cX9_text 103 = .ok (.ifCond .ne 19, 3) := by decide +kernel
theorem dX9_text_106 : decode cX9_text 106 = .ok (.aload_n 0, 1) := by decide +kernel
theorem dX9_text_107 : decode cX9_text 107 = .ok (.iconst 0, 1) := by decide +kernel
theorem dX9_text_108 : decode cX9_text 108 = .ok (.aload_n 0, 1) := by decide +kernel
theorem dX9_text_109 : decode cX9_text 109 = .ok (.getfield 41, 3) := by decide +kernel
theorem dX9_text_112 : decode cX9_text 112 = .ok (.invokevirtual 131, 3) := by decide +kernel
theorem dX9_text_115 : decode cX9_text 115 = .ok (.iconst (-1), 1) := by decide +kernel
theorem dX9_text_116 : decode cX9_text 116 = .ok (.aload_n 0, 1) := by decide +kernel
theorem dX9_text_117 : decode cX9_text 117 = .ok (.getfield 170, 3) := by decide +kernel
theorem dX9_text_120 : decode cX9_text 120 = .ok (.isub, 1) := by decide +kernel
theorem dX9_text_121 : decode cX9_text 121 = .ok (.ireturn, 1) := by decide +kernel
theorem dX9_text_122 : decode cX9_text 122 = .ok (.iload_n 1, 1) := by decide +kernel
theorem dX9_text_123 : decode cX9_text 123 = .ok (.ireturn, 1) := by decide +kernel
set_option maxRecDepth 20000 in
theorem ggX9_isSheet_X9_in : GoodIn wsX9_isSheet wsX9_in := goodIn_r _ [4] (by decide +kernel) (by decide +kernel)
set_option maxRecDepth 20000 in
theorem gX9_isSheet_X9_in : GoodIn wsX9_isSheet (va_wsS RX9 49 yX9_in wsX9_in) := goodIn_app (goodIn_of _ (by decide +kernel)) ggX9_isSheet_X9_in
theorem dX9_isSheet_0 : decode cX9_isSheet 0 = .ok (.iload_n 0, 1) := by decide +kernel
theorem dX9_isSheet_1 : decode cX9_isSheet 1 = .ok (.iconst 0, 1) := by decide +kernel
theorem dX9_isSheet_2 : decode cX9_isSheet 2 = .ok (.iconst 3, 1) := by decide +kernel
theorem dX9_isSheet_3 : decode cX9_isSheet 3 = .ok (.invokestatic 49, 3) := by decide +kernel
theorem dX9_isSheet_6 : decode cX9_isSheet 6 = .ok (.ireturn, 1) := by decide +kernel
theorem dX9_narrow_0 : decode cX9_narrow 0 = .ok (.iload_n 0, 1) := by decide +kernel
theorem dX9_narrow_1 : decode cX9_narrow 1 = .ok (.bipush 8, 2) := by decide +kernel
theorem dX9_narrow_3 : decode cX9_narrow 3 = .ok (.if_icmp .ne 13, 3) := by decide +kernel
theorem dX9_narrow_6 : decode cX9_narrow 6 = .ok (.lload_n 1, 1) := by decide +kernel
theorem dX9_narrow_7 : decode cX9_narrow 7 = .ok (.bipush 56, 2) := by decide +kernel
theorem dX9_narrow_9 : decode cX9_narrow 9 = .ok (.lshl, 1) := by decide +kernel
theorem dX9_narrow_10 : decode cX9_narrow 10 = .ok (.bipush 56, 2) := by decide +kernel
theorem dX9_narrow_12 : decode cX9_narrow 12 = .ok (.lshr, 1) := by decide +kernel
theorem dX9_narrow_13 : decode cX9_narrow 13 = .ok (.goto 20, 3) := by decide +kernel
theorem dX9_narrow_16 : decode cX9_narrow 16 = .ok (.iload_n 0, 1) := by decide +kernel
theorem dX9_narrow_17 : decode cX9_narrow 17 = .ok (.bipush 16, 2) := by decide +kernel
theorem dX9_narrow_19 : decode cX9_narrow 19 = .ok (.if_icmp .ne 13, 3) := by decide +kernel
theorem dX9_narrow_22 : decode cX9_narrow 22 = .ok (.lload_n 1, 1) := by decide +kernel
theorem dX9_narrow_23 : decode cX9_narrow 23 = .ok (.bipush 48, 2) := by decide +kernel
theorem dX9_narrow_25 : decode cX9_narrow 25 = .ok (.lshl, 1) := by decide +kernel
theorem dX9_narrow_26 : decode cX9_narrow 26 = .ok (.bipush 48, 2) := by decide +kernel
theorem dX9_narrow_28 : decode cX9_narrow 28 = .ok (.lshr, 1) := by decide +kernel
theorem dX9_narrow_29 : decode cX9_narrow 29 = .ok (.goto 4, 3) := by decide +kernel
theorem dX9_narrow_32 : decode cX9_narrow 32 = .ok (.lload_n 1, 1) := by decide +kernel
theorem dX9_narrow_33 : decode cX9_narrow 33 = .ok (.lreturn, 1) := by decide +kernel
set_option maxRecDepth 20000 in
theorem ggX9_sheet_X9_isSheet : GoodIn wsX9_sheet wsX9_isSheet := goodIn_r _ [9, 10, 11, 8, 12] (by decide +kernel) (by decide +kernel)
set_option maxRecDepth 20000 in
theorem gX9_sheet_X9_isSheet : GoodIn wsX9_sheet (va_wsS RX9 278 yX9_isSheet wsX9_isSheet) := goodIn_app (goodIn_of _ (by decide +kernel)) ggX9_sheet_X9_isSheet
set_option maxRecDepth 20000 in
theorem ggX9_sheet_X9_finds : GoodIn wsX9_sheet wsX9_finds := goodIn_r _ [16, 17, 1, 18, 19, 20, 21, 22, 23, 24, 25, 26, 27, 28, 29, 30, 31, 32, 33, 34, 35, 36, 37] (by decide +kernel) (by decide +kernel)
set_option maxRecDepth 20000 in
theorem gX9_sheet_X9_finds : GoodIn wsX9_sheet (wsV RX9 64 RX9 yX9_finds wsX9_finds) := goodIn_app (goodIn_of _ (by decide +kernel)) ggX9_sheet_X9_finds
theorem dX9_sheet_0 : decode cX9_sheet 0 = .ok (.iload_n 1, 1) := by decide +kernel
theorem dX9_sheet_1 : decode cX9_sheet 1 = .ok (.invokestatic 278, 3) := by decide +kernel
theorem dX9_sheet_4 : decode cX9_sheet 4 = .ok (.ifCond .eq 25, 3) := by decide +kernel
theorem dX9_sheet_7 : decode cX9_sheet 7 = .ok (.iload_n 2, 1) := by decide +kernel
theorem dX9_sheet_8 : decode cX9_sheet 8 = .ok (.ifCond .eq 28, 3) := by decide +kernel
theorem dX9_sheet_11 : decode cX9_sheet 11 = .ok (.iload_n 2, 1) := by decide +kernel
theorem dX9_sheet_12 : decode cX9_sheet 12 = .ok (.bipush 8, 2) := by decide +kernel
theorem dX9_sheet_14 : decode cX9_sheet 14 = .ok (.if_icmp .eq 22, 3) := by decide +kernel
theorem dX9_sheet_17 : decode cX9_sheet 17 = .ok (.iload_n 2, 1) := by decide +kernel
theorem dX9_sheet_18 : decode cX9_sheet 18 = .ok (.bipush 16, 2) := by decide +kernel
theorem dX9_sheet_20 : decode cX9_sheet 20 = .ok (.if_icmp .eq 16, 3) := by decide +kernel
theorem dX9_sheet_23 : decode cX9_sheet 23 = .ok (.iload_n 2, 1) := by decide +kernel
theorem dX9_sheet_24 : decode cX9_sheet 24 = .ok (.bipush 64, 2) := by decide +kernel
theorem dX9_sheet_26 : decode cX9_sheet 26 = .ok (.if_icmp .eq 10, 3) := by decide +kernel
theorem dX9_sheet_29 : decode cX9_sheet 29 = .ok (.aload_n 0, 1) := by decide +kernel
theorem dX9_sheet_30 : decode cX9_sheet 30 = .ok (.ldc 48, 2) := by decide +kernel
theorem dX9_sheet_32 : decode cX9_sheet 32 = .ok (.invokevirtual 64, 3) := by decide +kernel
theorem dX9_sheet_35 : decode cX9_sheet 35 = .ok (.ireturn, 1) := by decide +kernel
theorem dX9_sheet_36 : decode cX9_sheet 36 = .ok (.iload_n 3, 1) := by decide +kernel
theorem dX9_sheet_37 : decode cX9_sheet 37 = .ok (.ifCond .ge 11, 3) := by decide +kernel
theorem dX9_sheet_40 : decode cX9_sheet 40 = .ok (.aload_n 0, 1) := by decide +kernel
theorem dX9_sheet_41 : decode cX9_sheet 41 = .ok (.ldc_w 281, 3) := by decide +kernel
theorem dX9_sheet_44 : decode cX9_sheet 44 = .ok (.invokevirtual 64, 3) := by decide +kernel
theorem dX9_sheet_47 : decode cX9_sheet 47 = .ok (.ireturn, 1) := by decide +kernel
theorem dX9_sheet_48 : decode cX9_sheet 48 = .ok (.iload_n 3, 1) := by decide +kernel
theorem dX9_sheet_49 : decode cX9_sheet 49 = .ok (.bipush 40, 2) := by decide +kernel
theorem dX9_sheet_51 : decode cX9_sheet 51 = .ok (.if_icmp .le 10, 3) := by decide +kernel
theorem dX9_sheet_54 : decode cX9_sheet 54 = .ok (.aload_n 0, 1) := by decide +kernel
theorem dX9_sheet_55 : decode cX9_sheet 55 = .ok (.ldc 48, 2) := by decide +kernel
theorem dX9_sheet_57 : decode cX9_sheet 57 = .ok (.invokevirtual 64, 3) := by decide +kernel
theorem dX9_sheet_60 : decode cX9_sheet 60 = .ok (.ireturn, 1) := by decide +kernel
theorem dX9_sheet_61 : decode cX9_sheet 61 = .ok (.aload_n 0, 1) := by decide +kernel
theorem dX9_sheet_62 : decode cX9_sheet 62 = .ok (.getfield 25, 3) := by decide +kernel
theorem dX9_sheet_65 : decode cX9_sheet 65 = .ok (.iload_n 1, 1) := by decide +kernel
theorem dX9_sheet_66 : decode cX9_sheet 66 = .ok (.iload_n 2, 1) := by decide +kernel
theorem dX9_sheet_67 : decode cX9_sheet 67 = .ok (.iastore, 1) := by decide +kernel
theorem dX9_sheet_68 : decode cX9_sheet 68 = .ok (.aload_n 0, 1) := by decide +kernel
theorem dX9_sheet_69 : decode cX9_sheet 69 = .ok (.getfield 28, 3) := by decide +kernel
theorem dX9_sheet_72 : decode cX9_sheet 72 = .ok (.iload_n 1, 1) := by decide +kernel
theorem dX9_sheet_73 : decode cX9_sheet 73 = .ok (.iload_n 2, 1) := by decide +kernel
theorem dX9_sheet_74 : decode cX9_sheet 74 = .ok (.ifCond .ne 7, 3) := by decide +kernel
theorem dX9_sheet_77 : decode cX9_sheet 77 = .ok (.iconst 0, 1) := by decide +kernel
theorem dX9_sheet_78 : decode cX9_sheet 78 = .ok (.goto 4, 3) := by decide +kernel
theorem dX9_sheet_81 : decode cX9_sheet 81 = .ok (.iload_n 3, 1) := by decide +kernel
theorem dX9_sheet_82 : decode cX9_sheet 82 = .ok (.iastore, 1) := by decide +kernel
theorem dX9_sheet_83 : decode cX9_sheet 83 = .ok (.iconst 0, 1) := by decide +kernel
theorem dX9_sheet_84 : decode cX9_sheet 84 = .ok (.istore 4, 2) := by decide +kernel
theorem dX9_sheet_86 : decode cX9_sheet 86 = .ok (.iload 4, 2) := by decide +kernel
theorem dX9_sheet_88 : decode cX9_sheet 88 = .ok (.bipush 40, 2) := by decide +kernel
theorem dX9_sheet_90 : decode cX9_sheet 90 = .ok (.if_icmp .ge 22, 3) := by decide +kernel
theorem dX9_sheet_93 : decode cX9_sheet 93 = .ok (.aload_n 0, 1) := by decide +kernel
theorem dX9_sheet_94 : decode cX9_sheet 94 = .ok (.getfield 31, 3) := by decide +kernel
theorem dX9_sheet_97 : decode cX9_sheet 97 = .ok (.bipush 40, 2) := by decide +kernel
theorem dX9_sheet_99 : decode cX9_sheet 99 = .ok (.iload_n 1, 1) := by decide +kernel
theorem dX9_sheet_100 : decode cX9_sheet 100 = .ok (.imul, 1) := by decide +kernel
theorem dX9_sheet_101 : decode cX9_sheet 101 = .ok (.iload 4, 2) := by decide +kernel
theorem dX9_sheet_103 : decode cX9_sheet 103 = .ok (.iadd, 1) := by decide +kernel
theorem dX9_sheet_104 : decode cX9_sheet 104 = .ok (.lconst 0, 1) := by decide +kernel
theorem dX9_sheet_105 : decode cX9_sheet 105 = .ok (.lastore, 1) := by decide +kernel
theorem dX9_sheet_106 : decode cX9_sheet 106 = .ok (.iinc 4 1, 3) := by decide +kernel
theorem dX9_sheet_109 : decode cX9_sheet 109 = .ok (.goto (-23), 3) := by decide +kernel
theorem dX9_sheet_112 : decode cX9_sheet 112 = .ok (.aload_n 0, 1) := by decide +kernel
theorem dX9_sheet_113 : decode cX9_sheet 113 = .ok (.getfield 28, 3) := by decide +kernel
theorem dX9_sheet_116 : decode cX9_sheet 116 = .ok (.iload_n 1, 1) := by decide +kernel
theorem dX9_sheet_117 : decode cX9_sheet 117 = .ok (.iaload, 1) := by decide +kernel
theorem dX9_sheet_118 : decode cX9_sheet 118 = .ok (.ireturn, 1) := by decide +kernel
set_option maxRecDepth 20000 in
theorem ggX9_write_X9_isSheet : GoodIn wsX9_write wsX9_isSheet := goodIn_r _ [9, 10, 11, 8, 12] (by decide +kernel) (by decide +kernel)
set_option maxRecDepth 20000 in
theorem gX9_write_X9_isSheet : GoodIn wsX9_write (va_wsS RX9 278 yX9_isSheet wsX9_isSheet) := goodIn_app (goodIn_of _ (by decide +kernel)) ggX9_write_X9_isSheet
set_option maxRecDepth 20000 in
theorem ggX9_write_X9_finds : GoodIn wsX9_write wsX9_finds := goodIn_r _ [16, 17, 1, 21, 22, 23, 24, 25, 26, 27, 28, 29, 30, 31, 32, 33, 34, 35, 36, 37, 38, 39, 40] (by decide +kernel) (by decide +kernel)
set_option maxRecDepth 20000 in
theorem gX9_write_X9_finds : GoodIn wsX9_write (wsV RX9 64 RX9 yX9_finds wsX9_finds) := goodIn_app (goodIn_of _ (by decide +kernel)) ggX9_write_X9_finds
set_option maxRecDepth 20000 in
theorem ggX9_write_X9_in : GoodIn wsX9_write wsX9_in := goodIn_r _ [12] (by decide +kernel) (by decide +kernel)
set_option maxRecDepth 20000 in
theorem gX9_write_X9_in : GoodIn wsX9_write (va_wsS RX9 49 yX9_in wsX9_in) := goodIn_app (goodIn_of _ (by decide +kernel)) ggX9_write_X9_in
set_option maxRecDepth 20000 in
theorem ggX9_write_X9_narrow : GoodIn wsX9_write wsX9_narrow := goodIn_r _ [20] (by decide +kernel) (by decide +kernel)
set_option maxRecDepth 20000 in
theorem gX9_write_X9_narrow : GoodIn wsX9_write (va_wsS RX9 283 yX9_narrow wsX9_narrow) := goodIn_app (goodIn_of _ (by decide +kernel)) ggX9_write_X9_narrow
theorem dX9_write_0 : decode cX9_write 0 = .ok (.iload_n 1, 1) := by decide +kernel
theorem dX9_write_1 : decode cX9_write 1 = .ok (.invokestatic 278, 3) := by decide +kernel
theorem dX9_write_4 : decode cX9_write 4 = .ok (.ifCond .ne 11, 3) := by decide +kernel
theorem dX9_write_7 : decode cX9_write 7 = .ok (.aload_n 0, 1) := by decide +kernel
theorem dX9_write_8 : decode cX9_write 8 = .ok (.ldc 48, 2) := by decide +kernel
theorem dX9_write_10 : decode cX9_write 10 = .ok (.invokevirtual 64, 3) := by decide +kernel
theorem dX9_write_13 : decode cX9_write 13 = .ok (.i2l, 1) := by decide +kernel
theorem dX9_write_14 : decode cX9_write 14 = .ok (.lreturn, 1) := by decide +kernel
theorem dX9_write_15 : decode cX9_write 15 = .ok (.aload_n 0, 1) := by decide +kernel
theorem dX9_write_16 : decode cX9_write 16 = .ok (.getfield 25, 3) := by decide +kernel
theorem dX9_write_19 : decode cX9_write 19 = .ok (.iload_n 1, 1) := by decide +kernel
theorem dX9_write_20 : decode cX9_write 20 = .ok (.iaload, 1) := by decide +kernel
theorem dX9_write_21 : decode cX9_write 21 = .ok (.ifCond .ne 12, 3) := by decide +kernel
theorem dX9_write_24 : decode cX9_write 24 = .ok (.aload_n 0, 1) := by decide +kernel
theorem dX9_write_25 : decode cX9_write 25 = .ok (.ldc_w 282, 3) := by decide +kernel
theorem dX9_write_28 : decode cX9_write 28 = .ok (.invokevirtual 64, 3) := by decide +kernel
theorem dX9_write_31 : decode cX9_write 31 = .ok (.i2l, 1) := by decide +kernel
theorem dX9_write_32 : decode cX9_write 32 = .ok (.lreturn, 1) := by decide +kernel
theorem dX9_write_33 : decode cX9_write 33 = .ok (.iload_n 2, 1) := by decide +kernel
theorem dX9_write_34 : decode cX9_write 34 = .ok (.iconst 0, 1) := by decide +kernel
theorem dX9_write_35 : decode cX9_write 35 = .ok (.aload_n 0, 1) := by decide +kernel
theorem dX9_write_36 : decode cX9_write 36 = .ok (.getfield 28, 3) := by decide +kernel
theorem dX9_write_39 : decode cX9_write 39 = .ok (.iload_n 1, 1) := by decide +kernel
theorem dX9_write_40 : decode cX9_write 40 = .ok (.iaload, 1) := by decide +kernel
theorem dX9_write_41 : decode cX9_write 41 = .ok (.iconst 1, 1) := by decide +kernel
theorem dX9_write_42 : decode cX9_write 42 = .ok (.isub, 1) := by decide +kernel
theorem dX9_write_43 : decode cX9_write 43 = .ok (.invokestatic 49, 3) := by decide +kernel
theorem dX9_write_46 : decode cX9_write 46 = .ok (.ifCond .ne 11, 3) := by decide +kernel
theorem dX9_write_49 : decode cX9_write 49 = .ok (.aload_n 0, 1) := by decide +kernel
theorem dX9_write_50 : decode cX9_write 50 = .ok (.ldc 48, 2) := by decide +kernel
theorem dX9_write_52 : decode cX9_write 52 = .ok (.invokevirtual 64, 3) := by decide +kernel
theorem dX9_write_55 : decode cX9_write 55 = .ok (.i2l, 1) := by decide +kernel
theorem dX9_write_56 : decode cX9_write 56 = .ok (.lreturn, 1) := by decide +kernel
theorem dX9_write_57 : decode cX9_write 57 = .ok (.aload_n 0, 1) := by decide +kernel
theorem dX9_write_58 : decode cX9_write 58 = .ok (.getfield 31, 3) := by decide +kernel
theorem dX9_write_61 : decode cX9_write 61 = .ok (.bipush 40, 2) := by decide +kernel
theorem dX9_write_63 : decode cX9_write 63 = .ok (.iload_n 1, 1) := by decide +kernel
theorem dX9_write_64 : decode cX9_write 64 = .ok (.imul, 1) := by decide +kernel
theorem dX9_write_65 : decode cX9_write 65 = .ok (.iload_n 2, 1) := by decide +kernel
theorem dX9_write_66 : decode cX9_write 66 = .ok (.iadd, 1) := by decide +kernel
theorem dX9_write_67 : decode cX9_write 67 = .ok (.laload, 1) := by decide +kernel
theorem dX9_write_68 : decode cX9_write 68 = .ok (.lstore 5, 2) := by decide +kernel
theorem dX9_write_70 : decode cX9_write 70 = .ok (.aload_n 0, 1) := by decide +kernel
theorem dX9_write_71 : decode cX9_write 71 = .ok (.getfield 31, 3) := by decide +kernel
theorem dX9_write_74 : decode cX9_write 74 = .ok (.bipush 40, 2) := by decide +kernel
theorem dX9_write_76 : decode cX9_write 76 = .ok (.iload_n 1, 1) := by decide +kernel
theorem dX9_write_77 : decode cX9_write 77 = .ok (.imul, 1) := by decide +kernel
theorem dX9_write_78 : decode cX9_write 78 = .ok (.iload_n 2, 1) := by decide +kernel
theorem dX9_write_79 : decode cX9_write 79 = .ok (.iadd, 1) := by decide +kernel
theorem dX9_write_80 : decode cX9_write 80 = .ok (.aload_n 0, 1) := by decide +kernel
theorem dX9_write_81 : decode cX9_write 81 = .ok (.getfield 25, 3) := by decide +kernel
theorem dX9_write_84 : decode cX9_write 84 = .ok (.iload_n 1, 1) := by decide +kernel
theorem dX9_write_85 : decode cX9_write 85 = .ok (.iaload, 1) := by decide +kernel
theorem dX9_write_86 : decode cX9_write 86 = .ok (.lload_n 3, 1) := by decide +kernel
theorem dX9_write_87 : decode cX9_write 87 = .ok (.invokestatic 283, 3) := by decide +kernel
theorem dX9_write_90 : decode cX9_write 90 = .ok (.lastore, 1) := by decide +kernel
theorem dX9_write_91 : decode cX9_write 91 = .ok (.lload 5, 2) := by decide +kernel
theorem dX9_write_93 : decode cX9_write 93 = .ok (.lreturn, 1) := by decide +kernel
theorem dX9_isPart_0 : decode cX9_isPart 0 = .ok (.iload_n 2, 1) := by decide +kernel
theorem dX9_isPart_1 : decode cX9_isPart 1 = .ok (.ifCond .lt 33, 3) := by decide +kernel
theorem dX9_isPart_4 : decode cX9_isPart 4 = .ok (.iload_n 3, 1) := by decide +kernel
theorem dX9_isPart_5 : decode cX9_isPart 5 = .ok (.ifCond .lt 29, 3) := by decide +kernel
theorem dX9_isPart_8 : decode cX9_isPart 8 = .ok (.iload_n 3, 1) := by decide +kernel
theorem dX9_isPart_9 : decode cX9_isPart 9 = .ok (.aload_n 0, 1) := by decide +kernel
theorem dX9_isPart_10 : decode cX9_isPart 10 = .ok (.getfield 28, 3) := by decide +kernel
theorem dX9_isPart_13 : decode cX9_isPart 13 = .ok (.iload_n 1, 1) := by decide +kernel
theorem dX9_isPart_14 : decode cX9_isPart 14 = .ok (.iaload, 1) := by decide +kernel
theorem dX9_isPart_15 : decode cX9_isPart 15 = .ok (.if_icmp .gt 19, 3) := by decide +kernel
theorem dX9_isPart_18 : decode cX9_isPart 18 = .ok (.iload_n 2, 1) := by decide +kernel
theorem dX9_isPart_19 : decode cX9_isPart 19 = .ok (.aload_n 0, 1) := by decide +kernel
theorem dX9_isPart_20 : decode cX9_isPart 20 = .ok (.getfield 28, 3) := by decide +kernel
theorem dX9_isPart_23 : decode cX9_isPart 23 = .ok (.iload_n 1, 1) := by decide +kernel
theorem dX9_isPart_24 : decode cX9_isPart 24 = .ok (.iaload, 1) := by decide +kernel
theorem dX9_isPart_25 : decode cX9_isPart 25 = .ok (.iload_n 3, 1) := by decide +kernel
theorem dX9_isPart_26 : decode cX9_isPart 26 = .ok (.isub, 1) := by decide +kernel
theorem dX9_isPart_27 : decode cX9_isPart 27 = .ok (.if_icmp .gt 7, 3) := by decide +kernel
theorem dX9_isPart_30 : decode cX9_isPart 30 = .ok (.iconst 1, 1) := by decide +kernel
theorem dX9_isPart_31 : decode cX9_isPart 31 = .ok (.goto 4, 3) := by decide +kernel
theorem dX9_isPart_34 : decode cX9_isPart 34 = .ok (.iconst 0, 1) := by decide +kernel
theorem dX9_isPart_35 : decode cX9_isPart 35 = .ok (.ireturn, 1) := by decide +kernel
set_option maxRecDepth 20000 in
theorem ggX9_copy_X9_isSheet : GoodIn wsX9_copy wsX9_isSheet := goodIn_r _ [10, 11, 12, 9, 13] (by decide +kernel) (by decide +kernel)
set_option maxRecDepth 20000 in
theorem gX9_copy_X9_isSheet : GoodIn wsX9_copy (va_wsS RX9 278 yX9_isSheet wsX9_isSheet) := goodIn_app (goodIn_of _ (by decide +kernel)) ggX9_copy_X9_isSheet
set_option maxRecDepth 20000 in
theorem ggX9_copy_X9_finds : GoodIn wsX9_copy wsX9_finds := goodIn_r _ [17, 18, 1, 24, 25, 26, 27, 28, 29, 30, 31, 32, 33, 34, 35, 36, 37, 38, 39, 40, 41, 42, 43] (by decide +kernel) (by decide +kernel)
set_option maxRecDepth 20000 in
theorem gX9_copy_X9_finds : GoodIn wsX9_copy (wsV RX9 64 RX9 yX9_finds wsX9_finds) := goodIn_app (goodIn_of _ (by decide +kernel)) ggX9_copy_X9_finds
set_option maxRecDepth 20000 in
theorem ggX9_copy_X9_isPart : GoodIn wsX9_copy wsX9_isPart := goodIn_r _ [22, 23, 24, 25, 26, 27, 28, 29, 30, 31, 32, 33, 34, 35, 36, 37, 38, 39, 40, 41, 42, 43] (by decide +kernel) (by decide +kernel)
set_option maxRecDepth 20000 in
theorem gX9_copy_X9_isPart : GoodIn wsX9_copy (wsV RX9 287 RX9 yX9_isPart wsX9_isPart) := goodIn_app (goodIn_of _ (by decide +kernel)) ggX9_copy_X9_isPart
theorem dX9_copy_0 : decode cX9_copy 0 = .ok (.iload_n 1, 1) := by decide +kernel
theorem dX9_copy_1 : decode cX9_copy 1 = .ok (.invokestatic 278, 3) := by decide +kernel
theorem dX9_copy_4 : decode cX9_copy 4 = .ok (.ifCond .eq 10, 3) := by decide +kernel
theorem dX9_copy_7 : decode cX9_copy 7 = .ok (.iload_n 3, 1) := by decide +kernel
theorem dX9_copy_8 : decode cX9_copy 8 = .ok (.invokestatic 278, 3) := by decide +kernel
theorem dX9_copy_11 : decode cX9_copy 11 = .ok (.ifCond .ne 10, 3) := by decide +kernel
theorem dX9_copy_14 : decode cX9_copy 14 = .ok (.aload_n 0, 1) := by decide +kernel
theorem dX9_copy_15 : decode cX9_copy 15 = .ok (.ldc 48, 2) := by decide +kernel
theorem dX9_copy_17 : decode cX9_copy 17 = .ok (.invokevirtual 64, 3) := by decide +kernel
theorem dX9_copy_20 : decode cX9_copy 20 = .ok (.ireturn, 1) := by decide +kernel
theorem dX9_copy_21 : decode cX9_copy 21 = .ok (.aload_n 0, 1) := by decide +kernel
theorem dX9_copy_22 : decode cX9_copy 22 = .ok (.getfield 25, 3) := by decide +kernel
theorem dX9_copy_25 : decode cX9_copy 25 = .ok (.iload_n 1, 1) := by decide +kernel
theorem dX9_copy_26 : decode cX9_copy 26 = .ok (.iaload, 1) := by decide +kernel
theorem dX9_copy_27 : decode cX9_copy 27 = .ok (.ifCond .eq 12, 3) := by decide +kernel
theorem dX9_copy_30 : decode cX9_copy 30 = .ok (.aload_n 0, 1) := by decide +kernel
theorem dX9_copy_31 : decode cX9_copy 31 = .ok (.getfield 25, 3) := by decide +kernel
theorem dX9_copy_34 : decode cX9_copy 34 = .ok (.iload_n 3, 1) := by decide +kernel
theorem dX9_copy_35 : decode cX9_copy 35 = .ok (.iaload, 1) := by decide +kernel
theorem dX9_copy_36 : decode cX9_copy 36 = .ok (.ifCond .ne 11, 3) := by decide +kernel
theorem dX9_copy_39 : decode cX9_copy 39 = .ok (.aload_n 0, 1) := by decide +kernel
theorem dX9_copy_40 : decode cX9_copy 40 = .ok (.ldc_w 282, 3) := by decide +kernel
theorem dX9_copy_43 : decode cX9_copy 43 = .ok (.invokevirtual 64, 3) := by decide +kernel
theorem dX9_copy_46 : decode cX9_copy 46 = .ok (.ireturn, 1) := by decide +kernel
theorem dX9_copy_47 : decode cX9_copy 47 = .ok (.aload_n 0, 1) := by decide +kernel
theorem dX9_copy_48 : decode cX9_copy 48 = .ok (.getfield 25, 3) := by decide +kernel
theorem dX9_copy_51 : decode cX9_copy 51 = .ok (.iload_n 1, 1) := by decide +kernel
theorem dX9_copy_52 : decode cX9_copy 52 = .ok (.iaload, 1) := by decide +kernel
theorem dX9_copy_53 : decode cX9_copy 53 = .ok (.aload_n 0, 1) := by decide +kernel
theorem dX9_copy_54 : decode cX9_copy 54 = .ok (.getfield 25, 3) := by decide +kernel
theorem dX9_copy_57 : decode cX9_copy 57 = .ok (.iload_n 3, 1) := by decide +kernel
theorem dX9_copy_58 : decode cX9_copy 58 = .ok (.iaload, 1) := by decide +kernel
theorem dX9_copy_59 : decode cX9_copy 59 = .ok (.if_icmp .eq 10, 3) := by decide +kernel
theorem dX9_copy_62 : decode cX9_copy 62 = .ok (.aload_n 0, 1) := by decide +kernel
theorem dX9_copy_63 : decode cX9_copy 63 = .ok (.ldc 107, 2) := by decide +kernel
theorem dX9_copy_65 : decode cX9_copy 65 = .ok (.invokevirtual 64, 3) := by decide +kernel
theorem dX9_copy_68 : decode cX9_copy 68 = .ok (.ireturn, 1) := by decide +kernel
theorem dX9_copy_69 : decode cX9_copy 69 = .ok (.aload_n 0, 1) := by decide +kernel
theorem dX9_copy_70 : decode cX9_copy 70 = .ok (.iload_n 1, 1) := by decide +kernel
theorem dX9_copy_71 : decode cX9_copy 71 = .ok (.iload_n 2, 1) := by decide +kernel
theorem dX9_copy_72 : decode cX9_copy 72 = .ok (.iload 5, 2) := by decide +kernel
theorem dX9_copy_74 : decode cX9_copy 74 = .ok (.invokevirtual 287, 3) := by decide +kernel
theorem dX9_copy_77 : decode cX9_copy 77 = .ok (.ifCond .eq 15, 3) := by decide +kernel
theorem dX9_copy_80 : decode cX9_copy 80 = .ok (.aload_n 0, 1) := by decide +kernel
theorem dX9_copy_81 : decode cX9_copy 81 = .ok (.iload_n 3, 1) := by decide +kernel
theorem dX9_copy_82 : decode cX9_copy 82 = .ok (.iload 4, 2) := by decide +kernel
theorem dX9_copy_84 : decode cX9_copy 84 = .ok (.iload 5, 2) := by decide +kernel
theorem dX9_copy_86 : decode cX9_copy 86 = .ok (.invokevirtual 287, 3) := by decide +kernel
theorem dX9_copy_89 : decode cX9_copy 89 = .ok (.ifCond .ne 10, 3) := by decide +kernel
theorem dX9_copy_92 : decode cX9_copy 92 = .ok (.aload_n 0, 1) := by decide +kernel
theorem dX9_copy_93 : decode cX9_copy 93 = .ok (.ldc 48, 2) := by decide +kernel
theorem dX9_copy_95 : decode cX9_copy 95 = .ok (.invokevirtual 64, 3) := by decide +kernel
theorem dX9_copy_98 : decode cX9_copy 98 = .ok (.ireturn, 1) := by decide +kernel
theorem dX9_copy_99 : decode cX9_copy 99 = .ok (.iconst 0, 1) := by decide +kernel
theorem dX9_copy_100 : decode cX9_copy 100 = .ok (.istore 6, 2) := by decide +kernel
theorem dX9_copy_102 : decode cX9_copy 102 = .ok (.iload 6, 2) := by decide +kernel
theorem dX9_copy_104 : decode cX9_copy 104 = .ok (.iload 5, 2) := by decide +kernel
theorem dX9_copy_106 : decode cX9_copy 106 = .ok (.if_icmp .ge 30, 3) := by decide +kernel
theorem dX9_copy_109 : decode cX9_copy 109 = .ok (.aload_n 0, 1) := by decide +kernel
theorem dX9_copy_110 : decode cX9_copy 110 = .ok (.getfield 35, 3) := by decide +kernel
theorem dX9_copy_113 : decode cX9_copy 113 = .ok (.iload 6, 2) := by decide +kernel
theorem dX9_copy_115 : decode cX9_copy 115 = .ok (.aload_n 0, 1) := by decide +kernel
theorem dX9_copy_116 : decode cX9_copy 116 = .ok (.getfield 31, 3) := by decide +kernel
theorem dX9_copy_119 : decode cX9_copy 119 = .ok (.bipush 40, 2) := by decide +kernel
theorem dX9_copy_121 : decode cX9_copy 121 = .ok (.iload_n 1, 1) := by decide +kernel
theorem dX9_copy_122 : decode cX9_copy 122 = .ok (.imul, 1) := by decide +kernel
theorem dX9_copy_123 : decode cX9_copy 123 = .ok (.iload_n 2, 1) := by decide +kernel
theorem dX9_copy_124 : decode cX9_copy 124 = .ok (.iadd, 1) := by decide +kernel
theorem dX9_copy_125 : decode cX9_copy 125 = .ok (.iload 6, 2) := by decide +kernel
theorem dX9_copy_127 : decode cX9_copy 127 = .ok (.iadd, 1) := by decide +kernel
theorem dX9_copy_128 : decode cX9_copy 128 = .ok (.laload, 1) := by decide +kernel
theorem dX9_copy_129 : decode cX9_copy 129 = .ok (.lastore, 1) := by decide +kernel
theorem dX9_copy_130 : decode cX9_copy 130 = .ok (.iinc 6 1, 3) := by decide +kernel
theorem dX9_copy_133 : decode cX9_copy 133 = .ok (.goto (-31), 3) := by decide +kernel
theorem dX9_copy_136 : decode cX9_copy 136 = .ok (.iconst 0, 1) := by decide +kernel
theorem dX9_copy_137 : decode cX9_copy 137 = .ok (.istore 6, 2) := by decide +kernel
theorem dX9_copy_139 : decode cX9_copy 139 = .ok (.iload 6, 2) := by decide +kernel
theorem dX9_copy_141 : decode cX9_copy 141 = .ok (.iload 5, 2) := by decide +kernel
theorem dX9_copy_143 : decode cX9_copy 143 = .ok (.if_icmp .ge 31, 3) := by decide +kernel
theorem dX9_copy_146 : decode cX9_copy 146 = .ok (.aload_n 0, 1) := by decide +kernel
theorem dX9_copy_147 : decode cX9_copy 147 = .ok (.getfield 31, 3) := by decide +kernel
theorem dX9_copy_150 : decode cX9_copy 150 = .ok (.bipush 40, 2) := by decide +kernel
theorem dX9_copy_152 : decode cX9_copy 152 = .ok (.iload_n 3, 1) := by decide +kernel
theorem dX9_copy_153 : decode cX9_copy 153 = .ok (.imul, 1) := by decide +kernel
theorem dX9_copy_154 : decode cX9_copy 154 = .ok (.iload 4, 2) := by decide +kernel
theorem dX9_copy_156 : decode cX9_copy 156 = .ok (.iadd, 1) := by decide +kernel
theorem dX9_copy_157 : decode cX9_copy 157 = .ok (.iload 6, 2) := by decide +kernel
theorem dX9_copy_159 : decode cX9_copy 159 = .ok (.iadd, 1) := by decide +kernel
theorem dX9_copy_160 : decode cX9_copy 160 = .ok (.aload_n 0, 1) := by decide +kernel
theorem dX9_copy_161 : decode cX9_copy 161 = .ok (.getfield 35, 3) := by decide +kernel
theorem dX9_copy_164 : decode cX9_copy 164 = .ok (.iload 6, 2) := by decide +kernel
theorem dX9_copy_166 : decode cX9_copy 166 = .ok (.laload, 1) := by decide +kernel
theorem dX9_copy_167 : decode cX9_copy 167 = .ok (.lastore, 1) := by decide +kernel
theorem dX9_copy_168 : decode cX9_copy 168 = .ok (.iinc 6 1, 3) := by decide +kernel
theorem dX9_copy_171 : decode cX9_copy 171 = .ok (.goto (-32), 3) := by decide +kernel
theorem dX9_copy_174 : decode cX9_copy 174 = .ok (.iload 5, 2) := by decide +kernel
theorem dX9_copy_176 : decode cX9_copy 176 = .ok (.ireturn, 1) := by decide +kernel
set_option maxRecDepth 20000 in
theorem ggX9_lays_X9_isSheet : GoodIn wsX9_lays wsX9_isSheet := goodIn_r _ [10, 11, 12, 9, 13] (by decide +kernel) (by decide +kernel)
set_option maxRecDepth 20000 in
theorem gX9_lays_X9_isSheet : GoodIn wsX9_lays (va_wsS RX9 278 yX9_isSheet wsX9_isSheet) := goodIn_app (goodIn_of _ (by decide +kernel)) ggX9_lays_X9_isSheet
set_option maxRecDepth 20000 in
theorem ggX9_lays_X9_isCandle : GoodIn wsX9_lays wsX9_isCandle := goodIn_r _ [17, 18, 11, 12, 9, 13, 67, 68, 69, 70, 71, 72, 73, 74, 75, 76, 77, 78, 79, 80, 81, 82, 83, 84, 85, 86] (by decide +kernel) (by decide +kernel)
set_option maxRecDepth 20000 in
theorem gX9_lays_X9_isCandle : GoodIn wsX9_lays (wsV RX9 97 RX9 yX9_isCandle wsX9_isCandle) := goodIn_app (goodIn_of _ (by decide +kernel)) ggX9_lays_X9_isCandle
set_option maxRecDepth 20000 in
theorem ggX9_lays_X9_finds : GoodIn wsX9_lays wsX9_finds := goodIn_r _ [22, 23, 1, 67, 68, 69, 70, 71, 72, 73, 74, 75, 76, 77, 78, 79, 80, 81, 82, 83, 84, 85, 86] (by decide +kernel) (by decide +kernel)
set_option maxRecDepth 20000 in
theorem gX9_lays_X9_finds : GoodIn wsX9_lays (wsV RX9 64 RX9 yX9_finds wsX9_finds) := goodIn_app (goodIn_of _ (by decide +kernel)) ggX9_lays_X9_finds
set_option maxRecDepth 20000 in
theorem ggX9_lays_X9_many : GoodIn wsX9_lays wsX9_many := goodIn_r _ [27, 18, 28, 29, 9, 30, 67, 68, 69, 70, 71, 72, 73, 74, 75, 76, 77, 78, 79, 80, 81, 82, 83, 84, 85, 86] (by decide +kernel) (by decide +kernel)
set_option maxRecDepth 20000 in
theorem gX9_lays_X9_many : GoodIn wsX9_lays (wsV RX9 81 RX9 yX9_many wsX9_many) := goodIn_app (goodIn_of _ (by decide +kernel)) ggX9_lays_X9_many
set_option maxRecDepth 20000 in
theorem ggX9_lays_X9_dips : GoodIn wsX9_lays wsX9_dips := goodIn_r _ [34, 18, 24, 25, 26, 9, 27, 28, 29, 30, 35, 36, 37, 38, 39, 40, 41, 42, 43, 44, 45, 46, 47, 48, 49, 50, 51, 52, 53, 54, 55, 56, 57, 58, 59, 60, 61, 62, 63, 64, 65, 66, 67, 68, 69, 70, 71, 72, 73, 74, 75, 76, 77, 78, 79, 80, 81, 82, 83, 84, 85, 86] (by decide +kernel) (by decide +kernel)
set_option maxRecDepth 20000 in
theorem gX9_lays_X9_dips : GoodIn wsX9_lays (wsV RX9 122 RX9 yX9_dips wsX9_dips) := goodIn_app (goodIn_of _ (by decide +kernel)) ggX9_lays_X9_dips
theorem dX9_lays_0 : decode cX9_lays 0 = .ok (.iload_n 1, 1) := by decide +kernel
theorem dX9_lays_1 : decode cX9_lays 1 = .ok (.invokestatic 278, 3) := by decide +kernel
theorem dX9_lays_4 : decode cX9_lays 4 = .ok (.ifCond .ne 8, 3) := by decide +kernel
theorem dX9_lays_7 : decode cX9_lays 7 = .ok (.ldc 48, 2) := by decide +kernel
theorem dX9_lays_9 : decode cX9_lays 9 = .ok (.goto 32, 3) := by decide +kernel
theorem dX9_lays_12 : decode cX9_lays 12 = .ok (.aload_n 0, 1) := by decide +kernel
theorem dX9_lays_13 : decode cX9_lays 13 = .ok (.getfield 25, 3) := by decide +kernel
theorem dX9_lays_16 : decode cX9_lays 16 = .ok (.iload_n 1, 1) := by decide +kernel
theorem dX9_lays_17 : decode cX9_lays 17 = .ok (.iaload, 1) := by decide +kernel
theorem dX9_lays_18 : decode cX9_lays 18 = .ok (.ifCond .ne 9, 3) := by decide +kernel
theorem dX9_lays_21 : decode cX9_lays 21 = .ok (.ldc_w 282, 3) := by decide +kernel
theorem dX9_lays_24 : decode cX9_lays 24 = .ok (.goto 17, 3) := by decide +kernel
theorem dX9_lays_27 : decode cX9_lays 27 = .ok (.aload_n 0, 1) := by decide +kernel
theorem dX9_lays_28 : decode cX9_lays 28 = .ok (.iload_n 2, 1) := by decide +kernel
theorem dX9_lays_29 : decode cX9_lays 29 = .ok (.invokevirtual 97, 3) := by decide +kernel
theorem dX9_lays_32 : decode cX9_lays 32 = .ok (.ifCond .ne 8, 3) := by decide +kernel
theorem dX9_lays_35 : decode cX9_lays 35 = .ok (.ldc 48, 2) := by decide +kernel
theorem dX9_lays_37 : decode cX9_lays 37 = .ok (.goto 4, 3) := by decide +kernel
theorem dX9_lays_40 : decode cX9_lays 40 = .ok (.iconst 0, 1) := by decide +kernel
theorem dX9_lays_41 : decode cX9_lays 41 = .ok (.istore_n 3, 1) := by decide +kernel
theorem dX9_lays_42 : decode cX9_lays 42 = .ok (.iload_n 3, 1) := by decide +kernel
theorem dX9_lays_43 : decode cX9_lays 43 = .ok (.ifCond .eq 9, 3) := by decide +kernel
theorem dX9_lays_46 : decode cX9_lays 46 = .ok (.aload_n 0, 1) := by decide +kernel
theorem dX9_lays_47 : decode cX9_lays 47 = .ok (.iload_n 3, 1) := by decide +kernel
theorem dX9_lays_48 : decode cX9_lays 48 = .ok (.invokevirtual 64, 3) := by decide +kernel
theorem dX9_lays_51 : decode cX9_lays 51 = .ok (.ireturn, 1) := by decide +kernel
theorem dX9_lays_52 : decode cX9_lays 52 = .ok (.iconst 0, 1) := by decide +kernel
theorem dX9_lays_53 : decode cX9_lays 53 = .ok (.istore 4, 2) := by decide +kernel
theorem dX9_lays_55 : decode cX9_lays 55 = .ok (.iload 4, 2) := by decide +kernel
theorem dX9_lays_57 : decode cX9_lays 57 = .ok (.aload_n 0, 1) := by decide +kernel
theorem dX9_lays_58 : decode cX9_lays 58 = .ok (.getfield 28, 3) := by decide +kernel
theorem dX9_lays_61 : decode cX9_lays 61 = .ok (.iload_n 1, 1) := by decide +kernel
theorem dX9_lays_62 : decode cX9_lays 62 = .ok (.iaload, 1) := by decide +kernel
theorem dX9_lays_63 : decode cX9_lays 63 = .ok (.if_icmp .ge 73, 3) := by decide +kernel
theorem dX9_lays_66 : decode cX9_lays 66 = .ok (.aload_n 0, 1) := by decide +kernel
theorem dX9_lays_67 : decode cX9_lays 67 = .ok (.iload_n 2, 1) := by decide +kernel
theorem dX9_lays_68 : decode cX9_lays 68 = .ok (.invokevirtual 81, 3) := by decide +kernel
theorem dX9_lays_71 : decode cX9_lays 71 = .ok (.bipush 40, 2) := by decide +kernel
theorem dX9_lays_73 : decode cX9_lays 73 = .ok (.if_icmp .ge 63, 3) := by decide +kernel
theorem dX9_lays_76 : decode cX9_lays 76 = .ok (.aload_n 0, 1) := by decide +kernel
theorem dX9_lays_77 : decode cX9_lays 77 = .ok (.getfield 31, 3) := by decide +kernel
theorem dX9_lays_80 : decode cX9_lays 80 = .ok (.bipush 40, 2) := by decide +kernel
theorem dX9_lays_82 : decode cX9_lays 82 = .ok (.iload_n 1, 1) := by decide +kernel
theorem dX9_lays_83 : decode cX9_lays 83 = .ok (.imul, 1) := by decide +kernel
theorem dX9_lays_84 : decode cX9_lays 84 = .ok (.iload 4, 2) := by decide +kernel
theorem dX9_lays_86 : decode cX9_lays 86 = .ok (.iadd, 1) := by decide +kernel
theorem dX9_lays_87 : decode cX9_lays 87 = .ok (.laload, 1) := by decide +kernel
theorem dX9_lays_88 : decode cX9_lays 88 = .ok (.lconst 0, 1) := by decide +kernel
theorem dX9_lays_89 : decode cX9_lays 89 = .ok (.lcmp, 1) := by decide +kernel
theorem dX9_lays_90 : decode cX9_lays 90 = .ok (.ifCond .lt 46, 3) := by decide +kernel
theorem dX9_lays_93 : decode cX9_lays 93 = .ok (.aload_n 0, 1) := by decide +kernel
theorem dX9_lays_94 : decode cX9_lays 94 = .ok (.getfield 31, 3) := by decide +kernel
theorem dX9_lays_97 : decode cX9_lays 97 = .ok (.bipush 40, 2) := by decide +kernel
theorem dX9_lays_99 : decode cX9_lays 99 = .ok (.iload_n 1, 1) := by decide +kernel
theorem dX9_lays_100 : decode cX9_lays 100 = .ok (.imul, 1) := by decide +kernel
theorem dX9_lays_101 : decode cX9_lays 101 = .ok (.iload 4, 2) := by decide +kernel
theorem dX9_lays_103 : decode cX9_lays 103 = .ok (.iadd, 1) := by decide +kernel
theorem dX9_lays_104 : decode cX9_lays 104 = .ok (.laload, 1) := by decide +kernel
theorem dX9_lays_105 : decode cX9_lays 105 = .ok (.ldc2_w 290, 3) := by decide +kernel
theorem dX9_lays_108 : decode cX9_lays 108 = .ok (.lcmp, 1) := by decide +kernel
theorem dX9_lays_109 : decode cX9_lays 109 = .ok (.ifCond .ge 27, 3) := by decide +kernel
theorem dX9_lays_112 : decode cX9_lays 112 = .ok (.aload_n 0, 1) := by decide +kernel
theorem dX9_lays_113 : decode cX9_lays 113 = .ok (.iload_n 2, 1) := by decide +kernel
theorem dX9_lays_114 : decode cX9_lays 114 = .ok (.aload_n 0, 1) := by decide +kernel
theorem dX9_lays_115 : decode cX9_lays 115 = .ok (.getfield 31, 3) := by decide +kernel
theorem dX9_lays_118 : decode cX9_lays 118 = .ok (.bipush 40, 2) := by decide +kernel
theorem dX9_lays_120 : decode cX9_lays 120 = .ok (.iload_n 1, 1) := by decide +kernel
theorem dX9_lays_121 : decode cX9_lays 121 = .ok (.imul, 1) := by decide +kernel
theorem dX9_lays_122 : decode cX9_lays 122 = .ok (.iload 4, 2) := by decide +kernel
theorem dX9_lays_124 : decode cX9_lays 124 = .ok (.iadd, 1) := by decide +kernel
theorem dX9_lays_125 : decode cX9_lays 125 = .ok (.laload, 1) := by decide +kernel
theorem dX9_lays_126 : decode cX9_lays 126 = .ok (.l2i, 1) := by decide +kernel
theorem dX9_lays_127 : decode cX9_lays 127 = .ok (.invokevirtual 122, 3) := by decide +kernel
theorem dX9_lays_130 : decode cX9_lays 130 = .ok (.iinc 4 1, 3) := by decide +kernel
theorem dX9_lays_133 : decode cX9_lays 133 = .ok (.goto (-78), 3) := by decide +kernel
theorem dX9_lays_136 : decode cX9_lays 136 = .ok (.iload 4, 2) := by decide +kernel
theorem dX9_lays_138 : decode cX9_lays 138 = .ok (.ireturn, 1) := by decide +kernel
set_option maxRecDepth 20000 in
theorem ggX9_show_X9_isSheet : GoodIn wsX9_show wsX9_isSheet := goodIn_r _ [9, 10, 11, 8, 12] (by decide +kernel) (by decide +kernel)
set_option maxRecDepth 20000 in
theorem gX9_show_X9_isSheet : GoodIn wsX9_show (va_wsS RX9 278 yX9_isSheet wsX9_isSheet) := goodIn_app (goodIn_of _ (by decide +kernel)) ggX9_show_X9_isSheet
set_option maxRecDepth 20000 in
theorem ggX9_show_X9_isCandle : GoodIn wsX9_show wsX9_isCandle := goodIn_r _ [16, 17, 10, 11, 8, 12, 37, 38, 39, 40, 41, 42, 43, 44, 45, 46, 47, 48, 49, 50, 51, 52, 53, 54, 55, 56] (by decide +kernel) (by decide +kernel)
set_option maxRecDepth 20000 in
theorem gX9_show_X9_isCandle : GoodIn wsX9_show (wsV RX9 97 RX9 yX9_isCandle wsX9_isCandle) := goodIn_app (goodIn_of _ (by decide +kernel)) ggX9_show_X9_isCandle
set_option maxRecDepth 20000 in
theorem ggX9_show_X9_finds : GoodIn wsX9_show wsX9_finds := goodIn_r _ [21, 22, 1, 37, 38, 39, 40, 41, 42, 43, 44, 45, 46, 47, 48, 49, 50, 51, 52, 53, 54, 55, 56] (by decide +kernel) (by decide +kernel)
set_option maxRecDepth 20000 in
theorem gX9_show_X9_finds : GoodIn wsX9_show (wsV RX9 64 RX9 yX9_finds wsX9_finds) := goodIn_app (goodIn_of _ (by decide +kernel)) ggX9_show_X9_finds
set_option maxRecDepth 20000 in
theorem ggX9_show_X9_many : GoodIn wsX9_show wsX9_many := goodIn_r _ [26, 17, 27, 28, 8, 29, 37, 38, 39, 40, 41, 42, 43, 44, 45, 46, 47, 48, 49, 50, 51, 52, 53, 54, 55, 56] (by decide +kernel) (by decide +kernel)
set_option maxRecDepth 20000 in
theorem gX9_show_X9_many : GoodIn wsX9_show (wsV RX9 81 RX9 yX9_many wsX9_many) := goodIn_app (goodIn_of _ (by decide +kernel)) ggX9_show_X9_many
set_option maxRecDepth 20000 in
theorem ggX9_show_X9_layerOf : GoodIn wsX9_show wsX9_layerOf := goodIn_r _ [33, 17, 27, 28, 8, 29, 37, 38, 39, 40, 41, 42, 43, 44, 45, 46, 47, 48, 49, 50, 51, 52, 53, 54, 55, 56] (by decide +kernel) (by decide +kernel)
set_option maxRecDepth 20000 in
theorem gX9_show_X9_layerOf : GoodIn wsX9_show (wsV RX9 84 RX9 yX9_layerOf wsX9_layerOf) := goodIn_app (goodIn_of _ (by decide +kernel)) ggX9_show_X9_layerOf
set_option maxRecDepth 20000 in
theorem ggX9_show_X9_narrow : GoodIn wsX9_show wsX9_narrow := goodIn_r _ [36] (by decide +kernel) (by decide +kernel)
set_option maxRecDepth 20000 in
theorem gX9_show_X9_narrow : GoodIn wsX9_show (va_wsS RX9 283 yX9_narrow wsX9_narrow) := goodIn_app (goodIn_of _ (by decide +kernel)) ggX9_show_X9_narrow
theorem dX9_show_0 : decode cX9_show 0 = .ok (.iload_n 1, 1) := by decide +kernel
theorem dX9_show_1 : decode cX9_show 1 = .ok (.invokestatic 278, 3) := by decide +kernel
theorem dX9_show_4 : decode cX9_show 4 = .ok (.ifCond .ne 8, 3) := by decide +kernel
theorem dX9_show_7 : decode cX9_show 7 = .ok (.ldc 48, 2) := by decide +kernel
theorem dX9_show_9 : decode cX9_show 9 = .ok (.goto 32, 3) := by decide +kernel
theorem dX9_show_12 : decode cX9_show 12 = .ok (.aload_n 0, 1) := by decide +kernel
theorem dX9_show_13 : decode cX9_show 13 = .ok (.getfield 25, 3) := by decide +kernel
theorem dX9_show_16 : decode cX9_show 16 = .ok (.iload_n 1, 1) := by decide +kernel
theorem dX9_show_17 : decode cX9_show 17 = .ok (.iaload, 1) := by decide +kernel
theorem dX9_show_18 : decode cX9_show 18 = .ok (.ifCond .ne 9, 3) := by decide +kernel
theorem dX9_show_21 : decode cX9_show 21 = .ok (.ldc_w 282, 3) := by decide +kernel
theorem dX9_show_24 : decode cX9_show 24 = .ok (.goto 17, 3) := by decide +kernel
theorem dX9_show_27 : decode cX9_show 27 = .ok (.aload_n 0, 1) := by decide +kernel
theorem dX9_show_28 : decode cX9_show 28 = .ok (.iload_n 2, 1) := by decide +kernel
theorem dX9_show_29 : decode cX9_show 29 = .ok (.invokevirtual 97, 3) := by decide +kernel
theorem dX9_show_32 : decode cX9_show 32 = .ok (.ifCond .ne 8, 3) := by decide +kernel
theorem dX9_show_35 : decode cX9_show 35 = .ok (.ldc 48, 2) := by decide +kernel
theorem dX9_show_37 : decode cX9_show 37 = .ok (.goto 4, 3) := by decide +kernel
theorem dX9_show_40 : decode cX9_show 40 = .ok (.iconst 0, 1) := by decide +kernel
theorem dX9_show_41 : decode cX9_show 41 = .ok (.istore_n 3, 1) := by decide +kernel
theorem dX9_show_42 : decode cX9_show 42 = .ok (.iload_n 3, 1) := by decide +kernel
theorem dX9_show_43 : decode cX9_show 43 = .ok (.ifCond .eq 9, 3) := by decide +kernel
theorem dX9_show_46 : decode cX9_show 46 = .ok (.aload_n 0, 1) := by decide +kernel
theorem dX9_show_47 : decode cX9_show 47 = .ok (.iload_n 3, 1) := by decide +kernel
theorem dX9_show_48 : decode cX9_show 48 = .ok (.invokevirtual 64, 3) := by decide +kernel
theorem dX9_show_51 : decode cX9_show 51 = .ok (.ireturn, 1) := by decide +kernel
theorem dX9_show_52 : decode cX9_show 52 = .ok (.iconst 0, 1) := by decide +kernel
theorem dX9_show_53 : decode cX9_show 53 = .ok (.istore 4, 2) := by decide +kernel
theorem dX9_show_55 : decode cX9_show 55 = .ok (.iload 4, 2) := by decide +kernel
theorem dX9_show_57 : decode cX9_show 57 = .ok (.aload_n 0, 1) := by decide +kernel
theorem dX9_show_58 : decode cX9_show 58 = .ok (.getfield 28, 3) := by decide +kernel
theorem dX9_show_61 : decode cX9_show 61 = .ok (.iload_n 1, 1) := by decide +kernel
theorem dX9_show_62 : decode cX9_show 62 = .ok (.iaload, 1) := by decide +kernel
theorem dX9_show_63 : decode cX9_show 63 = .ok (.if_icmp .ge 48, 3) := by decide +kernel
theorem dX9_show_66 : decode cX9_show 66 = .ok (.iload 4, 2) := by decide +kernel
theorem dX9_show_68 : decode cX9_show 68 = .ok (.aload_n 0, 1) := by decide +kernel
theorem dX9_show_69 : decode cX9_show 69 = .ok (.iload_n 2, 1) := by decide +kernel
theorem dX9_show_70 : decode cX9_show 70 = .ok (.invokevirtual 81, 3) := by decide +kernel
theorem dX9_show_73 : decode cX9_show 73 = .ok (.if_icmp .ge 38, 3) := by decide +kernel
theorem dX9_show_76 : decode cX9_show 76 = .ok (.aload_n 0, 1) := by decide +kernel
theorem dX9_show_77 : decode cX9_show 77 = .ok (.getfield 31, 3) := by decide +kernel
theorem dX9_show_80 : decode cX9_show 80 = .ok (.bipush 40, 2) := by decide +kernel
theorem dX9_show_82 : decode cX9_show 82 = .ok (.iload_n 1, 1) := by decide +kernel
theorem dX9_show_83 : decode cX9_show 83 = .ok (.imul, 1) := by decide +kernel
theorem dX9_show_84 : decode cX9_show 84 = .ok (.iload 4, 2) := by decide +kernel
theorem dX9_show_86 : decode cX9_show 86 = .ok (.iadd, 1) := by decide +kernel
theorem dX9_show_87 : decode cX9_show 87 = .ok (.aload_n 0, 1) := by decide +kernel
theorem dX9_show_88 : decode cX9_show 88 = .ok (.getfield 25, 3) := by decide +kernel
theorem dX9_show_91 : decode cX9_show 91 = .ok (.iload_n 1, 1) := by decide +kernel
theorem dX9_show_92 : decode cX9_show 92 = .ok (.iaload, 1) := by decide +kernel
theorem dX9_show_93 : decode cX9_show 93 = .ok (.aload_n 0, 1) := by decide +kernel
theorem dX9_show_94 : decode cX9_show 94 = .ok (.iload_n 2, 1) := by decide +kernel
theorem dX9_show_95 : decode cX9_show 95 = .ok (.iload 4, 2) := by decide +kernel
theorem dX9_show_97 : decode cX9_show 97 = .ok (.invokevirtual 84, 3) := by decide +kernel
theorem dX9_show_100 : decode cX9_show 100 = .ok (.i2l, 1) := by decide +kernel
theorem dX9_show_101 : decode cX9_show 101 = .ok (.invokestatic 283, 3) := by decide +kernel
theorem dX9_show_104 : decode cX9_show 104 = .ok (.lastore, 1) := by decide +kernel
theorem dX9_show_105 : decode cX9_show 105 = .ok (.iinc 4 1, 3) := by decide +kernel
theorem dX9_show_108 : decode cX9_show 108 = .ok (.goto (-53), 3) := by decide +kernel
theorem dX9_show_111 : decode cX9_show 111 = .ok (.iload 4, 2) := by decide +kernel
theorem dX9_show_113 : decode cX9_show 113 = .ok (.ireturn, 1) := by decide +kernel
set_option maxRecDepth 20000 in
theorem ggX9_isShown_X9_many : GoodIn wsX9_isShown wsX9_many := goodIn_r _ [7, 8, 9, 10, 6, 11, 16, 17, 18, 19, 20, 21, 22, 23, 24, 25, 26, 27, 28, 29, 30, 31, 32, 33, 34, 35] (by decide +kernel) (by decide +kernel)
set_option maxRecDepth 20000 in
theorem gX9_isShown_X9_many : GoodIn wsX9_isShown (wsV RX9 81 RX9 yX9_many wsX9_many) := goodIn_app (goodIn_of _ (by decide +kernel)) ggX9_isShown_X9_many
set_option maxRecDepth 20000 in
theorem ggX9_isShown_X9_layerOf : GoodIn wsX9_isShown wsX9_layerOf := goodIn_r _ [15, 8, 9, 10, 6, 11, 16, 17, 18, 19, 20, 21, 22, 23, 24, 25, 26, 27, 28, 29, 30, 31, 32, 33, 34, 35] (by decide +kernel) (by decide +kernel)
set_option maxRecDepth 20000 in
theorem gX9_isShown_X9_layerOf : GoodIn wsX9_isShown (wsV RX9 84 RX9 yX9_layerOf wsX9_layerOf) := goodIn_app (goodIn_of _ (by decide +kernel)) ggX9_isShown_X9_layerOf
theorem dX9_isShown_0 : decode cX9_isShown 0 = .ok (.aload_n 0, 1) := by decide +kernel
theorem dX9_isShown_1 : decode cX9_isShown 1 = .ok (.iload_n 2, 1) := by decide +kernel
theorem dX9_isShown_2 : decode cX9_isShown 2 = .ok (.invokevirtual 81, 3) := by decide +kernel
theorem dX9_isShown_5 : decode cX9_isShown 5 = .ok (.aload_n 0, 1) := by decide +kernel
theorem dX9_isShown_6 : decode cX9_isShown 6 = .ok (.getfield 28, 3) := by decide +kernel
theorem dX9_isShown_9 : decode cX9_isShown 9 = .ok (.iload_n 1, 1) := by decide +kernel
theorem dX9_isShown_10 : decode cX9_isShown 10 = .ok (.iaload, 1) := by decide +kernel
theorem dX9_isShown_11 : decode cX9_isShown 11 = .ok (.if_icmp .ne 7, 3) := by decide +kernel
theorem dX9_isShown_14 : decode cX9_isShown 14 = .ok (.iconst 1, 1) := by decide +kernel
theorem dX9_isShown_15 : decode cX9_isShown 15 = .ok (.goto 4, 3) := by decide +kernel
theorem dX9_isShown_18 : decode cX9_isShown 18 = .ok (.iconst 0, 1) := by decide +kernel
theorem dX9_isShown_19 : decode cX9_isShown 19 = .ok (.istore_n 3, 1) := by decide +kernel
theorem dX9_isShown_20 : decode cX9_isShown 20 = .ok (.iconst 0, 1) := by decide +kernel
theorem dX9_isShown_21 : decode cX9_isShown 21 = .ok (.istore 4, 2) := by decide +kernel
theorem dX9_isShown_23 : decode cX9_isShown 23 = .ok (.iload_n 3, 1) := by decide +kernel
theorem dX9_isShown_24 : decode cX9_isShown 24 = .ok (.ifCond .eq 49, 3) := by decide +kernel
theorem dX9_isShown_27 : decode cX9_isShown 27 = .ok (.iload 4, 2) := by decide +kernel
theorem dX9_isShown_29 : decode cX9_isShown 29 = .ok (.aload_n 0, 1) := by decide +kernel
theorem dX9_isShown_30 : decode cX9_isShown 30 = .ok (.iload_n 2, 1) := by decide +kernel
theorem dX9_isShown_31 : decode cX9_isShown 31 = .ok (.invokevirtual 81, 3) := by decide +kernel
theorem dX9_isShown_34 : decode cX9_isShown 34 = .ok (.if_icmp .ge 39, 3) := by decide +kernel
theorem dX9_isShown_37 : decode cX9_isShown 37 = .ok (.aload_n 0, 1) := by decide +kernel
theorem dX9_isShown_38 : decode cX9_isShown 38 = .ok (.getfield 31, 3) := by decide +kernel
theorem dX9_isShown_41 : decode cX9_isShown 41 = .ok (.bipush 40, 2) := by decide +kernel
theorem dX9_isShown_43 : decode cX9_isShown 43 = .ok (.iload_n 1, 1) := by decide +kernel
theorem dX9_isShown_44 : decode cX9_isShown 44 = .ok (.imul, 1) := by decide +kernel
theorem dX9_isShown_45 : decode cX9_isShown 45 = .ok (.iload 4, 2) := by decide +kernel
theorem dX9_isShown_47 : decode cX9_isShown 47 = .ok (.iadd, 1) := by decide +kernel
theorem dX9_isShown_48 : decode cX9_isShown 48 = .ok (.laload, 1) := by decide +kernel
theorem dX9_isShown_49 : decode cX9_isShown 49 = .ok (.aload_n 0, 1) := by decide +kernel
theorem dX9_isShown_50 : decode cX9_isShown 50 = .ok (.iload_n 2, 1) := by decide +kernel
theorem dX9_isShown_51 : decode cX9_isShown 51 = .ok (.iload 4, 2) := by decide +kernel
theorem dX9_isShown_53 : decode cX9_isShown 53 = .ok (.invokevirtual 84, 3) := by decide +kernel
theorem dX9_isShown_56 : decode cX9_isShown 56 = .ok (.i2l, 1) := by decide +kernel
theorem dX9_isShown_57 : decode cX9_isShown 57 = .ok (.lcmp, 1) := by decide +kernel
theorem dX9_isShown_58 : decode cX9_isShown 58 = .ok (.ifCond .ne 7, 3) := by decide +kernel
theorem dX9_isShown_61 : decode cX9_isShown 61 = .ok (.iconst 1, 1) := by decide +kernel
theorem dX9_isShown_62 : decode cX9_isShown 62 = .ok (.goto 4, 3) := by decide +kernel
theorem dX9_isShown_65 : decode cX9_isShown 65 = .ok (.iconst 0, 1) := by decide +kernel
theorem dX9_isShown_66 : decode cX9_isShown 66 = .ok (.istore_n 3, 1) := by decide +kernel
theorem dX9_isShown_67 : decode cX9_isShown 67 = .ok (.iinc 4 1, 3) := by decide +kernel
theorem dX9_isShown_70 : decode cX9_isShown 70 = .ok (.goto (-47), 3) := by decide +kernel
theorem dX9_isShown_73 : decode cX9_isShown 73 = .ok (.iload_n 3, 1) := by decide +kernel
theorem dX9_isShown_74 : decode cX9_isShown 74 = .ok (.ireturn, 1) := by decide +kernel
set_option maxRecDepth 20000 in
theorem ggX9_read_X9_isSheet : GoodIn wsX9_read wsX9_isSheet := goodIn_r _ [12, 13, 14, 11, 15] (by decide +kernel) (by decide +kernel)
set_option maxRecDepth 20000 in
theorem gX9_read_X9_isSheet : GoodIn wsX9_read (va_wsS RX9 278 yX9_isSheet wsX9_isSheet) := goodIn_app (goodIn_of _ (by decide +kernel)) ggX9_read_X9_isSheet
set_option maxRecDepth 20000 in
theorem ggX9_read_X9_isKind : GoodIn wsX9_read wsX9_isKind := goodIn_r _ [18, 13, 14, 11, 15] (by decide +kernel) (by decide +kernel)
set_option maxRecDepth 20000 in
theorem gX9_read_X9_isKind : GoodIn wsX9_read (va_wsS RX9 73 yX9_isKind wsX9_isKind) := goodIn_app (goodIn_of _ (by decide +kernel)) ggX9_read_X9_isKind
set_option maxRecDepth 20000 in
theorem ggX9_read_X9_finds : GoodIn wsX9_read wsX9_finds := goodIn_r _ [22, 23, 1, 89, 90, 91, 92, 93, 94, 95, 96, 97, 98, 99, 100, 101, 102, 103, 104, 105, 106, 107, 108] (by decide +kernel) (by decide +kernel)
set_option maxRecDepth 20000 in
theorem gX9_read_X9_finds : GoodIn wsX9_read (wsV RX9 64 RX9 yX9_finds wsX9_finds) := goodIn_app (goodIn_of _ (by decide +kernel)) ggX9_read_X9_finds
set_option maxRecDepth 20000 in
theorem ggX9_read_X9_moveAll : GoodIn wsX9_read wsX9_moveAll := goodIn_r _ [27, 7, 89, 90, 91, 92, 93, 94, 95, 96, 97, 98, 99, 100, 101, 102, 103, 104, 105, 106, 107, 108] (by decide +kernel) (by decide +kernel)
set_option maxRecDepth 20000 in
theorem gX9_read_X9_moveAll : GoodIn wsX9_read (wsV RX9 131 RX9 yX9_moveAll wsX9_moveAll) := goodIn_app (goodIn_of _ (by decide +kernel)) ggX9_read_X9_moveAll
set_option maxRecDepth 20000 in
theorem ggX9_read_X9_at : GoodIn wsX9_read wsX9_at := goodIn_r _ [30] (by decide +kernel) (by decide +kernel)
set_option maxRecDepth 20000 in
theorem gX9_read_X9_at : GoodIn wsX9_read (va_wsS RX9 53 yX9_at wsX9_at) := goodIn_app (goodIn_of _ (by decide +kernel)) ggX9_read_X9_at
set_option maxRecDepth 20000 in
theorem ggX9_read_X9_keeps : GoodIn wsX9_read wsX9_keeps := goodIn_r _ [34, 35, 7, 28, 29, 11, 30, 89, 90, 91, 92, 93, 94, 95, 96, 97, 98, 99, 100, 101, 102, 103, 104, 105, 106, 107, 108] (by decide +kernel) (by decide +kernel)
set_option maxRecDepth 20000 in
theorem gX9_read_X9_keeps : GoodIn wsX9_read (wsV RX9 135 RX9 yX9_keeps wsX9_keeps) := goodIn_app (goodIn_of _ (by decide +kernel)) ggX9_read_X9_keeps
set_option maxRecDepth 20000 in
theorem ggX9_read_X9_dipRow : GoodIn wsX9_read wsX9_dipRow := goodIn_r _ [39, 40, 41, 42, 11, 43, 7, 44, 45, 46, 47, 28, 29, 30, 48, 49, 50, 51, 52, 53, 54, 55, 56, 57, 58, 59, 60, 61, 62, 63, 64, 65, 66, 67, 68, 69, 70, 71, 72, 73, 74, 75, 76, 77, 78, 79, 89, 90, 91, 92, 93, 94, 95, 96, 97, 98, 99, 100, 101, 102, 103, 104, 105, 106, 107, 108] (by decide +kernel) (by decide +kernel)
set_option maxRecDepth 20000 in
theorem gX9_read_X9_dipRow : GoodIn wsX9_read (wsV RX9 145 RX9 yX9_dipRow wsX9_dipRow) := goodIn_app (goodIn_of _ (by decide +kernel)) ggX9_read_X9_dipRow
set_option maxRecDepth 20000 in
theorem ggX9_read_X9_isShown : GoodIn wsX9_read wsX9_isShown := goodIn_r _ [83, 4, 84, 44, 45, 46, 11, 47, 7, 28, 29, 30, 71, 72, 73, 74, 89, 90, 91, 92, 93, 94, 95, 96, 97, 98, 99, 100, 101, 102, 103, 104, 105, 106, 107, 108] (by decide +kernel) (by decide +kernel)
set_option maxRecDepth 20000 in
theorem gX9_read_X9_isShown : GoodIn wsX9_read (wsV RX9 292 RX9 yX9_isShown wsX9_isShown) := goodIn_app (goodIn_of _ (by decide +kernel)) ggX9_read_X9_isShown
set_option maxRecDepth 20000 in
theorem ggX9_read_X9_putsBack : GoodIn wsX9_read wsX9_putsBack := goodIn_r _ [88, 7, 35, 28, 29, 11, 30, 89, 90, 91, 92, 93, 94, 95, 96, 97, 98, 99, 100, 101, 102, 103, 104, 105, 106, 107, 108] (by decide +kernel) (by decide +kernel)
set_option maxRecDepth 20000 in
theorem gX9_read_X9_putsBack : GoodIn wsX9_read (wsV RX9 142 RX9 yX9_putsBack wsX9_putsBack) := goodIn_app (goodIn_of _ (by decide +kernel)) ggX9_read_X9_putsBack
theorem dX9_read_0 : decode cX9_read 0 = .ok (.iload_n 1, 1) := by decide +kernel
theorem dX9_read_1 : decode cX9_read 1 = .ok (.invokestatic 278, 3) := by decide +kernel
theorem dX9_read_4 : decode cX9_read 4 = .ok (.ifCond .ne 8, 3) := by decide +kernel
theorem dX9_read_7 : decode cX9_read 7 = .ok (.ldc 48, 2) := by decide +kernel
theorem dX9_read_9 : decode cX9_read 9 = .ok (.goto 48, 3) := by decide +kernel
theorem dX9_read_12 : decode cX9_read 12 = .ok (.aload_n 0, 1) := by decide +kernel
theorem dX9_read_13 : decode cX9_read 13 = .ok (.getfield 25, 3) := by decide +kernel
theorem dX9_read_16 : decode cX9_read 16 = .ok (.iload_n 1, 1) := by decide +kernel
theorem dX9_read_17 : decode cX9_read 17 = .ok (.iaload, 1) := by decide +kernel
theorem dX9_read_18 : decode cX9_read 18 = .ok (.ifCond .ne 9, 3) := by decide +kernel
theorem dX9_read_21 : decode cX9_read 21 = .ok (.ldc_w 282, 3) := by decide +kernel
theorem dX9_read_24 : decode cX9_read 24 = .ok (.goto 33, 3) := by decide +kernel
theorem dX9_read_27 : decode cX9_read 27 = .ok (.iload_n 2, 1) := by decide +kernel
theorem dX9_read_28 : decode cX9_read 28 = .ok (.invokestatic 73, 3) := by decide +kernel
theorem dX9_read_31 : decode cX9_read 31 = .ok (.ifCond .ne 8, 3) := by decide +kernel
theorem dX9_read_34 : decode cX9_read 34 = .ok (.ldc 48, 2) := by decide +kernel
theorem dX9_read_36 : decode cX9_read 36 = .ok (.goto 21, 3) := by decide +kernel
theorem dX9_read_39 : decode cX9_read 39 = .ok (.aload_n 0, 1) := by decide +kernel
theorem dX9_read_40 : decode cX9_read 40 = .ok (.getfield 28, 3) := by decide +kernel
theorem dX9_read_43 : decode cX9_read 43 = .ok (.iload_n 1, 1) := by decide +kernel
theorem dX9_read_44 : decode cX9_read 44 = .ok (.iaload, 1) := by decide +kernel
theorem dX9_read_45 : decode cX9_read 45 = .ok (.bipush 6, 2) := by decide +kernel
theorem dX9_read_47 : decode cX9_read 47 = .ok (.if_icmp .le 9, 3) := by decide +kernel
theorem dX9_read_50 : decode cX9_read 50 = .ok (.ldc_w 281, 3) := by decide +kernel
theorem dX9_read_53 : decode cX9_read 53 = .ok (.goto 4, 3) := by decide +kernel
theorem dX9_read_56 : decode cX9_read 56 = .ok (.iconst 0, 1) := by decide +kernel
theorem dX9_read_57 : decode cX9_read 57 = .ok (.istore_n 3, 1) := by decide +kernel
theorem dX9_read_58 : decode cX9_read 58 = .ok (.iload_n 3, 1) := by decide +kernel
theorem dX9_read_59 : decode cX9_read 59 = .ok (.ifCond .eq 9, 3) := by decide +kernel
theorem dX9_read_62 : decode cX9_read 62 = .ok (.aload_n 0, 1) := by decide +kernel
theorem dX9_read_63 : decode cX9_read 63 = .ok (.iload_n 3, 1) := by decide +kernel
theorem dX9_read_64 : decode cX9_read 64 = .ok (.invokevirtual 64, 3) := by decide +kernel
theorem dX9_read_67 : decode cX9_read 67 = .ok (.ireturn, 1) := by decide +kernel
theorem dX9_read_68 : decode cX9_read 68 = .ok (.aload_n 0, 1) := by decide +kernel
theorem dX9_read_69 : decode cX9_read 69 = .ok (.iconst 1, 1) := by decide +kernel
theorem dX9_read_70 : decode cX9_read 70 = .ok (.aload_n 0, 1) := by decide +kernel
theorem dX9_read_71 : decode cX9_read 71 = .ok (.getfield 16, 3) := by decide +kernel
theorem dX9_read_74 : decode cX9_read 74 = .ok (.invokevirtual 131, 3) := by decide +kernel
theorem dX9_read_77 : decode cX9_read 77 = .ok (.aload_n 0, 1) := by decide +kernel
theorem dX9_read_78 : decode cX9_read 78 = .ok (.getfield 7, 3) := by decide +kernel
theorem dX9_read_81 : decode cX9_read 81 = .ok (.iconst 0, 1) := by decide +kernel
theorem dX9_read_82 : decode cX9_read 82 = .ok (.iconst 0, 1) := by decide +kernel
theorem dX9_read_83 : decode cX9_read 83 = .ok (.invokestatic 53, 3) := by decide +kernel
theorem dX9_read_86 : decode cX9_read 86 = .ok (.iload_n 2, 1) := by decide +kernel
theorem dX9_read_87 : decode cX9_read 87 = .ok (.iastore, 1) := by decide +kernel
theorem dX9_read_88 : decode cX9_read 88 = .ok (.aload_n 0, 1) := by decide +kernel
theorem dX9_read_89 : decode cX9_read 89 = .ok (.getfield 7, 3) := by decide +kernel
theorem dX9_read_92 : decode cX9_read 92 = .ok (.iconst 0, 1) := by decide +kernel
theorem dX9_read_93 : decode cX9_read 93 = .ok (.iconst 1, 1) := by decide +kernel
theorem dX9_read_94 : decode cX9_read 94 = .ok (.invokestatic 53, 3) := by decide +kernel
theorem dX9_read_97 : decode cX9_read 97 = .ok (.iconst 0, 1) := by decide +kernel
theorem dX9_read_98 : decode cX9_read 98 = .ok (.iastore, 1) := by decide +kernel
theorem dX9_read_99 : decode cX9_read 99 = .ok (.aload_n 0, 1) := by decide +kernel
theorem dX9_read_100 : decode cX9_read 100 = .ok (.iconst 0, 1) := by decide +kernel
theorem dX9_read_101 : decode cX9_read 101 = .ok (.invokevirtual 135, 3) := by decide +kernel
theorem dX9_read_104 : decode cX9_read 104 = .ok (.iconst (-1), 1) := by decide +kernel
theorem dX9_read_105 : decode cX9_read 105 = .ok (.istore 4, 2) := by decide +kernel
theorem dX9_read_107 : decode cX9_read 107 = .ok (.iconst 0, 1) := by decide +kernel
theorem dX9_read_108 : decode cX9_read 108 = .ok (.istore 5, 2) := by decide +kernel
theorem dX9_read_110 : decode cX9_read 110 = .ok (.iload 5, 2) := by decide +kernel
theorem dX9_read_112 : decode cX9_read 112 = .ok (.iconst 1, 1) := by decide +kernel
theorem dX9_read_113 : decode cX9_read 113 = .ok (.iconst 2, 1) := by decide +kernel
theorem dX9_read_114 : decode cX9_read 114 = .ok (.aload_n 0, 1) := by decide +kernel
theorem dX9_read_115 : decode cX9_read 115 = .ok (.getfield 28, 3) := by decide +kernel
theorem dX9_read_118 : decode cX9_read 118 = .ok (.iload_n 1, 1) := by decide +kernel
theorem dX9_read_119 : decode cX9_read 119 = .ok (.iaload, 1) := by decide +kernel
theorem dX9_read_120 : decode cX9_read 120 = .ok (.imul, 1) := by decide +kernel
theorem dX9_read_121 : decode cX9_read 121 = .ok (.ishl, 1) := by decide +kernel
theorem dX9_read_122 : decode cX9_read 122 = .ok (.if_icmp .ge 49, 3) := by decide +kernel
theorem dX9_read_125 : decode cX9_read 125 = .ok (.iload 4, 2) := by decide +kernel
theorem dX9_read_127 : decode cX9_read 127 = .ok (.ifCond .ge 44, 3) := by decide +kernel
theorem dX9_read_130 : decode cX9_read 130 = .ok (.aload_n 0, 1) := by decide +kernel
theorem dX9_read_131 : decode cX9_read 131 = .ok (.iconst 0, 1) := by decide +kernel
theorem dX9_read_132 : decode cX9_read 132 = .ok (.iload 5, 2) := by decide +kernel
theorem dX9_read_134 : decode cX9_read 134 = .ok (.aload_n 0, 1) := by decide +kernel
theorem dX9_read_135 : decode cX9_read 135 = .ok (.getfield 28, 3) := by decide +kernel
theorem dX9_read_138 : decode cX9_read 138 = .ok (.iload_n 1, 1) := by decide +kernel
theorem dX9_read_139 : decode cX9_read 139 = .ok (.iaload, 1) := by decide +kernel
theorem dX9_read_140 : decode cX9_read 140 = .ok (.invokevirtual 145, 3) := by decide +kernel
theorem dX9_read_143 : decode cX9_read 143 = .ok (.aload_n 0, 1) := by decide +kernel
theorem dX9_read_144 : decode cX9_read 144 = .ok (.iload_n 1, 1) := by decide +kernel
theorem dX9_read_145 : decode cX9_read 145 = .ok (.iconst 0, 1) := by decide +kernel
theorem dX9_read_146 : decode cX9_read 146 = .ok (.invokevirtual 292, 3) := by decide +kernel
theorem dX9_read_149 : decode cX9_read 149 = .ok (.ifCond .eq 8, 3) := by decide +kernel
theorem dX9_read_152 : decode cX9_read 152 = .ok (.iload 5, 2) := by decide +kernel
theorem dX9_read_154 : decode cX9_read 154 = .ok (.goto 4, 3) := by decide +kernel
theorem dX9_read_157 : decode cX9_read 157 = .ok (.iconst (-1), 1) := by decide +kernel
theorem dX9_read_158 : decode cX9_read 158 = .ok (.istore 4, 2) := by decide +kernel
theorem dX9_read_160 : decode cX9_read 160 = .ok (.aload_n 0, 1) := by decide +kernel
theorem dX9_read_161 : decode cX9_read 161 = .ok (.iconst 0, 1) := by decide +kernel
theorem dX9_read_162 : decode cX9_read 162 = .ok (.invokevirtual 142, 3) := by decide +kernel
theorem dX9_read_165 : decode cX9_read 165 = .ok (.iinc 5 1, 3) := by decide +kernel
theorem dX9_read_168 : decode cX9_read 168 = .ok (.goto (-58), 3) := by decide +kernel
theorem dX9_read_171 : decode cX9_read 171 = .ok (.aload_n 0, 1) := by decide +kernel
theorem dX9_read_172 : decode cX9_read 172 = .ok (.iconst 0, 1) := by decide +kernel
theorem dX9_read_173 : decode cX9_read 173 = .ok (.aload_n 0, 1) := by decide +kernel
theorem dX9_read_174 : decode cX9_read 174 = .ok (.getfield 16, 3) := by decide +kernel
theorem dX9_read_177 : decode cX9_read 177 = .ok (.invokevirtual 131, 3) := by decide +kernel
theorem dX9_read_180 : decode cX9_read 180 = .ok (.iload 4, 2) := by decide +kernel
theorem dX9_read_182 : decode cX9_read 182 = .ok (.ifCond .ge 12, 3) := by decide +kernel
theorem dX9_read_185 : decode cX9_read 185 = .ok (.aload_n 0, 1) := by decide +kernel
theorem dX9_read_186 : decode cX9_read 186 = .ok (.ldc 103, 2) := by decide +kernel
theorem dX9_read_188 : decode cX9_read 188 = .ok (.invokevirtual 64, 3) := by decide +kernel
theorem dX9_read_191 : decode cX9_read 191 = .ok (.goto 5, 3) := by decide +kernel
theorem dX9_read_194 : decode cX9_read 194 = .ok (.iload 4, 2) := by decide +kernel
theorem dX9_read_196 : decode cX9_read 196 = .ok (.ireturn, 1) := by decide +kernel
theorem dX9_moveAll_0 : decode cX9_moveAll 0 = .ok (.iconst 0, 1) := by decide +kernel
theorem dX9_moveAll_1 : decode cX9_moveAll 1 = .ok (.istore_n 3, 1) := by decide +kernel
theorem dX9_moveAll_2 : decode cX9_moveAll 2 = .ok (.iload_n 3, 1) := by decide +kernel
theorem dX9_moveAll_3 : decode cX9_moveAll 3 = .ok (.sipush 440, 3) := by decide +kernel
theorem dX9_moveAll_6 : decode cX9_moveAll 6 = .ok (.if_icmp .ge 34, 3) := by decide +kernel
theorem dX9_moveAll_9 : decode cX9_moveAll 9 = .ok (.iload_n 1, 1) := by decide +kernel
theorem dX9_moveAll_10 : decode cX9_moveAll 10 = .ok (.ifCond .eq 15, 3) := by decide +kernel
theorem dX9_moveAll_13 : decode cX9_moveAll 13 = .ok (.aload_n 2, 1) := by decide +kernel
theorem dX9_moveAll_14 : decode cX9_moveAll 14 = .ok (.iload_n 3, 1) := by decide +kernel
theorem dX9_moveAll_15 : decode cX9_moveAll 15 = .ok (.aload_n 0, 1) := by decide +kernel
theorem dX9_moveAll_16 : decode cX9_moveAll 16 = .ok (.getfield 7, 3) := by decide +kernel
theorem dX9_moveAll_19 : decode cX9_moveAll 19 = .ok (.iload_n 3, 1) := by decide +kernel
theorem dX9_moveAll_20 : decode cX9_moveAll 20 = .ok (.iaload, 1) := by decide +kernel
theorem dX9_moveAll_21 : decode cX9_moveAll 21 = .ok (.iastore, 1) := by decide +kernel
theorem dX9_moveAll_22 : decode cX9_moveAll 22 = .ok (.goto 12, 3) := by decide +kernel
theorem dX9_moveAll_25 : decode cX9_moveAll 25 = .ok (.aload_n 0, 1) := by decide +kernel
theorem dX9_moveAll_26 : decode cX9_moveAll 26 = .ok (.getfield 7, 3) := by decide +kernel
theorem dX9_moveAll_29 : decode cX9_moveAll 29 = .ok (.iload_n 3, 1) := by decide +kernel
theorem dX9_moveAll_30 : decode cX9_moveAll 30 = .ok (.aload_n 2, 1) := by decide +kernel
theorem dX9_moveAll_31 : decode cX9_moveAll 31 = .ok (.iload_n 3, 1) := by decide +kernel
theorem dX9_moveAll_32 : decode cX9_moveAll 32 = .ok (.iaload, 1) := by decide +kernel
theorem dX9_moveAll_33 : decode cX9_moveAll 33 = .ok (.iastore, 1) := by decide +kernel
theorem dX9_moveAll_34 : decode cX9_moveAll 34 = .ok (.iinc 3 1, 3) := by decide +kernel
theorem dX9_moveAll_37 : decode cX9_moveAll 37 = .ok (.goto (-35), 3) := by decide +kernel
theorem dX9_moveAll_40 : decode cX9_moveAll 40 = .ok (.return_, 1) := by decide +kernel
set_option maxRecDepth 20000 in
theorem ggX9_image_X9_moveAll : GoodIn wsX9_image wsX9_moveAll := goodIn_r _ [7, 8, 9, 10, 11, 12, 13, 14, 15, 16, 17, 18, 19, 20, 21, 22, 23, 24, 25, 26, 27, 28] (by decide +kernel) (by decide +kernel)
set_option maxRecDepth 20000 in
theorem gX9_image_X9_moveAll : GoodIn wsX9_image (wsV RX9 131 RX9 yX9_moveAll wsX9_moveAll) := goodIn_app (goodIn_of _ (by decide +kernel)) ggX9_image_X9_moveAll
theorem dX9_image_0 : decode cX9_image 0 = .ok (.aload_n 0, 1) := by decide +kernel
theorem dX9_image_1 : decode cX9_image 1 = .ok (.iconst 1, 1) := by decide +kernel
theorem dX9_image_2 : decode cX9_image 2 = .ok (.aload_n 0, 1) := by decide +kernel
theorem dX9_image_3 : decode cX9_image 3 = .ok (.getfield 38, 3) := by decide +kernel
theorem dX9_image_6 : decode cX9_image 6 = .ok (.invokevirtual 131, 3) := by decide +kernel
theorem dX9_image_9 : decode cX9_image 9 = .ok (.aload_n 0, 1) := by decide +kernel
theorem dX9_image_10 : decode cX9_image 10 = .ok (.iconst 1, 1) := by decide +kernel
theorem dX9_image_11 : decode cX9_image 11 = .ok (.putfield 295, 3) := by decide +kernel
theorem dX9_image_14 : decode cX9_image 14 = .ok (.iconst 1, 1) := by decide +kernel
theorem dX9_image_15 : decode cX9_image 15 = .ok (.ireturn, 1) := by decide +kernel
set_option maxRecDepth 20000 in
theorem ggX9_undo_X9_finds : GoodIn wsX9_undo wsX9_finds := goodIn_r _ [9, 10, 11, 16, 17, 18, 19, 20, 21, 22, 23, 24, 25, 26, 27, 28, 29, 30, 31, 32, 33, 34, 35] (by decide +kernel) (by decide +kernel)
set_option maxRecDepth 20000 in
theorem gX9_undo_X9_finds : GoodIn wsX9_undo (wsV RX9 64 RX9 yX9_finds wsX9_finds) := goodIn_app (goodIn_of _ (by decide +kernel)) ggX9_undo_X9_finds
set_option maxRecDepth 20000 in
theorem ggX9_undo_X9_moveAll : GoodIn wsX9_undo wsX9_moveAll := goodIn_r _ [15, 4, 16, 17, 18, 19, 20, 21, 22, 23, 24, 25, 26, 27, 28, 29, 30, 31, 32, 33, 34, 35] (by decide +kernel) (by decide +kernel)
set_option maxRecDepth 20000 in
theorem gX9_undo_X9_moveAll : GoodIn wsX9_undo (wsV RX9 131 RX9 yX9_moveAll wsX9_moveAll) := goodIn_app (goodIn_of _ (by decide +kernel)) ggX9_undo_X9_moveAll
theorem dX9_undo_0 : decode cX9_undo 0 = .ok (.aload_n 0, 1) := by decide +kernel
theorem dX9_undo_1 : decode cX9_undo 1 = .ok (.getfield 295, 3) := by decide +kernel
theorem dX9_undo_4 : decode cX9_undo 4 = .ok (.ifCond .ne 10, 3) := by decide +kernel
theorem dX9_undo_7 : decode cX9_undo 7 = .ok (.aload_n 0, 1) := by decide +kernel
theorem dX9_undo_8 : decode cX9_undo 8 = .ok (.ldc 103, 2) := by decide +kernel
theorem dX9_undo_10 : decode cX9_undo 10 = .ok (.invokevirtual 64, 3) := by decide +kernel
theorem dX9_undo_13 : decode cX9_undo 13 = .ok (.ireturn, 1) := by decide +kernel
theorem dX9_undo_14 : decode cX9_undo 14 = .ok (.aload_n 0, 1) := by decide +kernel
theorem dX9_undo_15 : decode cX9_undo 15 = .ok (.iconst 0, 1) := by decide +kernel
theorem dX9_undo_16 : decode cX9_undo 16 = .ok (.aload_n 0, 1) := by decide +kernel
theorem dX9_undo_17 : decode cX9_undo 17 = .ok (.getfield 38, 3) := by decide +kernel
theorem dX9_undo_20 : decode cX9_undo 20 = .ok (.invokevirtual 131, 3) := by decide +kernel
theorem dX9_undo_23 : decode cX9_undo 23 = .ok (.aload_n 0, 1) := by decide +kernel
theorem dX9_undo_24 : decode cX9_undo 24 = .ok (.getfield 7, 3) := by decide +kernel
theorem dX9_undo_27 : decode cX9_undo 27 = .ok (.iconst 0, 1) := by decide +kernel
theorem dX9_undo_28 : decode cX9_undo 28 = .ok (.iaload, 1) := by decide +kernel
theorem dX9_undo_29 : decode cX9_undo 29 = .ok (.ireturn, 1) := by decide +kernel
theorem dX9_tear_0 : decode cX9_tear 0 = .ok (.aload_n 0, 1) := by decide +kernel
theorem dX9_tear_1 : decode cX9_tear 1 = .ok (.getfield 295, 3) := by decide +kernel
theorem dX9_tear_4 : decode cX9_tear 4 = .ok (.ifCond .eq 7, 3) := by decide +kernel
theorem dX9_tear_7 : decode cX9_tear 7 = .ok (.iconst 1, 1) := by decide +kernel
theorem dX9_tear_8 : decode cX9_tear 8 = .ok (.goto 4, 3) := by decide +kernel
theorem dX9_tear_11 : decode cX9_tear 11 = .ok (.iconst 0, 1) := by decide +kernel
theorem dX9_tear_12 : decode cX9_tear 12 = .ok (.istore_n 1, 1) := by decide +kernel
theorem dX9_tear_13 : decode cX9_tear 13 = .ok (.aload_n 0, 1) := by decide +kernel
theorem dX9_tear_14 : decode cX9_tear 14 = .ok (.iconst 0, 1) := by decide +kernel
theorem dX9_tear_15 : decode cX9_tear 15 = .ok (.putfield 295, 3) := by decide +kernel
theorem dX9_tear_18 : decode cX9_tear 18 = .ok (.iload_n 1, 1) := by decide +kernel
theorem dX9_tear_19 : decode cX9_tear 19 = .ok (.ireturn, 1) := by decide +kernel
set_option maxRecDepth 20000 in
theorem ggX9_count_X9_many : GoodIn wsX9_count wsX9_many := goodIn_r _ [8, 1, 9, 10, 7, 11, 21, 22, 23, 24, 25, 26, 27, 28, 29, 30, 31, 32, 33, 34, 35, 36, 37, 38, 39, 40] (by decide +kernel) (by decide +kernel)
set_option maxRecDepth 20000 in
theorem gX9_count_X9_many : GoodIn wsX9_count (wsV RX9 81 RX9 yX9_many wsX9_many) := goodIn_app (goodIn_of _ (by decide +kernel)) ggX9_count_X9_many
set_option maxRecDepth 20000 in
theorem ggX9_count_X9_its : GoodIn wsX9_count wsX9_its := goodIn_r _ [15, 1, 21, 22, 23, 24, 25, 26, 27, 28, 29, 30, 31, 32, 33, 34, 35, 36, 37, 38, 39, 40] (by decide +kernel) (by decide +kernel)
set_option maxRecDepth 20000 in
theorem gX9_count_X9_its : GoodIn wsX9_count (wsV RX9 61 RX9 yX9_its wsX9_its) := goodIn_app (goodIn_of _ (by decide +kernel)) ggX9_count_X9_its
set_option maxRecDepth 20000 in
theorem ggX9_count_X9_finds : GoodIn wsX9_count wsX9_finds := goodIn_r _ [19, 20, 3, 21, 22, 23, 24, 25, 26, 27, 28, 29, 30, 31, 32, 33, 34, 35, 36, 37, 38, 39, 40] (by decide +kernel) (by decide +kernel)
set_option maxRecDepth 20000 in
theorem gX9_count_X9_finds : GoodIn wsX9_count (wsV RX9 64 RX9 yX9_finds wsX9_finds) := goodIn_app (goodIn_of _ (by decide +kernel)) ggX9_count_X9_finds
theorem dX9_count_0 : decode cX9_count 0 = .ok (.iconst 0, 1) := by decide +kernel
theorem dX9_count_1 : decode cX9_count 1 = .ok (.istore_n 2, 1) := by decide +kernel
theorem dX9_count_2 : decode cX9_count 2 = .ok (.iload_n 1, 1) := by decide +kernel
theorem dX9_count_3 : decode cX9_count 3 = .ok (.tableswitch 95 0 3 #[29, 36, 64, 69], 29) := by decide +kernel
theorem dX9_count_32 : decode cX9_count 32 = .ok (.aload_n 0, 1) := by decide +kernel
theorem dX9_count_33 : decode cX9_count 33 = .ok (.getfield 7, 3) := by decide +kernel
theorem dX9_count_36 : decode cX9_count 36 = .ok (.iconst 0, 1) := by decide +kernel
theorem dX9_count_37 : decode cX9_count 37 = .ok (.iaload, 1) := by decide +kernel
theorem dX9_count_38 : decode cX9_count 38 = .ok (.ireturn, 1) := by decide +kernel
theorem dX9_count_39 : decode cX9_count 39 = .ok (.iconst 0, 1) := by decide +kernel
theorem dX9_count_40 : decode cX9_count 40 = .ok (.istore_n 3, 1) := by decide +kernel
theorem dX9_count_41 : decode cX9_count 41 = .ok (.iload_n 3, 1) := by decide +kernel
theorem dX9_count_42 : decode cX9_count 42 = .ok (.aload_n 0, 1) := by decide +kernel
theorem dX9_count_43 : decode cX9_count 43 = .ok (.getfield 7, 3) := by decide +kernel
theorem dX9_count_46 : decode cX9_count 46 = .ok (.iconst 0, 1) := by decide +kernel
theorem dX9_count_47 : decode cX9_count 47 = .ok (.iaload, 1) := by decide +kernel
theorem dX9_count_48 : decode cX9_count 48 = .ok (.if_icmp .ge 17, 3) := by decide +kernel
theorem dX9_count_51 : decode cX9_count 51 = .ok (.iload_n 2, 1) := by decide +kernel
theorem dX9_count_52 : decode cX9_count 52 = .ok (.aload_n 0, 1) := by decide +kernel
theorem dX9_count_53 : decode cX9_count 53 = .ok (.iload_n 3, 1) := by decide +kernel
theorem dX9_count_54 : decode cX9_count 54 = .ok (.invokevirtual 81, 3) := by decide +kernel
theorem dX9_count_57 : decode cX9_count 57 = .ok (.iadd, 1) := by decide +kernel
theorem dX9_count_58 : decode cX9_count 58 = .ok (.istore_n 2, 1) := by decide +kernel
theorem dX9_count_59 : decode cX9_count 59 = .ok (.iinc 3 1, 3) := by decide +kernel
theorem dX9_count_62 : decode cX9_count 62 = .ok (.goto (-21), 3) := by decide +kernel
theorem dX9_count_65 : decode cX9_count 65 = .ok (.iload_n 2, 1) := by decide +kernel
theorem dX9_count_66 : decode cX9_count 66 = .ok (.ireturn, 1) := by decide +kernel
theorem dX9_count_67 : decode cX9_count 67 = .ok (.aload_n 0, 1) := by decide +kernel
theorem dX9_count_68 : decode cX9_count 68 = .ok (.getfield 164, 3) := by decide +kernel
theorem dX9_count_71 : decode cX9_count 71 = .ok (.ireturn, 1) := by decide +kernel
theorem dX9_count_72 : decode cX9_count 72 = .ok (.iconst 0, 1) := by decide +kernel
theorem dX9_count_73 : decode cX9_count 73 = .ok (.istore_n 3, 1) := by decide +kernel
theorem dX9_count_74 : decode cX9_count 74 = .ok (.iload_n 3, 1) := by decide +kernel
theorem dX9_count_75 : decode cX9_count 75 = .ok (.iconst 4, 1) := by decide +kernel
theorem dX9_count_76 : decode cX9_count 76 = .ok (.if_icmp .ge 20, 3) := by decide +kernel
theorem dX9_count_79 : decode cX9_count 79 = .ok (.iload_n 2, 1) := by decide +kernel
theorem dX9_count_80 : decode cX9_count 80 = .ok (.aload_n 0, 1) := by decide +kernel
theorem dX9_count_81 : decode cX9_count 81 = .ok (.iload_n 3, 1) := by decide +kernel
theorem dX9_count_82 : decode cX9_count 82 = .ok (.iconst 3, 1) := by decide +kernel
theorem dX9_count_83 : decode cX9_count 83 = .ok (.invokevirtual 61, 3) := by decide +kernel
theorem dX9_count_86 : decode cX9_count 86 = .ok (.iload_n 3, 1) := by decide +kernel
theorem dX9_count_87 : decode cX9_count 87 = .ok (.ishl, 1) := by decide +kernel
theorem dX9_count_88 : decode cX9_count 88 = .ok (.ior, 1) := by decide +kernel
theorem dX9_count_89 : decode cX9_count 89 = .ok (.istore_n 2, 1) := by decide +kernel
theorem dX9_count_90 : decode cX9_count 90 = .ok (.iinc 3 1, 3) := by decide +kernel
theorem dX9_count_93 : decode cX9_count 93 = .ok (.goto (-19), 3) := by decide +kernel
theorem dX9_count_96 : decode cX9_count 96 = .ok (.iload_n 2, 1) := by decide +kernel
theorem dX9_count_97 : decode cX9_count 97 = .ok (.ireturn, 1) := by decide +kernel
theorem dX9_count_98 : decode cX9_count 98 = .ok (.aload_n 0, 1) := by decide +kernel
theorem dX9_count_99 : decode cX9_count 99 = .ok (.ldc 48, 2) := by decide +kernel
theorem dX9_count_101 : decode cX9_count 101 = .ok (.invokevirtual 64, 3) := by decide +kernel
theorem dX9_count_104 : decode cX9_count 104 = .ok (.ireturn, 1) := by decide +kernel
set_option maxRecDepth 20000 in
theorem ggX9_status_X9_in : GoodIn wsX9_status wsX9_in := goodIn_r _ [6] (by decide +kernel) (by decide +kernel)
set_option maxRecDepth 20000 in
theorem gX9_status_X9_in : GoodIn wsX9_status (va_wsS RX9 49 yX9_in wsX9_in) := goodIn_app (goodIn_of _ (by decide +kernel)) ggX9_status_X9_in
set_option maxRecDepth 20000 in
theorem ggX9_status_X9_finds : GoodIn wsX9_status wsX9_finds := goodIn_r _ [10, 2, 1, 11, 12, 13, 14, 15, 16, 17, 18, 19, 20, 21, 22, 23, 24, 25, 26, 27, 28, 29, 30] (by decide +kernel) (by decide +kernel)
set_option maxRecDepth 20000 in
theorem gX9_status_X9_finds : GoodIn wsX9_status (wsV RX9 64 RX9 yX9_finds wsX9_finds) := goodIn_app (goodIn_of _ (by decide +kernel)) ggX9_status_X9_finds
theorem dX9_status_0 : decode cX9_status 0 = .ok (.iload_n 1, 1) := by decide +kernel
theorem dX9_status_1 : decode cX9_status 1 = .ok (.iconst (-1), 1) := by decide +kernel
theorem dX9_status_2 : decode cX9_status 2 = .ok (.bipush 6, 2) := by decide +kernel
theorem dX9_status_4 : decode cX9_status 4 = .ok (.invokestatic 49, 3) := by decide +kernel
theorem dX9_status_7 : decode cX9_status 7 = .ok (.ifCond .ne 10, 3) := by decide +kernel
theorem dX9_status_10 : decode cX9_status 10 = .ok (.aload_n 0, 1) := by decide +kernel
theorem dX9_status_11 : decode cX9_status 11 = .ok (.ldc 48, 2) := by decide +kernel
theorem dX9_status_13 : decode cX9_status 13 = .ok (.invokevirtual 64, 3) := by decide +kernel
theorem dX9_status_16 : decode cX9_status 16 = .ok (.ireturn, 1) := by decide +kernel
theorem dX9_status_17 : decode cX9_status 17 = .ok (.iconst 0, 1) := by decide +kernel
theorem dX9_status_18 : decode cX9_status 18 = .ok (.istore_n 2, 1) := by decide +kernel
theorem dX9_status_19 : decode cX9_status 19 = .ok (.iconst 0, 1) := by decide +kernel
theorem dX9_status_20 : decode cX9_status 20 = .ok (.istore_n 3, 1) := by decide +kernel
theorem dX9_status_21 : decode cX9_status 21 = .ok (.iload_n 3, 1) := by decide +kernel
theorem dX9_status_22 : decode cX9_status 22 = .ok (.bipush 7, 2) := by decide +kernel
theorem dX9_status_24 : decode cX9_status 24 = .ok (.if_icmp .ge 18, 3) := by decide +kernel
theorem dX9_status_27 : decode cX9_status 27 = .ok (.iload_n 2, 1) := by decide +kernel
theorem dX9_status_28 : decode cX9_status 28 = .ok (.aload_n 0, 1) := by decide +kernel
theorem dX9_status_29 : decode cX9_status 29 = .ok (.getfield 13, 3) := by decide +kernel
theorem dX9_status_32 : decode cX9_status 32 = .ok (.iload_n 3, 1) := by decide +kernel
theorem dX9_status_33 : decode cX9_status 33 = .ok (.iaload, 1) := by decide +kernel
theorem dX9_status_34 : decode cX9_status 34 = .ok (.iadd, 1) := by decide +kernel
theorem dX9_status_35 : decode cX9_status 35 = .ok (.istore_n 2, 1) := by decide +kernel
theorem dX9_status_36 : decode cX9_status 36 = .ok (.iinc 3 1, 3) := by decide +kernel
theorem dX9_status_39 : decode cX9_status 39 = .ok (.goto (-18), 3) := by decide +kernel
theorem dX9_status_42 : decode cX9_status 42 = .ok (.iload_n 1, 1) := by decide +kernel
theorem dX9_status_43 : decode cX9_status 43 = .ok (.ifCond .ge 7, 3) := by decide +kernel
theorem dX9_status_46 : decode cX9_status 46 = .ok (.iload_n 2, 1) := by decide +kernel
theorem dX9_status_47 : decode cX9_status 47 = .ok (.goto 17, 3) := by decide +kernel
theorem dX9_status_50 : decode cX9_status 50 = .ok (.aload_n 0, 1) := by decide +kernel
theorem dX9_status_51 : decode cX9_status 51 = .ok (.getfield 13, 3) := by decide +kernel
theorem dX9_status_54 : decode cX9_status 54 = .ok (.iload_n 1, 1) := by decide +kernel
theorem dX9_status_55 : decode cX9_status 55 = .ok (.ifCond .ge 7, 3) := by decide +kernel
theorem dX9_status_58 : decode cX9_status 58 = .ok (.iconst 0, 1) := by decide +kernel
theorem dX9_status_59 : decode cX9_status 59 = .ok (.goto 4, 3) := by decide +kernel
theorem dX9_status_62 : decode cX9_status 62 = .ok (.iload_n 1, 1) := by decide +kernel
theorem dX9_status_63 : decode cX9_status 63 = .ok (.iaload, 1) := by decide +kernel
theorem dX9_status_64 : decode cX9_status 64 = .ok (.ireturn, 1) := by decide +kernel
