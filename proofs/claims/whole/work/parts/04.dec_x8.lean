set_option maxRecDepth 20000 in
theorem ggX8_init_X1_init : GoodIn wsX8_init wsX1_init := goodIn_r _ [42, 43, 2, 3, 44, 11, 12, 45, 46, 47, 15, 16, 48, 49, 50, 51, 52, 53, 19, 20, 54, 55, 56, 57, 58, 59, 60, 61, 62, 63, 64, 65, 38, 66, 112, 113, 114, 115, 98, 99, 100, 116, 117, 118, 119, 120, 121, 122, 123, 124] (by decide +kernel) (by decide +kernel)
set_option maxRecDepth 20000 in
theorem gX8_init_X1_init : GoodIn wsX8_init (wsX1_init) := ggX8_init_X1_init
set_option maxRecDepth 20000 in
theorem ggX8_init_X7_init : GoodIn wsX8_init wsX7_init := goodIn_r _ [50, 51, 2, 3, 52, 53, 19, 20, 54, 55, 56, 57, 58, 59, 60, 61, 112, 113, 114, 115, 121, 122, 123, 124] (by decide +kernel) (by decide +kernel)
set_option maxRecDepth 20000 in
theorem gX8_init_X7_init : GoodIn wsX8_init (wsX7_init) := ggX8_init_X7_init
set_option maxRecDepth 20000 in
theorem ggX8_init_X0_init : GoodIn wsX8_init wsX0_init := goodIn_r _ [64, 65, 2, 3, 38, 66, 116, 117, 118, 119, 120] (by decide +kernel) (by decide +kernel)
set_option maxRecDepth 20000 in
theorem gX8_init_X0_init : GoodIn wsX8_init (wsX0_init) := ggX8_init_X0_init
set_option maxRecDepth 20000 in
theorem ggX8_init_X6_init : GoodIn wsX8_init wsX6_init := goodIn_r _ [60, 61, 2, 3] (by decide +kernel) (by decide +kernel)
set_option maxRecDepth 20000 in
theorem gX8_init_X6_init_n39 : GoodIn wsX8_init (wsX6_init) := ggX8_init_X6_init
set_option maxRecDepth 20000 in
theorem ggX8_init_X2_init : GoodIn wsX8_init wsX2_init := goodIn_r _ [71, 72, 2, 3, 73, 11, 12, 74, 75, 76, 15, 16, 77, 49, 50, 51, 52, 53, 19, 20, 54, 55, 56, 57, 58, 59, 60, 61, 78, 63, 64, 65, 38, 66, 112, 113, 114, 115, 125, 126, 127, 128, 129, 130, 131, 116, 117, 118, 119, 120, 121, 122, 123, 124] (by decide +kernel) (by decide +kernel)
set_option maxRecDepth 20000 in
theorem gX8_init_X2_init : GoodIn wsX8_init (wsX2_init) := ggX8_init_X2_init
set_option maxRecDepth 20000 in
theorem ggX8_init_X4_init : GoodIn wsX8_init wsX4_init := goodIn_r _ [81, 82, 2, 3, 38, 83, 132, 133] (by decide +kernel) (by decide +kernel)
set_option maxRecDepth 20000 in
theorem gX8_init_X4_init : GoodIn wsX8_init (wsX4_init) := ggX8_init_X4_init
set_option maxRecDepth 20000 in
theorem ggX8_init_X5_init : GoodIn wsX8_init wsX5_init := goodIn_r _ [86, 87, 2, 3, 88, 89, 5, 6, 90, 91, 41, 42, 43, 44, 11, 12, 45, 46, 47, 15, 16, 48, 49, 50, 51, 52, 53, 19, 20, 54, 55, 56, 57, 58, 59, 60, 61, 62, 63, 64, 65, 38, 66, 134, 135, 136, 137, 138, 139, 98, 99, 100, 112, 113, 114, 115, 116, 117, 118, 119, 120, 121, 122, 123, 124] (by decide +kernel) (by decide +kernel)
set_option maxRecDepth 20000 in
theorem gX8_init_X5_init : GoodIn wsX8_init (wsX5_init) := ggX8_init_X5_init
set_option maxRecDepth 20000 in
theorem ggX8_init_X3_init : GoodIn wsX8_init wsX3_init := goodIn_r _ [94, 95, 2, 3, 96, 97, 140, 141, 142] (by decide +kernel) (by decide +kernel)
set_option maxRecDepth 20000 in
theorem gX8_init_X3_init : GoodIn wsX8_init (wsX3_init) := ggX8_init_X3_init
theorem dX8_init_0 : decode cX8_init 0 = .ok (.aload_n 0, 1) := by decide +kernel
theorem dX8_init_1 : decode cX8_init 1 = .ok (.invokespecial 1, 3) := by decide +kernel
theorem dX8_init_4 : decode cX8_init 4 = .ok (.aload_n 0, 1) := by decide +kernel
theorem dX8_init_5 : decode cX8_init 5 = .ok (.new 7, 3) := by decide +kernel
theorem dX8_init_8 : decode cX8_init 8 = .ok (.dup, 1) := by decide +kernel
theorem dX8_init_9 : decode cX8_init 9 = .ok (.invokespecial 9, 3) := by decide +kernel
theorem dX8_init_12 : decode cX8_init 12 = .ok (.putfield 10, 3) := by decide +kernel
theorem dX8_init_15 : decode cX8_init 15 = .ok (.aload_n 0, 1) := by decide +kernel
theorem dX8_init_16 : decode cX8_init 16 = .ok (.new 7, 3) := by decide +kernel
theorem dX8_init_19 : decode cX8_init 19 = .ok (.dup, 1) := by decide +kernel
theorem dX8_init_20 : decode cX8_init 20 = .ok (.invokespecial 9, 3) := by decide +kernel
theorem dX8_init_23 : decode cX8_init 23 = .ok (.putfield 16, 3) := by decide +kernel
theorem dX8_init_26 : decode cX8_init 26 = .ok (.aload_n 0, 1) := by decide +kernel
theorem dX8_init_27 : decode cX8_init 27 = .ok (.iconst 0, 1) := by decide +kernel
theorem dX8_init_28 : decode cX8_init 28 = .ok (.putfield 19, 3) := by decide +kernel
theorem dX8_init_31 : decode cX8_init 31 = .ok (.aload_n 0, 1) := by decide +kernel
theorem dX8_init_32 : decode cX8_init 32 = .ok (.new 23, 3) := by decide +kernel
theorem dX8_init_35 : decode cX8_init 35 = .ok (.dup, 1) := by decide +kernel
theorem dX8_init_36 : decode cX8_init 36 = .ok (.invokespecial 25, 3) := by decide +kernel
theorem dX8_init_39 : decode cX8_init 39 = .ok (.putfield 26, 3) := by decide +kernel
theorem dX8_init_42 : decode cX8_init 42 = .ok (.aload_n 0, 1) := by decide +kernel
theorem dX8_init_43 : decode cX8_init 43 = .ok (.new 30, 3) := by decide +kernel
theorem dX8_init_46 : decode cX8_init 46 = .ok (.dup, 1) := by decide +kernel
theorem dX8_init_47 : decode cX8_init 47 = .ok (.invokespecial 32, 3) := by decide +kernel
theorem dX8_init_50 : decode cX8_init 50 = .ok (.putfield 33, 3) := by decide +kernel
theorem dX8_init_53 : decode cX8_init 53 = .ok (.aload_n 0, 1) := by decide +kernel
theorem dX8_init_54 : decode cX8_init 54 = .ok (.new 37, 3) := by decide +kernel
theorem dX8_init_57 : decode cX8_init 57 = .ok (.dup, 1) := by decide +kernel
theorem dX8_init_58 : decode cX8_init 58 = .ok (.invokespecial 39, 3) := by decide +kernel
theorem dX8_init_61 : decode cX8_init 61 = .ok (.putfield 40, 3) := by decide +kernel
theorem dX8_init_64 : decode cX8_init 64 = .ok (.aload_n 0, 1) := by decide +kernel
theorem dX8_init_65 : decode cX8_init 65 = .ok (.new 44, 3) := by decide +kernel
theorem dX8_init_68 : decode cX8_init 68 = .ok (.dup, 1) := by decide +kernel
theorem dX8_init_69 : decode cX8_init 69 = .ok (.invokespecial 46, 3) := by decide +kernel
theorem dX8_init_72 : decode cX8_init 72 = .ok (.putfield 47, 3) := by decide +kernel
theorem dX8_init_75 : decode cX8_init 75 = .ok (.aload_n 0, 1) := by decide +kernel
theorem dX8_init_76 : decode cX8_init 76 = .ok (.new 51, 3) := by decide +kernel
theorem dX8_init_79 : decode cX8_init 79 = .ok (.dup, 1) := by decide +kernel
theorem dX8_init_80 : decode cX8_init 80 = .ok (.invokespecial 53, 3) := by decide +kernel
theorem dX8_init_83 : decode cX8_init 83 = .ok (.putfield 54, 3) := by decide +kernel
theorem dX8_init_86 : decode cX8_init 86 = .ok (.aload_n 0, 1) := by decide +kernel
theorem dX8_init_87 : decode cX8_init 87 = .ok (.new 58, 3) := by decide +kernel
theorem dX8_init_90 : decode cX8_init 90 = .ok (.dup, 1) := by decide +kernel
theorem dX8_init_91 : decode cX8_init 91 = .ok (.aload_n 0, 1) := by decide +kernel
theorem dX8_init_92 : decode cX8_init 92 = .ok (.getfield 54, 3) := by decide +kernel
theorem dX8_init_95 : decode cX8_init 95 = .ok (.invokespecial 60, 3) := by decide +kernel
theorem dX8_init_98 : decode cX8_init 98 = .ok (.putfield 63, 3) := by decide +kernel
theorem dX8_init_101 : decode cX8_init 101 = .ok (.aload_n 0, 1) := by decide +kernel
theorem dX8_init_102 : decode cX8_init 102 = .ok (.iconst 4, 1) := by decide +kernel
theorem dX8_init_103 : decode cX8_init 103 = .ok (.anewarray 67, 3) := by decide +kernel
theorem dX8_init_106 : decode cX8_init 106 = .ok (.putfield 69, 3) := by decide +kernel
theorem dX8_init_109 : decode cX8_init 109 = .ok (.iconst 0, 1) := by decide +kernel
theorem dX8_init_110 : decode cX8_init 110 = .ok (.istore_n 1, 1) := by decide +kernel
theorem dX8_init_111 : decode cX8_init 111 = .ok (.iload_n 1, 1) := by decide +kernel
theorem dX8_init_112 : decode cX8_init 112 = .ok (.iconst 4, 1) := by decide +kernel
theorem dX8_init_113 : decode cX8_init 113 = .ok (.if_icmp .ge 22, 3) := by decide +kernel
theorem dX8_init_116 : decode cX8_init 116 = .ok (.aload_n 0, 1) := by decide +kernel
theorem dX8_init_117 : decode cX8_init 117 = .ok (.getfield 69, 3) := by decide +kernel
theorem dX8_init_120 : decode cX8_init 120 = .ok (.iload_n 1, 1) := by decide +kernel
theorem dX8_init_121 : decode cX8_init 121 = .ok (.new 67, 3) := by decide +kernel
theorem dX8_init_124 : decode cX8_init 124 = .ok (.dup, 1) := by decide +kernel
theorem dX8_init_125 : decode cX8_init 125 = .ok (.invokespecial 73, 3) := by decide +kernel
theorem dX8_init_128 : decode cX8_init 128 = .ok (.aastore, 1) := by decide +kernel
theorem dX8_init_129 : decode cX8_init 129 = .ok (.iinc 1 1, 3) := by decide +kernel
theorem dX8_init_132 : decode cX8_init 132 = .ok (.goto (-21), 3) := by decide +kernel
theorem dX8_init_135 : decode cX8_init 135 = .ok (.aload_n 0, 1) := by decide +kernel
theorem dX8_init_136 : decode cX8_init 136 = .ok (.bipush 7, 2) := by decide +kernel
theorem dX8_init_138 : decode cX8_init 138 = .ok (.newarray .int, 2) := by decide +kernel
theorem dX8_init_140 : decode cX8_init 140 = .ok (.putfield 74, 3) := by decide +kernel
theorem dX8_init_143 : decode cX8_init 143 = .ok (.return_, 1) := by decide +kernel
set_option maxRecDepth 20000 in
theorem ggX8_vatOf_X8_isVat : GoodIn wsX8_vatOf wsX8_isVat := goodIn_r _ [8, 9, 10, 7, 11] (by decide +kernel) (by decide +kernel)
set_option maxRecDepth 20000 in
theorem gX8_vatOf_X8_isVat : GoodIn wsX8_vatOf (va_wsS RX8 78 yX8_isVat wsX8_isVat) := goodIn_app (goodIn_of _ (by decide +kernel)) ggX8_vatOf_X8_isVat
set_option maxRecDepth 20000 in
theorem ggX8_vatOf_X8_within : GoodIn wsX8_vatOf wsX8_within := goodIn_r _ [11] (by decide +kernel) (by decide +kernel)
set_option maxRecDepth 20000 in
theorem gX8_vatOf_X8_within : GoodIn wsX8_vatOf (va_wsS RX8 82 yX8_within wsX8_within) := goodIn_app (goodIn_of _ (by decide +kernel)) ggX8_vatOf_X8_within
set_option maxRecDepth 20000 in
theorem ggX8_vatOf_X8_finding : GoodIn wsX8_vatOf wsX8_finding := goodIn_r _ [15, 1, 16, 9, 10, 7, 11, 26, 27, 28, 29, 30, 31, 32, 33, 34, 35, 36] (by decide +kernel) (by decide +kernel)
set_option maxRecDepth 20000 in
theorem gX8_vatOf_X8_finding : GoodIn wsX8_vatOf (wsV RX8 87 RX8 yX8_finding wsX8_finding) := goodIn_app (goodIn_of _ (by decide +kernel)) ggX8_vatOf_X8_finding
set_option maxRecDepth 20000 in
theorem ggX8_vatOf_X6_part : GoodIn wsX8_vatOf wsX6_part := goodIn_r _ [21, 22, 23, 24, 25, 44, 45, 46, 47] (by decide +kernel) (by decide +kernel)
set_option maxRecDepth 20000 in
theorem gX8_vatOf_X6_part : GoodIn wsX8_vatOf (wsV RX8 98 RX6 yX6_part wsX6_part) := goodIn_app (goodIn_of _ (by decide +kernel)) ggX8_vatOf_X6_part
theorem dX8_vatOf_0 : decode cX8_vatOf 0 = .ok (.iload_n 1, 1) := by decide +kernel
theorem dX8_vatOf_1 : decode cX8_vatOf 1 = .ok (.invokestatic 78, 3) := by decide +kernel
theorem dX8_vatOf_4 : decode cX8_vatOf 4 = .ok (.ifCond .eq 12, 3) := by decide +kernel
theorem dX8_vatOf_7 : decode cX8_vatOf 7 = .ok (.iload_n 2, 1) := by decide +kernel
theorem dX8_vatOf_8 : decode cX8_vatOf 8 = .ok (.iconst 0, 1) := by decide +kernel
theorem dX8_vatOf_9 : decode cX8_vatOf 9 = .ok (.iconst 3, 1) := by decide +kernel
theorem dX8_vatOf_10 : decode cX8_vatOf 10 = .ok (.invokestatic 82, 3) := by decide +kernel
theorem dX8_vatOf_13 : decode cX8_vatOf 13 = .ok (.ifCond .ne 10, 3) := by decide +kernel
theorem dX8_vatOf_16 : decode cX8_vatOf 16 = .ok (.aload_n 0, 1) := by decide +kernel
theorem dX8_vatOf_17 : decode cX8_vatOf 17 = .ok (.ldc 86, 2) := by decide +kernel
theorem dX8_vatOf_19 : decode cX8_vatOf 19 = .ok (.invokevirtual 87, 3) := by decide +kernel
theorem dX8_vatOf_22 : decode cX8_vatOf 22 = .ok (.ireturn, 1) := by decide +kernel
theorem dX8_vatOf_23 : decode cX8_vatOf 23 = .ok (.aload_n 0, 1) := by decide +kernel
theorem dX8_vatOf_24 : decode cX8_vatOf 24 = .ok (.getfield 10, 3) := by decide +kernel
theorem dX8_vatOf_27 : decode cX8_vatOf 27 = .ok (.getfield 91, 3) := by decide +kernel
theorem dX8_vatOf_30 : decode cX8_vatOf 30 = .ok (.getfield 94, 3) := by decide +kernel
theorem dX8_vatOf_33 : decode cX8_vatOf 33 = .ok (.iload_n 1, 1) := by decide +kernel
theorem dX8_vatOf_34 : decode cX8_vatOf 34 = .ok (.aaload, 1) := by decide +kernel
theorem dX8_vatOf_35 : decode cX8_vatOf 35 = .ok (.iload_n 2, 1) := by decide +kernel
theorem dX8_vatOf_36 : decode cX8_vatOf 36 = .ok (.invokevirtual 98, 3) := by decide +kernel
theorem dX8_vatOf_39 : decode cX8_vatOf 39 = .ok (.ireturn, 1) := by decide +kernel
set_option maxRecDepth 20000 in
theorem ggX8_vat_X8_isVat : GoodIn wsX8_vat wsX8_isVat := goodIn_r _ [9, 10, 11, 8, 12] (by decide +kernel) (by decide +kernel)
set_option maxRecDepth 20000 in
theorem gX8_vat_X8_isVat : GoodIn wsX8_vat (va_wsS RX8 78 yX8_isVat wsX8_isVat) := goodIn_app (goodIn_of _ (by decide +kernel)) ggX8_vat_X8_isVat
set_option maxRecDepth 20000 in
theorem ggX8_vat_X8_within : GoodIn wsX8_vat wsX8_within := goodIn_r _ [12] (by decide +kernel) (by decide +kernel)
set_option maxRecDepth 20000 in
theorem gX8_vat_X8_within : GoodIn wsX8_vat (va_wsS RX8 82 yX8_within wsX8_within) := goodIn_app (goodIn_of _ (by decide +kernel)) ggX8_vat_X8_within
set_option maxRecDepth 20000 in
theorem ggX8_vat_X8_finding : GoodIn wsX8_vat wsX8_finding := goodIn_r _ [16, 2, 17, 10, 11, 8, 12, 31, 32, 33, 34, 35, 36, 37, 38, 39, 40, 41] (by decide +kernel) (by decide +kernel)
set_option maxRecDepth 20000 in
theorem gX8_vat_X8_finding : GoodIn wsX8_vat (wsV RX8 87 RX8 yX8_finding wsX8_finding) := goodIn_app (goodIn_of _ (by decide +kernel)) ggX8_vat_X8_finding
set_option maxRecDepth 20000 in
theorem ggX8_vat_X6_part : GoodIn wsX8_vat wsX6_part := goodIn_r _ [22, 23, 24, 25, 26, 49, 50, 51, 52] (by decide +kernel) (by decide +kernel)
set_option maxRecDepth 20000 in
theorem gX8_vat_X6_part : GoodIn wsX8_vat (wsV RX8 98 RX6 yX6_part wsX6_part) := goodIn_app (goodIn_of _ (by decide +kernel)) ggX8_vat_X6_part
set_option maxRecDepth 20000 in
theorem ggX8_vat_X6_setPart : GoodIn wsX8_vat wsX6_setPart := goodIn_r _ [30, 23, 24, 25, 26, 49, 50, 51, 52] (by decide +kernel) (by decide +kernel)
set_option maxRecDepth 20000 in
theorem gX8_vat_X6_setPart : GoodIn wsX8_vat (wsV RX8 104 RX6 yX6_setPart wsX6_setPart) := goodIn_app (goodIn_of _ (by decide +kernel)) ggX8_vat_X6_setPart
theorem dX8_vat_0 : decode cX8_vat 0 = .ok (.iload_n 1, 1) := by decide +kernel
theorem dX8_vat_1 : decode cX8_vat 1 = .ok (.invokestatic 78, 3) := by decide +kernel
theorem dX8_vat_4 : decode cX8_vat 4 = .ok (.ifCond .eq 25, 3) := by decide +kernel
theorem dX8_vat_7 : decode cX8_vat 7 = .ok (.iload_n 2, 1) := by decide +kernel
theorem dX8_vat_8 : decode cX8_vat 8 = .ok (.iconst 0, 1) := by decide +kernel
theorem dX8_vat_9 : decode cX8_vat 9 = .ok (.iconst 3, 1) := by decide +kernel
theorem dX8_vat_10 : decode cX8_vat 10 = .ok (.invokestatic 82, 3) := by decide +kernel
theorem dX8_vat_13 : decode cX8_vat 13 = .ok (.ifCond .eq 16, 3) := by decide +kernel
theorem dX8_vat_16 : decode cX8_vat 16 = .ok (.iload_n 3, 1) := by decide +kernel
theorem dX8_vat_17 : decode cX8_vat 17 = .ok (.iconst 0, 1) := by decide +kernel
theorem dX8_vat_18 : decode cX8_vat 18 = .ok (.getstatic 101, 3) := by decide +kernel
theorem dX8_vat_21 : decode cX8_vat 21 = .ok (.iload_n 2, 1) := by decide +kernel
theorem dX8_vat_22 : decode cX8_vat 22 = .ok (.iaload, 1) := by decide +kernel
theorem dX8_vat_23 : decode cX8_vat 23 = .ok (.invokestatic 82, 3) := by decide +kernel
theorem dX8_vat_26 : decode cX8_vat 26 = .ok (.ifCond .ne 10, 3) := by decide +kernel
theorem dX8_vat_29 : decode cX8_vat 29 = .ok (.aload_n 0, 1) := by decide +kernel
theorem dX8_vat_30 : decode cX8_vat 30 = .ok (.ldc 86, 2) := by decide +kernel
theorem dX8_vat_32 : decode cX8_vat 32 = .ok (.invokevirtual 87, 3) := by decide +kernel
theorem dX8_vat_35 : decode cX8_vat 35 = .ok (.ireturn, 1) := by decide +kernel
theorem dX8_vat_36 : decode cX8_vat 36 = .ok (.aload_n 0, 1) := by decide +kernel
theorem dX8_vat_37 : decode cX8_vat 37 = .ok (.getfield 10, 3) := by decide +kernel
theorem dX8_vat_40 : decode cX8_vat 40 = .ok (.getfield 91, 3) := by decide +kernel
theorem dX8_vat_43 : decode cX8_vat 43 = .ok (.getfield 94, 3) := by decide +kernel
theorem dX8_vat_46 : decode cX8_vat 46 = .ok (.iload_n 1, 1) := by decide +kernel
theorem dX8_vat_47 : decode cX8_vat 47 = .ok (.aaload, 1) := by decide +kernel
theorem dX8_vat_48 : decode cX8_vat 48 = .ok (.astore 4, 2) := by decide +kernel
theorem dX8_vat_50 : decode cX8_vat 50 = .ok (.aload 4, 2) := by decide +kernel
theorem dX8_vat_52 : decode cX8_vat 52 = .ok (.iload_n 2, 1) := by decide +kernel
theorem dX8_vat_53 : decode cX8_vat 53 = .ok (.invokevirtual 98, 3) := by decide +kernel
theorem dX8_vat_56 : decode cX8_vat 56 = .ok (.istore 5, 2) := by decide +kernel
theorem dX8_vat_58 : decode cX8_vat 58 = .ok (.aload 4, 2) := by decide +kernel
theorem dX8_vat_60 : decode cX8_vat 60 = .ok (.iload_n 2, 1) := by decide +kernel
theorem dX8_vat_61 : decode cX8_vat 61 = .ok (.iload_n 3, 1) := by decide +kernel
theorem dX8_vat_62 : decode cX8_vat 62 = .ok (.invokevirtual 104, 3) := by decide +kernel
theorem dX8_vat_65 : decode cX8_vat 65 = .ok (.iload 5, 2) := by decide +kernel
theorem dX8_vat_67 : decode cX8_vat 67 = .ok (.ireturn, 1) := by decide +kernel
set_option maxRecDepth 20000 in
theorem ggX8_let_X8_within : GoodIn wsX8_let wsX8_within := goodIn_r _ [9] (by decide +kernel) (by decide +kernel)
set_option maxRecDepth 20000 in
theorem gX8_let_X8_within : GoodIn wsX8_let (va_wsS RX8 82 yX8_within wsX8_within) := goodIn_app (goodIn_of _ (by decide +kernel)) ggX8_let_X8_within
set_option maxRecDepth 20000 in
theorem ggX8_let_X8_finding : GoodIn wsX8_let wsX8_finding := goodIn_r _ [13, 1, 14, 6, 7, 8, 9, 15, 16, 17, 18, 19, 20, 21, 22, 23, 24, 25] (by decide +kernel) (by decide +kernel)
set_option maxRecDepth 20000 in
theorem gX8_let_X8_finding : GoodIn wsX8_let (wsV RX8 87 RX8 yX8_finding wsX8_finding) := goodIn_app (goodIn_of _ (by decide +kernel)) ggX8_let_X8_finding
theorem dX8_let_0 : decode cX8_let 0 = .ok (.iload_n 1, 1) := by decide +kernel
theorem dX8_let_1 : decode cX8_let 1 = .ok (.iconst 0, 1) := by decide +kernel
theorem dX8_let_2 : decode cX8_let 2 = .ok (.iconst 1, 1) := by decide +kernel
theorem dX8_let_3 : decode cX8_let 3 = .ok (.invokestatic 82, 3) := by decide +kernel
theorem dX8_let_6 : decode cX8_let 6 = .ok (.ifCond .eq 23, 3) := by decide +kernel
theorem dX8_let_9 : decode cX8_let 9 = .ok (.iload_n 2, 1) := by decide +kernel
theorem dX8_let_10 : decode cX8_let 10 = .ok (.iconst 0, 1) := by decide +kernel
theorem dX8_let_11 : decode cX8_let 11 = .ok (.iload_n 1, 1) := by decide +kernel
theorem dX8_let_12 : decode cX8_let 12 = .ok (.ifCond .ne 9, 3) := by decide +kernel
theorem dX8_let_15 : decode cX8_let 15 = .ok (.sipush 9999, 3) := by decide +kernel
theorem dX8_let_18 : decode cX8_let 18 = .ok (.goto 5, 3) := by decide +kernel
theorem dX8_let_21 : decode cX8_let 21 = .ok (.bipush 9, 2) := by decide +kernel
theorem dX8_let_23 : decode cX8_let 23 = .ok (.invokestatic 82, 3) := by decide +kernel
theorem dX8_let_26 : decode cX8_let 26 = .ok (.ifCond .ne 10, 3) := by decide +kernel
theorem dX8_let_29 : decode cX8_let 29 = .ok (.aload_n 0, 1) := by decide +kernel
theorem dX8_let_30 : decode cX8_let 30 = .ok (.ldc 86, 2) := by decide +kernel
theorem dX8_let_32 : decode cX8_let 32 = .ok (.invokevirtual 87, 3) := by decide +kernel
theorem dX8_let_35 : decode cX8_let 35 = .ok (.ireturn, 1) := by decide +kernel
theorem dX8_let_36 : decode cX8_let 36 = .ok (.iload_n 1, 1) := by decide +kernel
theorem dX8_let_37 : decode cX8_let 37 = .ok (.ifCond .ne 28, 3) := by decide +kernel
theorem dX8_let_40 : decode cX8_let 40 = .ok (.aload_n 0, 1) := by decide +kernel
theorem dX8_let_41 : decode cX8_let 41 = .ok (.getfield 10, 3) := by decide +kernel
theorem dX8_let_44 : decode cX8_let 44 = .ok (.getfield 91, 3) := by decide +kernel
theorem dX8_let_47 : decode cX8_let 47 = .ok (.getfield 108, 3) := by decide +kernel
theorem dX8_let_50 : decode cX8_let 50 = .ok (.istore_n 3, 1) := by decide +kernel
theorem dX8_let_51 : decode cX8_let 51 = .ok (.aload_n 0, 1) := by decide +kernel
theorem dX8_let_52 : decode cX8_let 52 = .ok (.getfield 10, 3) := by decide +kernel
theorem dX8_let_55 : decode cX8_let 55 = .ok (.getfield 91, 3) := by decide +kernel
theorem dX8_let_58 : decode cX8_let 58 = .ok (.iload_n 2, 1) := by decide +kernel
theorem dX8_let_59 : decode cX8_let 59 = .ok (.putfield 108, 3) := by decide +kernel
theorem dX8_let_62 : decode cX8_let 62 = .ok (.goto 25, 3) := by decide +kernel
theorem dX8_let_65 : decode cX8_let 65 = .ok (.aload_n 0, 1) := by decide +kernel
theorem dX8_let_66 : decode cX8_let 66 = .ok (.getfield 10, 3) := by decide +kernel
theorem dX8_let_69 : decode cX8_let 69 = .ok (.getfield 91, 3) := by decide +kernel
theorem dX8_let_72 : decode cX8_let 72 = .ok (.getfield 112, 3) := by decide +kernel
theorem dX8_let_75 : decode cX8_let 75 = .ok (.istore_n 3, 1) := by decide +kernel
theorem dX8_let_76 : decode cX8_let 76 = .ok (.aload_n 0, 1) := by decide +kernel
theorem dX8_let_77 : decode cX8_let 77 = .ok (.getfield 10, 3) := by decide +kernel
theorem dX8_let_80 : decode cX8_let 80 = .ok (.getfield 91, 3) := by decide +kernel
theorem dX8_let_83 : decode cX8_let 83 = .ok (.iload_n 2, 1) := by decide +kernel
theorem dX8_let_84 : decode cX8_let 84 = .ok (.putfield 112, 3) := by decide +kernel
theorem dX8_let_87 : decode cX8_let 87 = .ok (.iload_n 3, 1) := by decide +kernel
theorem dX8_let_88 : decode cX8_let 88 = .ok (.ireturn, 1) := by decide +kernel
set_option maxRecDepth 20000 in
theorem ggX8_candle_X8_isKind : GoodIn wsX8_candle wsX8_isKind := goodIn_r _ [8, 9, 10, 7, 11] (by decide +kernel) (by decide +kernel)
set_option maxRecDepth 20000 in
theorem gX8_candle_X8_isKind : GoodIn wsX8_candle (va_wsS RX8 115 yX8_isKind wsX8_isKind) := goodIn_app (goodIn_of _ (by decide +kernel)) ggX8_candle_X8_isKind
set_option maxRecDepth 20000 in
theorem ggX8_candle_X8_finding : GoodIn wsX8_candle wsX8_finding := goodIn_r _ [15, 1, 16, 9, 10, 7, 11, 33, 34, 35, 36, 37, 38, 39, 40, 41, 42, 43] (by decide +kernel) (by decide +kernel)
set_option maxRecDepth 20000 in
theorem gX8_candle_X8_finding : GoodIn wsX8_candle (wsV RX8 87 RX8 yX8_finding wsX8_finding) := goodIn_app (goodIn_of _ (by decide +kernel)) ggX8_candle_X8_finding
set_option maxRecDepth 20000 in
theorem ggX8_candle_X1_addCandle : GoodIn wsX8_candle wsX1_addCandle := goodIn_r _ [21, 22, 23, 24, 25, 26, 27, 28, 29, 30, 31, 32, 44, 45, 46, 47, 48, 49, 50, 51] (by decide +kernel) (by decide +kernel)
set_option maxRecDepth 20000 in
theorem gX8_candle_X1_addCandle : GoodIn wsX8_candle (wsV RX8 118 RX1 yX1_addCandle wsX1_addCandle) := goodIn_app (goodIn_of _ (by decide +kernel)) ggX8_candle_X1_addCandle
theorem dX8_candle_0 : decode cX8_candle 0 = .ok (.iload_n 1, 1) := by decide +kernel
theorem dX8_candle_1 : decode cX8_candle 1 = .ok (.invokestatic 115, 3) := by decide +kernel
theorem dX8_candle_4 : decode cX8_candle 4 = .ok (.ifCond .ne 10, 3) := by decide +kernel
theorem dX8_candle_7 : decode cX8_candle 7 = .ok (.aload_n 0, 1) := by decide +kernel
theorem dX8_candle_8 : decode cX8_candle 8 = .ok (.ldc 86, 2) := by decide +kernel
theorem dX8_candle_10 : decode cX8_candle 10 = .ok (.invokevirtual 87, 3) := by decide +kernel
theorem dX8_candle_13 : decode cX8_candle 13 = .ok (.ireturn, 1) := by decide +kernel
theorem dX8_candle_14 : decode cX8_candle 14 = .ok (.aload_n 0, 1) := by decide +kernel
theorem dX8_candle_15 : decode cX8_candle 15 = .ok (.getfield 10, 3) := by decide +kernel
theorem dX8_candle_18 : decode cX8_candle 18 = .ok (.iload_n 1, 1) := by decide +kernel
theorem dX8_candle_19 : decode cX8_candle 19 = .ok (.invokevirtual 118, 3) := by decide +kernel
theorem dX8_candle_22 : decode cX8_candle 22 = .ok (.ifCond .ne 10, 3) := by decide +kernel
theorem dX8_candle_25 : decode cX8_candle 25 = .ok (.aload_n 0, 1) := by decide +kernel
theorem dX8_candle_26 : decode cX8_candle 26 = .ok (.ldc 121, 2) := by decide +kernel
theorem dX8_candle_28 : decode cX8_candle 28 = .ok (.invokevirtual 87, 3) := by decide +kernel
theorem dX8_candle_31 : decode cX8_candle 31 = .ok (.ireturn, 1) := by decide +kernel
theorem dX8_candle_32 : decode cX8_candle 32 = .ok (.aload_n 0, 1) := by decide +kernel
theorem dX8_candle_33 : decode cX8_candle 33 = .ok (.getfield 10, 3) := by decide +kernel
theorem dX8_candle_36 : decode cX8_candle 36 = .ok (.getfield 122, 3) := by decide +kernel
theorem dX8_candle_39 : decode cX8_candle 39 = .ok (.iconst 1, 1) := by decide +kernel
theorem dX8_candle_40 : decode cX8_candle 40 = .ok (.isub, 1) := by decide +kernel
theorem dX8_candle_41 : decode cX8_candle 41 = .ok (.ireturn, 1) := by decide +kernel
set_option maxRecDepth 20000 in
theorem ggX8_of_X1_has : GoodIn wsX8_of wsX1_has := goodIn_r _ [11, 12, 13, 14, 15, 49, 50, 51] (by decide +kernel) (by decide +kernel)
set_option maxRecDepth 20000 in
theorem gX8_of_X1_has : GoodIn wsX8_of (wsV RX8 125 RX1 yX1_has wsX1_has) := goodIn_app (goodIn_of _ (by decide +kernel)) ggX8_of_X1_has
set_option maxRecDepth 20000 in
theorem ggX8_of_X8_within : GoodIn wsX8_of wsX8_within := goodIn_r _ [15] (by decide +kernel) (by decide +kernel)
set_option maxRecDepth 20000 in
theorem gX8_of_X8_within : GoodIn wsX8_of (va_wsS RX8 82 yX8_within wsX8_within) := goodIn_app (goodIn_of _ (by decide +kernel)) ggX8_of_X8_within
set_option maxRecDepth 20000 in
theorem ggX8_of_X8_finding : GoodIn wsX8_of wsX8_finding := goodIn_r _ [20, 2, 21, 16, 13, 14, 15, 38, 39, 40, 41, 42, 43, 44, 45, 46, 47, 48] (by decide +kernel) (by decide +kernel)
set_option maxRecDepth 20000 in
theorem gX8_of_X8_finding : GoodIn wsX8_of (wsV RX8 87 RX8 yX8_finding wsX8_finding) := goodIn_app (goodIn_of _ (by decide +kernel)) ggX8_of_X8_finding
set_option maxRecDepth 20000 in
theorem ggX8_of_X0_grams : GoodIn wsX8_of wsX0_grams := goodIn_r _ [26, 27, 28, 52, 53, 54, 55, 56] (by decide +kernel) (by decide +kernel)
set_option maxRecDepth 20000 in
theorem gX8_of_X0_grams : GoodIn wsX8_of (wsV RX8 136 RX0 yX0_grams wsX0_grams) := goodIn_app (goodIn_of _ (by decide +kernel)) ggX8_of_X0_grams
set_option maxRecDepth 20000 in
theorem ggX8_of_X0_minutes : GoodIn wsX8_of wsX0_minutes := goodIn_r _ [32, 27, 28, 33, 34, 35, 36, 37, 52, 53, 54, 55, 56] (by decide +kernel) (by decide +kernel)
set_option maxRecDepth 20000 in
theorem gX8_of_X0_minutes : GoodIn wsX8_of (wsV RX8 143 RX0 yX0_minutes wsX0_minutes) := goodIn_app (goodIn_of _ (by decide +kernel)) ggX8_of_X0_minutes
theorem dX8_of_0 : decode cX8_of 0 = .ok (.aload_n 0, 1) := by decide +kernel
theorem dX8_of_1 : decode cX8_of 1 = .ok (.getfield 10, 3) := by decide +kernel
theorem dX8_of_4 : decode cX8_of 4 = .ok (.iload_n 1, 1) := by decide +kernel
theorem dX8_of_5 : decode cX8_of 5 = .ok (.invokevirtual 125, 3) := by decide +kernel
theorem dX8_of_8 : decode cX8_of 8 = .ok (.ifCond .eq 12, 3) := by decide +kernel
theorem dX8_of_11 : decode cX8_of 11 = .ok (.iload_n 2, 1) := by decide +kernel
theorem dX8_of_12 : decode cX8_of 12 = .ok (.iconst 0, 1) := by decide +kernel
theorem dX8_of_13 : decode cX8_of 13 = .ok (.iconst 4, 1) := by decide +kernel
theorem dX8_of_14 : decode cX8_of 14 = .ok (.invokestatic 82, 3) := by decide +kernel
theorem dX8_of_17 : decode cX8_of 17 = .ok (.ifCond .ne 10, 3) := by decide +kernel
theorem dX8_of_20 : decode cX8_of 20 = .ok (.aload_n 0, 1) := by decide +kernel
theorem dX8_of_21 : decode cX8_of 21 = .ok (.ldc 86, 2) := by decide +kernel
theorem dX8_of_23 : decode cX8_of 23 = .ok (.invokevirtual 87, 3) := by decide +kernel
theorem dX8_of_26 : decode cX8_of 26 = .ok (.ireturn, 1) := by decide +kernel
theorem dX8_of_27 : decode cX8_of 27 = .ok (.aload_n 0, 1) := by decide +kernel
theorem dX8_of_28 : decode cX8_of 28 = .ok (.getfield 10, 3) := by decide +kernel
theorem dX8_of_31 : decode cX8_of 31 = .ok (.getfield 128, 3) := by decide +kernel
theorem dX8_of_34 : decode cX8_of 34 = .ok (.iload_n 1, 1) := by decide +kernel
theorem dX8_of_35 : decode cX8_of 35 = .ok (.aaload, 1) := by decide +kernel
theorem dX8_of_36 : decode cX8_of 36 = .ok (.astore_n 3, 1) := by decide +kernel
theorem dX8_of_37 : decode cX8_of 37 = .ok (.iload_n 2, 1) := by decide +kernel
theorem dX8_of_38 : decode cX8_of 38 = .ok (.tableswitch 50 0 3 #[30, 35, 40, 45], 30) := by decide +kernel
theorem dX8_of_68 : decode cX8_of 68 = .ok (.aload_n 3, 1) := by decide +kernel
theorem dX8_of_69 : decode cX8_of 69 = .ok (.getfield 132, 3) := by decide +kernel
theorem dX8_of_72 : decode cX8_of 72 = .ok (.ireturn, 1) := by decide +kernel
theorem dX8_of_73 : decode cX8_of 73 = .ok (.aload_n 3, 1) := by decide +kernel
theorem dX8_of_74 : decode cX8_of 74 = .ok (.getfield 135, 3) := by decide +kernel
theorem dX8_of_77 : decode cX8_of 77 = .ok (.ireturn, 1) := by decide +kernel
theorem dX8_of_78 : decode cX8_of 78 = .ok (.aload_n 3, 1) := by decide +kernel
theorem dX8_of_79 : decode cX8_of 79 = .ok (.invokevirtual 136, 3) := by decide +kernel
theorem dX8_of_82 : decode cX8_of 82 = .ok (.ireturn, 1) := by decide +kernel
theorem dX8_of_83 : decode cX8_of 83 = .ok (.aload_n 3, 1) := by decide +kernel
theorem dX8_of_84 : decode cX8_of 84 = .ok (.getfield 140, 3) := by decide +kernel
theorem dX8_of_87 : decode cX8_of 87 = .ok (.ireturn, 1) := by decide +kernel
theorem dX8_of_88 : decode cX8_of 88 = .ok (.aload_n 3, 1) := by decide +kernel
theorem dX8_of_89 : decode cX8_of 89 = .ok (.invokevirtual 143, 3) := by decide +kernel
theorem dX8_of_92 : decode cX8_of 92 = .ok (.ireturn, 1) := by decide +kernel
set_option maxRecDepth 20000 in
theorem ggX8_layer_X1_has : GoodIn wsX8_layer wsX1_has := goodIn_r _ [11, 12, 13, 14, 15, 33, 34, 35] (by decide +kernel) (by decide +kernel)
set_option maxRecDepth 20000 in
theorem gX8_layer_X1_has : GoodIn wsX8_layer (wsV RX8 125 RX1 yX1_has wsX1_has) := goodIn_app (goodIn_of _ (by decide +kernel)) ggX8_layer_X1_has
set_option maxRecDepth 20000 in
theorem ggX8_layer_X8_finding : GoodIn wsX8_layer wsX8_finding := goodIn_r _ [19, 2, 20, 21, 13, 14, 15, 22, 23, 24, 25, 26, 27, 28, 29, 30, 31, 32] (by decide +kernel) (by decide +kernel)
set_option maxRecDepth 20000 in
theorem gX8_layer_X8_finding : GoodIn wsX8_layer (wsV RX8 87 RX8 yX8_finding wsX8_finding) := goodIn_app (goodIn_of _ (by decide +kernel)) ggX8_layer_X8_finding
theorem dX8_layer_0 : decode cX8_layer 0 = .ok (.aload_n 0, 1) := by decide +kernel
theorem dX8_layer_1 : decode cX8_layer 1 = .ok (.getfield 10, 3) := by decide +kernel
theorem dX8_layer_4 : decode cX8_layer 4 = .ok (.iload_n 1, 1) := by decide +kernel
theorem dX8_layer_5 : decode cX8_layer 5 = .ok (.invokevirtual 125, 3) := by decide +kernel
theorem dX8_layer_8 : decode cX8_layer 8 = .ok (.ifCond .eq 7, 3) := by decide +kernel
theorem dX8_layer_11 : decode cX8_layer 11 = .ok (.iload_n 2, 1) := by decide +kernel
theorem dX8_layer_12 : decode cX8_layer 12 = .ok (.ifCond .ge 10, 3) := by decide +kernel
theorem dX8_layer_15 : decode cX8_layer 15 = .ok (.aload_n 0, 1) := by decide +kernel
theorem dX8_layer_16 : decode cX8_layer 16 = .ok (.ldc 86, 2) := by decide +kernel
theorem dX8_layer_18 : decode cX8_layer 18 = .ok (.invokevirtual 87, 3) := by decide +kernel
theorem dX8_layer_21 : decode cX8_layer 21 = .ok (.ireturn, 1) := by decide +kernel
theorem dX8_layer_22 : decode cX8_layer 22 = .ok (.aload_n 0, 1) := by decide +kernel
theorem dX8_layer_23 : decode cX8_layer 23 = .ok (.getfield 10, 3) := by decide +kernel
theorem dX8_layer_26 : decode cX8_layer 26 = .ok (.getfield 128, 3) := by decide +kernel
theorem dX8_layer_29 : decode cX8_layer 29 = .ok (.iload_n 1, 1) := by decide +kernel
theorem dX8_layer_30 : decode cX8_layer 30 = .ok (.aaload, 1) := by decide +kernel
theorem dX8_layer_31 : decode cX8_layer 31 = .ok (.astore_n 3, 1) := by decide +kernel
theorem dX8_layer_32 : decode cX8_layer 32 = .ok (.iload_n 2, 1) := by decide +kernel
theorem dX8_layer_33 : decode cX8_layer 33 = .ok (.aload_n 3, 1) := by decide +kernel
theorem dX8_layer_34 : decode cX8_layer 34 = .ok (.getfield 135, 3) := by decide +kernel
theorem dX8_layer_37 : decode cX8_layer 37 = .ok (.if_icmp .lt 10, 3) := by decide +kernel
theorem dX8_layer_40 : decode cX8_layer 40 = .ok (.aload_n 0, 1) := by decide +kernel
theorem dX8_layer_41 : decode cX8_layer 41 = .ok (.ldc 146, 2) := by decide +kernel
theorem dX8_layer_43 : decode cX8_layer 43 = .ok (.invokevirtual 87, 3) := by decide +kernel
theorem dX8_layer_46 : decode cX8_layer 46 = .ok (.ireturn, 1) := by decide +kernel
theorem dX8_layer_47 : decode cX8_layer 47 = .ok (.aload_n 3, 1) := by decide +kernel
theorem dX8_layer_48 : decode cX8_layer 48 = .ok (.getfield 147, 3) := by decide +kernel
theorem dX8_layer_51 : decode cX8_layer 51 = .ok (.iload_n 2, 1) := by decide +kernel
theorem dX8_layer_52 : decode cX8_layer 52 = .ok (.iaload, 1) := by decide +kernel
theorem dX8_layer_53 : decode cX8_layer 53 = .ok (.ireturn, 1) := by decide +kernel
set_option maxRecDepth 20000 in
theorem ggX8_turn_X1_has : GoodIn wsX8_turn wsX1_has := goodIn_r _ [9, 10, 11, 12, 13, 34, 35, 36] (by decide +kernel) (by decide +kernel)
set_option maxRecDepth 20000 in
theorem gX8_turn_X1_has : GoodIn wsX8_turn (wsV RX8 125 RX1 yX1_has wsX1_has) := goodIn_app (goodIn_of _ (by decide +kernel)) ggX8_turn_X1_has
set_option maxRecDepth 20000 in
theorem ggX8_turn_X8_isKind : GoodIn wsX8_turn wsX8_isKind := goodIn_r _ [16, 17, 11, 12, 13] (by decide +kernel) (by decide +kernel)
set_option maxRecDepth 20000 in
theorem gX8_turn_X8_isKind : GoodIn wsX8_turn (va_wsS RX8 115 yX8_isKind wsX8_isKind) := goodIn_app (goodIn_of _ (by decide +kernel)) ggX8_turn_X8_isKind
set_option maxRecDepth 20000 in
theorem ggX8_turn_X8_finding : GoodIn wsX8_turn wsX8_finding := goodIn_r _ [21, 2, 22, 17, 11, 12, 13, 23, 24, 25, 26, 27, 28, 29, 30, 31, 32, 33] (by decide +kernel) (by decide +kernel)
set_option maxRecDepth 20000 in
theorem gX8_turn_X8_finding : GoodIn wsX8_turn (wsV RX8 87 RX8 yX8_finding wsX8_finding) := goodIn_app (goodIn_of _ (by decide +kernel)) ggX8_turn_X8_finding
theorem dX8_turn_0 : decode cX8_turn 0 = .ok (.aload_n 0, 1) := by decide +kernel
theorem dX8_turn_1 : decode cX8_turn 1 = .ok (.getfield 10, 3) := by decide +kernel
theorem dX8_turn_4 : decode cX8_turn 4 = .ok (.iload_n 1, 1) := by decide +kernel
theorem dX8_turn_5 : decode cX8_turn 5 = .ok (.invokevirtual 125, 3) := by decide +kernel
theorem dX8_turn_8 : decode cX8_turn 8 = .ok (.ifCond .eq 10, 3) := by decide +kernel
theorem dX8_turn_11 : decode cX8_turn 11 = .ok (.iload_n 2, 1) := by decide +kernel
theorem dX8_turn_12 : decode cX8_turn 12 = .ok (.invokestatic 115, 3) := by decide +kernel
theorem dX8_turn_15 : decode cX8_turn 15 = .ok (.ifCond .ne 10, 3) := by decide +kernel
theorem dX8_turn_18 : decode cX8_turn 18 = .ok (.aload_n 0, 1) := by decide +kernel
theorem dX8_turn_19 : decode cX8_turn 19 = .ok (.ldc 86, 2) := by decide +kernel
theorem dX8_turn_21 : decode cX8_turn 21 = .ok (.invokevirtual 87, 3) := by decide +kernel
theorem dX8_turn_24 : decode cX8_turn 24 = .ok (.ireturn, 1) := by decide +kernel
theorem dX8_turn_25 : decode cX8_turn 25 = .ok (.aload_n 0, 1) := by decide +kernel
theorem dX8_turn_26 : decode cX8_turn 26 = .ok (.getfield 10, 3) := by decide +kernel
theorem dX8_turn_29 : decode cX8_turn 29 = .ok (.getfield 128, 3) := by decide +kernel
theorem dX8_turn_32 : decode cX8_turn 32 = .ok (.iload_n 1, 1) := by decide +kernel
theorem dX8_turn_33 : decode cX8_turn 33 = .ok (.aaload, 1) := by decide +kernel
theorem dX8_turn_34 : decode cX8_turn 34 = .ok (.astore_n 3, 1) := by decide +kernel
theorem dX8_turn_35 : decode cX8_turn 35 = .ok (.aload_n 3, 1) := by decide +kernel
theorem dX8_turn_36 : decode cX8_turn 36 = .ok (.getfield 132, 3) := by decide +kernel
theorem dX8_turn_39 : decode cX8_turn 39 = .ok (.istore 4, 2) := by decide +kernel
theorem dX8_turn_41 : decode cX8_turn 41 = .ok (.aload_n 3, 1) := by decide +kernel
theorem dX8_turn_42 : decode cX8_turn 42 = .ok (.iload_n 2, 1) := by decide +kernel
theorem dX8_turn_43 : decode cX8_turn 43 = .ok (.putfield 132, 3) := by decide +kernel
theorem dX8_turn_46 : decode cX8_turn 46 = .ok (.iload 4, 2) := by decide +kernel
theorem dX8_turn_48 : decode cX8_turn 48 = .ok (.ireturn, 1) := by decide +kernel
set_option maxRecDepth 20000 in
theorem ggX8_as_X1_has : GoodIn wsX8_as wsX1_has := goodIn_r _ [10, 11, 12, 13, 14, 51, 52, 53] (by decide +kernel) (by decide +kernel)
set_option maxRecDepth 20000 in
theorem gX8_as_X1_has : GoodIn wsX8_as (wsV RX8 125 RX1 yX1_has wsX1_has) := goodIn_app (goodIn_of _ (by decide +kernel)) ggX8_as_X1_has
set_option maxRecDepth 20000 in
theorem ggX8_as_X8_isKind : GoodIn wsX8_as wsX8_isKind := goodIn_r _ [17, 18, 12, 13, 14] (by decide +kernel) (by decide +kernel)
set_option maxRecDepth 20000 in
theorem gX8_as_X8_isKind : GoodIn wsX8_as (va_wsS RX8 115 yX8_isKind wsX8_isKind) := goodIn_app (goodIn_of _ (by decide +kernel)) ggX8_as_X8_isKind
set_option maxRecDepth 20000 in
theorem ggX8_as_X8_finding : GoodIn wsX8_as wsX8_finding := goodIn_r _ [22, 2, 23, 18, 12, 13, 14, 40, 41, 42, 43, 44, 45, 46, 47, 48, 49, 50] (by decide +kernel) (by decide +kernel)
set_option maxRecDepth 20000 in
theorem gX8_as_X8_finding : GoodIn wsX8_as (wsV RX8 87 RX8 yX8_finding wsX8_finding) := goodIn_app (goodIn_of _ (by decide +kernel)) ggX8_as_X8_finding
set_option maxRecDepth 20000 in
theorem ggX8_as_X8_isUnder : GoodIn wsX8_as wsX8_isUnder := goodIn_r _ [26, 27, 15, 16, 13, 17, 18, 12, 14] (by decide +kernel) (by decide +kernel)
set_option maxRecDepth 20000 in
theorem gX8_as_X8_isUnder : GoodIn wsX8_as (va_wsS RX8 150 yX8_isUnder wsX8_isUnder) := goodIn_app (goodIn_of _ (by decide +kernel)) ggX8_as_X8_isUnder
set_option maxRecDepth 20000 in
theorem ggX8_as_X0_minutes : GoodIn wsX8_as wsX0_minutes := goodIn_r _ [32, 33, 34, 35, 36, 37, 38, 39, 54, 55, 56, 57, 58] (by decide +kernel) (by decide +kernel)
set_option maxRecDepth 20000 in
theorem gX8_as_X0_minutes : GoodIn wsX8_as (wsV RX8 143 RX0 yX0_minutes wsX0_minutes) := goodIn_app (goodIn_of _ (by decide +kernel)) ggX8_as_X0_minutes
theorem dX8_as_0 : decode cX8_as 0 = .ok (.aload_n 0, 1) := by decide +kernel
theorem dX8_as_1 : decode cX8_as 1 = .ok (.getfield 10, 3) := by decide +kernel
theorem dX8_as_4 : decode cX8_as 4 = .ok (.iload_n 1, 1) := by decide +kernel
theorem dX8_as_5 : decode cX8_as 5 = .ok (.invokevirtual 125, 3) := by decide +kernel
theorem dX8_as_8 : decode cX8_as 8 = .ok (.ifCond .eq 10, 3) := by decide +kernel
theorem dX8_as_11 : decode cX8_as 11 = .ok (.iload_n 2, 1) := by decide +kernel
theorem dX8_as_12 : decode cX8_as 12 = .ok (.invokestatic 115, 3) := by decide +kernel
theorem dX8_as_15 : decode cX8_as 15 = .ok (.ifCond .ne 10, 3) := by decide +kernel
theorem dX8_as_18 : decode cX8_as 18 = .ok (.aload_n 0, 1) := by decide +kernel
theorem dX8_as_19 : decode cX8_as 19 = .ok (.ldc 86, 2) := by decide +kernel
theorem dX8_as_21 : decode cX8_as 21 = .ok (.invokevirtual 87, 3) := by decide +kernel
theorem dX8_as_24 : decode cX8_as 24 = .ok (.ireturn, 1) := by decide +kernel
theorem dX8_as_25 : decode cX8_as 25 = .ok (.aload_n 0, 1) := by decide +kernel
theorem dX8_as_26 : decode cX8_as 26 = .ok (.getfield 10, 3) := by decide +kernel
theorem dX8_as_29 : decode cX8_as 29 = .ok (.getfield 128, 3) := by decide +kernel
theorem dX8_as_32 : decode cX8_as 32 = .ok (.iload_n 1, 1) := by decide +kernel
theorem dX8_as_33 : decode cX8_as 33 = .ok (.aaload, 1) := by decide +kernel
theorem dX8_as_34 : decode cX8_as 34 = .ok (.astore_n 3, 1) := by decide +kernel
theorem dX8_as_35 : decode cX8_as 35 = .ok (.aload_n 3, 1) := by decide +kernel
theorem dX8_as_36 : decode cX8_as 36 = .ok (.getfield 132, 3) := by decide +kernel
theorem dX8_as_39 : decode cX8_as 39 = .ok (.iload_n 2, 1) := by decide +kernel
theorem dX8_as_40 : decode cX8_as 40 = .ok (.invokestatic 150, 3) := by decide +kernel
theorem dX8_as_43 : decode cX8_as 43 = .ok (.ifCond .ne 10, 3) := by decide +kernel
theorem dX8_as_46 : decode cX8_as 46 = .ok (.aload_n 0, 1) := by decide +kernel
theorem dX8_as_47 : decode cX8_as 47 = .ok (.ldc 154, 2) := by decide +kernel
theorem dX8_as_49 : decode cX8_as 49 = .ok (.invokevirtual 87, 3) := by decide +kernel
theorem dX8_as_52 : decode cX8_as 52 = .ok (.ireturn, 1) := by decide +kernel
theorem dX8_as_53 : decode cX8_as 53 = .ok (.aload_n 3, 1) := by decide +kernel
theorem dX8_as_54 : decode cX8_as 54 = .ok (.invokevirtual 143, 3) := by decide +kernel
theorem dX8_as_57 : decode cX8_as 57 = .ok (.ireturn, 1) := by decide +kernel
set_option maxRecDepth 20000 in
theorem ggX8_takes_X1_has : GoodIn wsX8_takes wsX1_has := goodIn_r _ [11, 12, 13, 14, 15, 49, 50, 51] (by decide +kernel) (by decide +kernel)
set_option maxRecDepth 20000 in
theorem gX8_takes_X1_has : GoodIn wsX8_takes (wsV RX8 125 RX1 yX1_has wsX1_has) := goodIn_app (goodIn_of _ (by decide +kernel)) ggX8_takes_X1_has
set_option maxRecDepth 20000 in
theorem ggX8_takes_X8_isVat : GoodIn wsX8_takes wsX8_isVat := goodIn_r _ [18, 19, 13, 14, 15] (by decide +kernel) (by decide +kernel)
set_option maxRecDepth 20000 in
theorem gX8_takes_X8_isVat : GoodIn wsX8_takes (va_wsS RX8 78 yX8_isVat wsX8_isVat) := goodIn_app (goodIn_of _ (by decide +kernel)) ggX8_takes_X8_isVat
set_option maxRecDepth 20000 in
theorem ggX8_takes_X8_finding : GoodIn wsX8_takes wsX8_finding := goodIn_r _ [23, 2, 24, 19, 13, 14, 15, 38, 39, 40, 41, 42, 43, 44, 45, 46, 47, 48] (by decide +kernel) (by decide +kernel)
set_option maxRecDepth 20000 in
theorem gX8_takes_X8_finding : GoodIn wsX8_takes (wsV RX8 87 RX8 yX8_finding wsX8_finding) := goodIn_app (goodIn_of _ (by decide +kernel)) ggX8_takes_X8_finding
set_option maxRecDepth 20000 in
theorem ggX8_takes_X0_gain : GoodIn wsX8_takes wsX0_gain := goodIn_r _ [29, 30, 31, 32, 14, 33, 34, 35, 36, 37, 60, 61, 62, 63, 64] (by decide +kernel) (by decide +kernel)
set_option maxRecDepth 20000 in
theorem gX8_takes_X0_gain : GoodIn wsX8_takes (wsV RX8 158 RX0 yX0_gain wsX0_gain) := goodIn_app (goodIn_of _ (by decide +kernel)) ggX8_takes_X0_gain
theorem dX8_takes_0 : decode cX8_takes 0 = .ok (.aload_n 0, 1) := by decide +kernel
theorem dX8_takes_1 : decode cX8_takes 1 = .ok (.getfield 10, 3) := by decide +kernel
theorem dX8_takes_4 : decode cX8_takes 4 = .ok (.iload_n 1, 1) := by decide +kernel
theorem dX8_takes_5 : decode cX8_takes 5 = .ok (.invokevirtual 125, 3) := by decide +kernel
theorem dX8_takes_8 : decode cX8_takes 8 = .ok (.ifCond .eq 10, 3) := by decide +kernel
theorem dX8_takes_11 : decode cX8_takes 11 = .ok (.iload_n 2, 1) := by decide +kernel
theorem dX8_takes_12 : decode cX8_takes 12 = .ok (.invokestatic 78, 3) := by decide +kernel
theorem dX8_takes_15 : decode cX8_takes 15 = .ok (.ifCond .ne 10, 3) := by decide +kernel
theorem dX8_takes_18 : decode cX8_takes 18 = .ok (.aload_n 0, 1) := by decide +kernel
theorem dX8_takes_19 : decode cX8_takes 19 = .ok (.ldc 86, 2) := by decide +kernel
theorem dX8_takes_21 : decode cX8_takes 21 = .ok (.invokevirtual 87, 3) := by decide +kernel
theorem dX8_takes_24 : decode cX8_takes 24 = .ok (.ireturn, 1) := by decide +kernel
theorem dX8_takes_25 : decode cX8_takes 25 = .ok (.aload_n 0, 1) := by decide +kernel
theorem dX8_takes_26 : decode cX8_takes 26 = .ok (.getfield 10, 3) := by decide +kernel
theorem dX8_takes_29 : decode cX8_takes 29 = .ok (.getfield 128, 3) := by decide +kernel
theorem dX8_takes_32 : decode cX8_takes 32 = .ok (.iload_n 1, 1) := by decide +kernel
theorem dX8_takes_33 : decode cX8_takes 33 = .ok (.aaload, 1) := by decide +kernel
theorem dX8_takes_34 : decode cX8_takes 34 = .ok (.aload_n 0, 1) := by decide +kernel
theorem dX8_takes_35 : decode cX8_takes 35 = .ok (.getfield 10, 3) := by decide +kernel
theorem dX8_takes_38 : decode cX8_takes 38 = .ok (.getfield 91, 3) := by decide +kernel
theorem dX8_takes_41 : decode cX8_takes 41 = .ok (.getfield 94, 3) := by decide +kernel
theorem dX8_takes_44 : decode cX8_takes 44 = .ok (.iload_n 2, 1) := by decide +kernel
theorem dX8_takes_45 : decode cX8_takes 45 = .ok (.aaload, 1) := by decide +kernel
theorem dX8_takes_46 : decode cX8_takes 46 = .ok (.getfield 155, 3) := by decide +kernel
theorem dX8_takes_49 : decode cX8_takes 49 = .ok (.invokevirtual 158, 3) := by decide +kernel
theorem dX8_takes_52 : decode cX8_takes 52 = .ok (.ireturn, 1) := by decide +kernel
set_option maxRecDepth 20000 in
theorem ggX8_dip_X1_has : GoodIn wsX8_dip wsX1_has := goodIn_r _ [11, 12, 13, 14, 15, 106, 107, 108] (by decide +kernel) (by decide +kernel)
set_option maxRecDepth 20000 in
theorem gX8_dip_X1_has : GoodIn wsX8_dip (wsV RX8 125 RX1 yX1_has wsX1_has) := goodIn_app (goodIn_of _ (by decide +kernel)) ggX8_dip_X1_has
set_option maxRecDepth 20000 in
theorem ggX8_dip_X8_isVat : GoodIn wsX8_dip wsX8_isVat := goodIn_r _ [18, 19, 13, 14, 15] (by decide +kernel) (by decide +kernel)
set_option maxRecDepth 20000 in
theorem gX8_dip_X8_isVat : GoodIn wsX8_dip (va_wsS RX8 78 yX8_isVat wsX8_isVat) := goodIn_app (goodIn_of _ (by decide +kernel)) ggX8_dip_X8_isVat
set_option maxRecDepth 20000 in
theorem ggX8_dip_X8_finding : GoodIn wsX8_dip wsX8_finding := goodIn_r _ [23, 2, 24, 19, 13, 14, 15, 95, 96, 97, 98, 99, 100, 101, 102, 103, 104, 105] (by decide +kernel) (by decide +kernel)
set_option maxRecDepth 20000 in
theorem gX8_dip_X8_finding : GoodIn wsX8_dip (wsV RX8 87 RX8 yX8_finding wsX8_finding) := goodIn_app (goodIn_of _ (by decide +kernel)) ggX8_dip_X8_finding
set_option maxRecDepth 20000 in
theorem ggX8_dip_X0_isThick : GoodIn wsX8_dip wsX0_isThick := goodIn_r _ [29, 30, 113, 114, 115, 116, 117] (by decide +kernel) (by decide +kernel)
set_option maxRecDepth 20000 in
theorem gX8_dip_X0_isThick : GoodIn wsX8_dip (wsV RX8 161 RX0 yX0_isThick wsX0_isThick) := goodIn_app (goodIn_of _ (by decide +kernel)) ggX8_dip_X0_isThick
set_option maxRecDepth 20000 in
theorem ggX8_dip_X0_dipInto : GoodIn wsX8_dip wsX0_dipInto := goodIn_r _ [34, 35, 36, 37, 26, 27, 28, 29, 30, 38, 39, 40, 41, 42, 43, 14, 44, 45, 46, 47, 48, 49, 50, 51, 52, 53, 54, 55, 56, 57, 58, 59, 60, 61, 62, 63, 64, 65, 66, 67, 68, 69, 70, 71, 72, 73, 74, 75, 76, 77, 78, 79, 80, 81, 82, 83, 84, 85, 86, 87, 88, 89, 90, 118, 119, 120, 121, 113, 114, 115, 116, 117] (by decide +kernel) (by decide +kernel)
set_option maxRecDepth 20000 in
theorem gX8_dip_X0_dipInto : GoodIn wsX8_dip (wsV RX8 166 RX0 yX0_dipInto wsX0_dipInto) := goodIn_app (goodIn_of _ (by decide +kernel)) ggX8_dip_X0_dipInto
set_option maxRecDepth 20000 in
theorem ggX8_dip_X0_grams : GoodIn wsX8_dip wsX0_grams := goodIn_r _ [94, 65, 63, 113, 114, 115, 116, 117] (by decide +kernel) (by decide +kernel)
set_option maxRecDepth 20000 in
theorem gX8_dip_X0_grams : GoodIn wsX8_dip (wsV RX8 136 RX0 yX0_grams wsX0_grams) := goodIn_app (goodIn_of _ (by decide +kernel)) ggX8_dip_X0_grams
theorem dX8_dip_0 : decode cX8_dip 0 = .ok (.aload_n 0, 1) := by decide +kernel
theorem dX8_dip_1 : decode cX8_dip 1 = .ok (.getfield 10, 3) := by decide +kernel
theorem dX8_dip_4 : decode cX8_dip 4 = .ok (.iload_n 1, 1) := by decide +kernel
theorem dX8_dip_5 : decode cX8_dip 5 = .ok (.invokevirtual 125, 3) := by decide +kernel
theorem dX8_dip_8 : decode cX8_dip 8 = .ok (.ifCond .eq 10, 3) := by decide +kernel
theorem dX8_dip_11 : decode cX8_dip 11 = .ok (.iload_n 2, 1) := by decide +kernel
theorem dX8_dip_12 : decode cX8_dip 12 = .ok (.invokestatic 78, 3) := by decide +kernel
theorem dX8_dip_15 : decode cX8_dip 15 = .ok (.ifCond .ne 10, 3) := by decide +kernel
theorem dX8_dip_18 : decode cX8_dip 18 = .ok (.aload_n 0, 1) := by decide +kernel
theorem dX8_dip_19 : decode cX8_dip 19 = .ok (.ldc 86, 2) := by decide +kernel
theorem dX8_dip_21 : decode cX8_dip 21 = .ok (.invokevirtual 87, 3) := by decide +kernel
theorem dX8_dip_24 : decode cX8_dip 24 = .ok (.ireturn, 1) := by decide +kernel
theorem dX8_dip_25 : decode cX8_dip 25 = .ok (.aload_n 0, 1) := by decide +kernel
theorem dX8_dip_26 : decode cX8_dip 26 = .ok (.getfield 10, 3) := by decide +kernel
theorem dX8_dip_29 : decode cX8_dip 29 = .ok (.getfield 128, 3) := by decide +kernel
theorem dX8_dip_32 : decode cX8_dip 32 = .ok (.iload_n 1, 1) := by decide +kernel
theorem dX8_dip_33 : decode cX8_dip 33 = .ok (.aaload, 1) := by decide +kernel
theorem dX8_dip_34 : decode cX8_dip 34 = .ok (.astore_n 3, 1) := by decide +kernel
theorem dX8_dip_35 : decode cX8_dip 35 = .ok (.aload_n 3, 1) := by decide +kernel
theorem dX8_dip_36 : decode cX8_dip 36 = .ok (.invokevirtual 161, 3) := by decide +kernel
theorem dX8_dip_39 : decode cX8_dip 39 = .ok (.ifCond .eq 10, 3) := by decide +kernel
theorem dX8_dip_42 : decode cX8_dip 42 = .ok (.aload_n 0, 1) := by decide +kernel
theorem dX8_dip_43 : decode cX8_dip 43 = .ok (.ldc 165, 2) := by decide +kernel
theorem dX8_dip_45 : decode cX8_dip 45 = .ok (.invokevirtual 87, 3) := by decide +kernel
theorem dX8_dip_48 : decode cX8_dip 48 = .ok (.ireturn, 1) := by decide +kernel
theorem dX8_dip_49 : decode cX8_dip 49 = .ok (.aload_n 3, 1) := by decide +kernel
theorem dX8_dip_50 : decode cX8_dip 50 = .ok (.aload_n 0, 1) := by decide +kernel
theorem dX8_dip_51 : decode cX8_dip 51 = .ok (.getfield 10, 3) := by decide +kernel
theorem dX8_dip_54 : decode cX8_dip 54 = .ok (.getfield 91, 3) := by decide +kernel
theorem dX8_dip_57 : decode cX8_dip 57 = .ok (.getfield 94, 3) := by decide +kernel
theorem dX8_dip_60 : decode cX8_dip 60 = .ok (.iload_n 2, 1) := by decide +kernel
theorem dX8_dip_61 : decode cX8_dip 61 = .ok (.aaload, 1) := by decide +kernel
theorem dX8_dip_62 : decode cX8_dip 62 = .ok (.invokevirtual 166, 3) := by decide +kernel
theorem dX8_dip_65 : decode cX8_dip 65 = .ok (.aload_n 3, 1) := by decide +kernel
theorem dX8_dip_66 : decode cX8_dip 66 = .ok (.invokevirtual 136, 3) := by decide +kernel
theorem dX8_dip_69 : decode cX8_dip 69 = .ok (.ireturn, 1) := by decide +kernel
set_option maxRecDepth 20000 in
theorem ggX8_melt_X1_has : GoodIn wsX8_melt wsX1_has := goodIn_r _ [10, 11, 12, 13, 14, 58, 59, 60] (by decide +kernel) (by decide +kernel)
set_option maxRecDepth 20000 in
theorem gX8_melt_X1_has : GoodIn wsX8_melt (wsV RX8 125 RX1 yX1_has wsX1_has) := goodIn_app (goodIn_of _ (by decide +kernel)) ggX8_melt_X1_has
set_option maxRecDepth 20000 in
theorem ggX8_melt_X8_isVat : GoodIn wsX8_melt wsX8_isVat := goodIn_r _ [17, 18, 12, 13, 14] (by decide +kernel) (by decide +kernel)
set_option maxRecDepth 20000 in
theorem gX8_melt_X8_isVat : GoodIn wsX8_melt (va_wsS RX8 78 yX8_isVat wsX8_isVat) := goodIn_app (goodIn_of _ (by decide +kernel)) ggX8_melt_X8_isVat
set_option maxRecDepth 20000 in
theorem ggX8_melt_X8_finding : GoodIn wsX8_melt wsX8_finding := goodIn_r _ [22, 2, 23, 18, 12, 13, 14, 47, 48, 49, 50, 51, 52, 53, 54, 55, 56, 57] (by decide +kernel) (by decide +kernel)
set_option maxRecDepth 20000 in
theorem gX8_melt_X8_finding : GoodIn wsX8_melt (wsV RX8 87 RX8 yX8_finding wsX8_finding) := goodIn_app (goodIn_of _ (by decide +kernel)) ggX8_melt_X8_finding
set_option maxRecDepth 20000 in
theorem ggX8_melt_X0_grams : GoodIn wsX8_melt wsX0_grams := goodIn_r _ [28, 29, 30, 65, 66, 67, 68, 69] (by decide +kernel) (by decide +kernel)
set_option maxRecDepth 20000 in
theorem gX8_melt_X0_grams : GoodIn wsX8_melt (wsV RX8 136 RX0 yX0_grams wsX0_grams) := goodIn_app (goodIn_of _ (by decide +kernel)) ggX8_melt_X0_grams
set_option maxRecDepth 20000 in
theorem ggX8_melt_X6_pourIn : GoodIn wsX8_melt wsX6_pourIn := goodIn_r _ [35, 36, 37, 38, 39, 40, 41, 70, 71, 72, 73] (by decide +kernel) (by decide +kernel)
set_option maxRecDepth 20000 in
theorem gX8_melt_X6_pourIn : GoodIn wsX8_melt (wsV RX8 170 RX6 yX6_pourIn wsX6_pourIn) := goodIn_app (goodIn_of _ (by decide +kernel)) ggX8_melt_X6_pourIn
set_option maxRecDepth 20000 in
theorem ggX8_melt_X0_strip : GoodIn wsX8_melt wsX0_strip := goodIn_r _ [45, 46, 29, 30, 65, 66, 67, 68, 69] (by decide +kernel) (by decide +kernel)
set_option maxRecDepth 20000 in
theorem gX8_melt_X0_strip : GoodIn wsX8_melt (wsV RX8 174 RX0 yX0_strip wsX0_strip) := goodIn_app (goodIn_of _ (by decide +kernel)) ggX8_melt_X0_strip
theorem dX8_melt_0 : decode cX8_melt 0 = .ok (.aload_n 0, 1) := by decide +kernel
theorem dX8_melt_1 : decode cX8_melt 1 = .ok (.getfield 10, 3) := by decide +kernel
theorem dX8_melt_4 : decode cX8_melt 4 = .ok (.iload_n 1, 1) := by decide +kernel
theorem dX8_melt_5 : decode cX8_melt 5 = .ok (.invokevirtual 125, 3) := by decide +kernel
theorem dX8_melt_8 : decode cX8_melt 8 = .ok (.ifCond .eq 10, 3) := by decide +kernel
theorem dX8_melt_11 : decode cX8_melt 11 = .ok (.iload_n 2, 1) := by decide +kernel
theorem dX8_melt_12 : decode cX8_melt 12 = .ok (.invokestatic 78, 3) := by decide +kernel
theorem dX8_melt_15 : decode cX8_melt 15 = .ok (.ifCond .ne 10, 3) := by decide +kernel
theorem dX8_melt_18 : decode cX8_melt 18 = .ok (.aload_n 0, 1) := by decide +kernel
theorem dX8_melt_19 : decode cX8_melt 19 = .ok (.ldc 86, 2) := by decide +kernel
theorem dX8_melt_21 : decode cX8_melt 21 = .ok (.invokevirtual 87, 3) := by decide +kernel
theorem dX8_melt_24 : decode cX8_melt 24 = .ok (.ireturn, 1) := by decide +kernel
theorem dX8_melt_25 : decode cX8_melt 25 = .ok (.aload_n 0, 1) := by decide +kernel
theorem dX8_melt_26 : decode cX8_melt 26 = .ok (.getfield 10, 3) := by decide +kernel
theorem dX8_melt_29 : decode cX8_melt 29 = .ok (.getfield 128, 3) := by decide +kernel
theorem dX8_melt_32 : decode cX8_melt 32 = .ok (.iload_n 1, 1) := by decide +kernel
theorem dX8_melt_33 : decode cX8_melt 33 = .ok (.aaload, 1) := by decide +kernel
theorem dX8_melt_34 : decode cX8_melt 34 = .ok (.astore_n 3, 1) := by decide +kernel
theorem dX8_melt_35 : decode cX8_melt 35 = .ok (.aload_n 3, 1) := by decide +kernel
theorem dX8_melt_36 : decode cX8_melt 36 = .ok (.invokevirtual 136, 3) := by decide +kernel
theorem dX8_melt_39 : decode cX8_melt 39 = .ok (.istore 4, 2) := by decide +kernel
theorem dX8_melt_41 : decode cX8_melt 41 = .ok (.aload_n 0, 1) := by decide +kernel
theorem dX8_melt_42 : decode cX8_melt 42 = .ok (.getfield 10, 3) := by decide +kernel
theorem dX8_melt_45 : decode cX8_melt 45 = .ok (.getfield 91, 3) := by decide +kernel
theorem dX8_melt_48 : decode cX8_melt 48 = .ok (.getfield 94, 3) := by decide +kernel
theorem dX8_melt_51 : decode cX8_melt 51 = .ok (.iload_n 2, 1) := by decide +kernel
theorem dX8_melt_52 : decode cX8_melt 52 = .ok (.aaload, 1) := by decide +kernel
theorem dX8_melt_53 : decode cX8_melt 53 = .ok (.iload 4, 2) := by decide +kernel
theorem dX8_melt_55 : decode cX8_melt 55 = .ok (.invokevirtual 170, 3) := by decide +kernel
theorem dX8_melt_58 : decode cX8_melt 58 = .ok (.aload_n 3, 1) := by decide +kernel
theorem dX8_melt_59 : decode cX8_melt 59 = .ok (.invokevirtual 174, 3) := by decide +kernel
theorem dX8_melt_62 : decode cX8_melt 62 = .ok (.iload 4, 2) := by decide +kernel
theorem dX8_melt_64 : decode cX8_melt 64 = .ok (.ireturn, 1) := by decide +kernel
set_option maxRecDepth 20000 in
theorem ggX8_burn_X1_has : GoodIn wsX8_burn wsX1_has := goodIn_r _ [8, 9, 10, 11, 12, 54, 55, 56] (by decide +kernel) (by decide +kernel)
set_option maxRecDepth 20000 in
theorem gX8_burn_X1_has : GoodIn wsX8_burn (wsV RX8 125 RX1 yX1_has wsX1_has) := goodIn_app (goodIn_of _ (by decide +kernel)) ggX8_burn_X1_has
set_option maxRecDepth 20000 in
theorem ggX8_burn_X8_within : GoodIn wsX8_burn wsX8_within := goodIn_r _ [12] (by decide +kernel) (by decide +kernel)
set_option maxRecDepth 20000 in
theorem gX8_burn_X8_within : GoodIn wsX8_burn (va_wsS RX8 82 yX8_within wsX8_within) := goodIn_app (goodIn_of _ (by decide +kernel)) ggX8_burn_X8_within
set_option maxRecDepth 20000 in
theorem ggX8_burn_X8_finding : GoodIn wsX8_burn wsX8_finding := goodIn_r _ [17, 2, 18, 13, 10, 11, 12, 43, 44, 45, 46, 47, 48, 49, 50, 51, 52, 53] (by decide +kernel) (by decide +kernel)
set_option maxRecDepth 20000 in
theorem gX8_burn_X8_finding : GoodIn wsX8_burn (wsV RX8 87 RX8 yX8_finding wsX8_finding) := goodIn_app (goodIn_of _ (by decide +kernel)) ggX8_burn_X8_finding
set_option maxRecDepth 20000 in
theorem ggX8_burn_X0_burnDown : GoodIn wsX8_burn wsX0_burnDown := goodIn_r _ [23, 24, 25, 26, 27, 28, 29, 30, 31, 32, 33, 34, 35, 22, 36, 37, 38, 57, 58, 59, 60, 61] (by decide +kernel) (by decide +kernel)
set_option maxRecDepth 20000 in
theorem gX8_burn_X0_burnDown : GoodIn wsX8_burn (wsV RX8 177 RX0 yX0_burnDown wsX0_burnDown) := goodIn_app (goodIn_of _ (by decide +kernel)) ggX8_burn_X0_burnDown
set_option maxRecDepth 20000 in
theorem ggX8_burn_X0_grams : GoodIn wsX8_burn wsX0_grams := goodIn_r _ [42, 38, 37, 57, 58, 59, 60, 61] (by decide +kernel) (by decide +kernel)
set_option maxRecDepth 20000 in
theorem gX8_burn_X0_grams : GoodIn wsX8_burn (wsV RX8 136 RX0 yX0_grams wsX0_grams) := goodIn_app (goodIn_of _ (by decide +kernel)) ggX8_burn_X0_grams
theorem dX8_burn_0 : decode cX8_burn 0 = .ok (.aload_n 0, 1) := by decide +kernel
theorem dX8_burn_1 : decode cX8_burn 1 = .ok (.getfield 10, 3) := by decide +kernel
theorem dX8_burn_4 : decode cX8_burn 4 = .ok (.iload_n 1, 1) := by decide +kernel
theorem dX8_burn_5 : decode cX8_burn 5 = .ok (.invokevirtual 125, 3) := by decide +kernel
theorem dX8_burn_8 : decode cX8_burn 8 = .ok (.ifCond .eq 14, 3) := by decide +kernel
theorem dX8_burn_11 : decode cX8_burn 11 = .ok (.iload_n 2, 1) := by decide +kernel
theorem dX8_burn_12 : decode cX8_burn 12 = .ok (.iconst 1, 1) := by decide +kernel
theorem dX8_burn_13 : decode cX8_burn 13 = .ok (.sipush 9999, 3) := by decide +kernel
theorem dX8_burn_16 : decode cX8_burn 16 = .ok (.invokestatic 82, 3) := by decide +kernel
theorem dX8_burn_19 : decode cX8_burn 19 = .ok (.ifCond .ne 10, 3) := by decide +kernel
theorem dX8_burn_22 : decode cX8_burn 22 = .ok (.aload_n 0, 1) := by decide +kernel
theorem dX8_burn_23 : decode cX8_burn 23 = .ok (.ldc 86, 2) := by decide +kernel
theorem dX8_burn_25 : decode cX8_burn 25 = .ok (.invokevirtual 87, 3) := by decide +kernel
theorem dX8_burn_28 : decode cX8_burn 28 = .ok (.ireturn, 1) := by decide +kernel
theorem dX8_burn_29 : decode cX8_burn 29 = .ok (.aload_n 0, 1) := by decide +kernel
theorem dX8_burn_30 : decode cX8_burn 30 = .ok (.getfield 10, 3) := by decide +kernel
theorem dX8_burn_33 : decode cX8_burn 33 = .ok (.getfield 128, 3) := by decide +kernel
theorem dX8_burn_36 : decode cX8_burn 36 = .ok (.iload_n 1, 1) := by decide +kernel
theorem dX8_burn_37 : decode cX8_burn 37 = .ok (.aaload, 1) := by decide +kernel
theorem dX8_burn_38 : decode cX8_burn 38 = .ok (.astore_n 3, 1) := by decide +kernel
theorem dX8_burn_39 : decode cX8_burn 39 = .ok (.aload_n 3, 1) := by decide +kernel
theorem dX8_burn_40 : decode cX8_burn 40 = .ok (.iload_n 2, 1) := by decide +kernel
theorem dX8_burn_41 : decode cX8_burn 41 = .ok (.invokevirtual 177, 3) := by decide +kernel
theorem dX8_burn_44 : decode cX8_burn 44 = .ok (.aload_n 3, 1) := by decide +kernel
theorem dX8_burn_45 : decode cX8_burn 45 = .ok (.invokevirtual 136, 3) := by decide +kernel
theorem dX8_burn_48 : decode cX8_burn 48 = .ok (.ireturn, 1) := by decide +kernel
set_option maxRecDepth 20000 in
theorem ggX8_hours_X8_within : GoodIn wsX8_hours wsX8_within := goodIn_r _ [10] (by decide +kernel) (by decide +kernel)
set_option maxRecDepth 20000 in
theorem gX8_hours_X8_within : GoodIn wsX8_hours (va_wsS RX8 82 yX8_within wsX8_within) := goodIn_app (goodIn_of _ (by decide +kernel)) ggX8_hours_X8_within
set_option maxRecDepth 20000 in
theorem ggX8_hours_X8_finding : GoodIn wsX8_hours wsX8_finding := goodIn_r _ [14, 1, 15, 7, 8, 9, 10, 47, 48, 49, 50, 51, 52, 53, 54, 55, 56, 57] (by decide +kernel) (by decide +kernel)
set_option maxRecDepth 20000 in
theorem gX8_hours_X8_finding : GoodIn wsX8_hours (wsV RX8 87 RX8 yX8_finding wsX8_finding) := goodIn_app (goodIn_of _ (by decide +kernel)) ggX8_hours_X8_finding
set_option maxRecDepth 20000 in
theorem ggX8_hours_X7_pass : GoodIn wsX8_hours wsX7_pass := goodIn_r _ [20, 21, 22, 23, 24, 25, 19, 26, 27, 28, 29, 30, 31, 32, 33, 34, 35, 36, 37, 38, 39, 40, 41, 42, 43, 44, 45, 46, 61, 62, 63, 64, 65, 66, 67, 68] (by decide +kernel) (by decide +kernel)
set_option maxRecDepth 20000 in
theorem gX8_hours_X7_pass : GoodIn wsX8_hours (wsV RX8 183 RX7 yX7_pass wsX7_pass) := goodIn_app (goodIn_of _ (by decide +kernel)) ggX8_hours_X7_pass
theorem dX8_hours_0 : decode cX8_hours 0 = .ok (.iload_n 1, 1) := by decide +kernel
theorem dX8_hours_1 : decode cX8_hours 1 = .ok (.iconst 1, 1) := by decide +kernel
theorem dX8_hours_2 : decode cX8_hours 2 = .ok (.sipush 200, 3) := by decide +kernel
theorem dX8_hours_5 : decode cX8_hours 5 = .ok (.invokestatic 82, 3) := by decide +kernel
theorem dX8_hours_8 : decode cX8_hours 8 = .ok (.ifCond .ne 10, 3) := by decide +kernel
theorem dX8_hours_11 : decode cX8_hours 11 = .ok (.aload_n 0, 1) := by decide +kernel
theorem dX8_hours_12 : decode cX8_hours 12 = .ok (.ldc 86, 2) := by decide +kernel
theorem dX8_hours_14 : decode cX8_hours 14 = .ok (.invokevirtual 87, 3) := by decide +kernel
theorem dX8_hours_17 : decode cX8_hours 17 = .ok (.ireturn, 1) := by decide +kernel
theorem dX8_hours_18 : decode cX8_hours 18 = .ok (.aload_n 0, 1) := by decide +kernel
theorem dX8_hours_19 : decode cX8_hours 19 = .ok (.getfield 10, 3) := by decide +kernel
theorem dX8_hours_22 : decode cX8_hours 22 = .ok (.getfield 91, 3) := by decide +kernel
theorem dX8_hours_25 : decode cX8_hours 25 = .ok (.getfield 180, 3) := by decide +kernel
theorem dX8_hours_28 : decode cX8_hours 28 = .ok (.iload_n 1, 1) := by decide +kernel
theorem dX8_hours_29 : decode cX8_hours 29 = .ok (.iadd, 1) := by decide +kernel
theorem dX8_hours_30 : decode cX8_hours 30 = .ok (.sipush 9999, 3) := by decide +kernel
theorem dX8_hours_33 : decode cX8_hours 33 = .ok (.if_icmp .le 10, 3) := by decide +kernel
theorem dX8_hours_36 : decode cX8_hours 36 = .ok (.aload_n 0, 1) := by decide +kernel
theorem dX8_hours_37 : decode cX8_hours 37 = .ok (.ldc 165, 2) := by decide +kernel
theorem dX8_hours_39 : decode cX8_hours 39 = .ok (.invokevirtual 87, 3) := by decide +kernel
theorem dX8_hours_42 : decode cX8_hours 42 = .ok (.ireturn, 1) := by decide +kernel
theorem dX8_hours_43 : decode cX8_hours 43 = .ok (.aload_n 0, 1) := by decide +kernel
theorem dX8_hours_44 : decode cX8_hours 44 = .ok (.getfield 10, 3) := by decide +kernel
theorem dX8_hours_47 : decode cX8_hours 47 = .ok (.getfield 91, 3) := by decide +kernel
theorem dX8_hours_50 : decode cX8_hours 50 = .ok (.getfield 108, 3) := by decide +kernel
theorem dX8_hours_53 : decode cX8_hours 53 = .ok (.istore_n 2, 1) := by decide +kernel
theorem dX8_hours_54 : decode cX8_hours 54 = .ok (.aload_n 0, 1) := by decide +kernel
theorem dX8_hours_55 : decode cX8_hours 55 = .ok (.getfield 10, 3) := by decide +kernel
theorem dX8_hours_58 : decode cX8_hours 58 = .ok (.getfield 91, 3) := by decide +kernel
theorem dX8_hours_61 : decode cX8_hours 61 = .ok (.iload_n 1, 1) := by decide +kernel
theorem dX8_hours_62 : decode cX8_hours 62 = .ok (.invokevirtual 183, 3) := by decide +kernel
theorem dX8_hours_65 : decode cX8_hours 65 = .ok (.iload_n 2, 1) := by decide +kernel
theorem dX8_hours_66 : decode cX8_hours 66 = .ok (.aload_n 0, 1) := by decide +kernel
theorem dX8_hours_67 : decode cX8_hours 67 = .ok (.getfield 10, 3) := by decide +kernel
theorem dX8_hours_70 : decode cX8_hours 70 = .ok (.getfield 91, 3) := by decide +kernel
theorem dX8_hours_73 : decode cX8_hours 73 = .ok (.getfield 108, 3) := by decide +kernel
theorem dX8_hours_76 : decode cX8_hours 76 = .ok (.isub, 1) := by decide +kernel
theorem dX8_hours_77 : decode cX8_hours 77 = .ok (.ireturn, 1) := by decide +kernel
set_option maxRecDepth 20000 in
theorem ggX8_now_X7_grams : GoodIn wsX8_now wsX7_grams := goodIn_r _ [11, 12, 13, 51, 52, 53, 54, 55, 56, 57, 58] (by decide +kernel) (by decide +kernel)
set_option maxRecDepth 20000 in
theorem gX8_now_X7_grams : GoodIn wsX8_now (wsV RX8 186 RX7 yX7_grams wsX7_grams) := goodIn_app (goodIn_of _ (by decide +kernel)) ggX8_now_X7_grams
set_option maxRecDepth 20000 in
theorem ggX8_now_X1_candleGrams : GoodIn wsX8_now wsX1_candleGrams := goodIn_r _ [18, 19, 20, 21, 22, 23, 24, 25, 26, 27, 48, 49, 50, 59, 60, 61, 62, 63] (by decide +kernel) (by decide +kernel)
set_option maxRecDepth 20000 in
theorem gX8_now_X1_candleGrams : GoodIn wsX8_now (wsV RX8 187 RX1 yX1_candleGrams wsX1_candleGrams) := goodIn_app (goodIn_of _ (by decide +kernel)) ggX8_now_X1_candleGrams
set_option maxRecDepth 20000 in
theorem ggX8_now_X8_finding : GoodIn wsX8_now wsX8_finding := goodIn_r _ [32, 6, 33, 34, 35, 31, 36, 37, 38, 39, 40, 41, 42, 43, 44, 45, 46, 47] (by decide +kernel) (by decide +kernel)
set_option maxRecDepth 20000 in
theorem gX8_now_X8_finding : GoodIn wsX8_now (wsV RX8 87 RX8 yX8_finding wsX8_finding) := goodIn_app (goodIn_of _ (by decide +kernel)) ggX8_now_X8_finding
theorem dX8_now_0 : decode cX8_now 0 = .ok (.iload_n 1, 1) := by decide +kernel
theorem dX8_now_1 : decode cX8_now 1 = .ok (.tableswitch 87 0 4 #[35, 46, 57, 68, 79], 35) := by decide +kernel
theorem dX8_now_36 : decode cX8_now 36 = .ok (.aload_n 0, 1) := by decide +kernel
theorem dX8_now_37 : decode cX8_now 37 = .ok (.getfield 10, 3) := by decide +kernel
theorem dX8_now_40 : decode cX8_now 40 = .ok (.getfield 91, 3) := by decide +kernel
theorem dX8_now_43 : decode cX8_now 43 = .ok (.getfield 180, 3) := by decide +kernel
theorem dX8_now_46 : decode cX8_now 46 = .ok (.ireturn, 1) := by decide +kernel
theorem dX8_now_47 : decode cX8_now 47 = .ok (.aload_n 0, 1) := by decide +kernel
theorem dX8_now_48 : decode cX8_now 48 = .ok (.getfield 10, 3) := by decide +kernel
theorem dX8_now_51 : decode cX8_now 51 = .ok (.getfield 91, 3) := by decide +kernel
theorem dX8_now_54 : decode cX8_now 54 = .ok (.getfield 108, 3) := by decide +kernel
theorem dX8_now_57 : decode cX8_now 57 = .ok (.ireturn, 1) := by decide +kernel
theorem dX8_now_58 : decode cX8_now 58 = .ok (.aload_n 0, 1) := by decide +kernel
theorem dX8_now_59 : decode cX8_now 59 = .ok (.getfield 10, 3) := by decide +kernel
theorem dX8_now_62 : decode cX8_now 62 = .ok (.getfield 91, 3) := by decide +kernel
theorem dX8_now_65 : decode cX8_now 65 = .ok (.getfield 112, 3) := by decide +kernel
theorem dX8_now_68 : decode cX8_now 68 = .ok (.ireturn, 1) := by decide +kernel
theorem dX8_now_69 : decode cX8_now 69 = .ok (.aload_n 0, 1) := by decide +kernel
theorem dX8_now_70 : decode cX8_now 70 = .ok (.getfield 10, 3) := by decide +kernel
theorem dX8_now_73 : decode cX8_now 73 = .ok (.getfield 91, 3) := by decide +kernel
theorem dX8_now_76 : decode cX8_now 76 = .ok (.invokevirtual 186, 3) := by decide +kernel
theorem dX8_now_79 : decode cX8_now 79 = .ok (.ireturn, 1) := by decide +kernel
theorem dX8_now_80 : decode cX8_now 80 = .ok (.aload_n 0, 1) := by decide +kernel
theorem dX8_now_81 : decode cX8_now 81 = .ok (.getfield 10, 3) := by decide +kernel
theorem dX8_now_84 : decode cX8_now 84 = .ok (.invokevirtual 187, 3) := by decide +kernel
theorem dX8_now_87 : decode cX8_now 87 = .ok (.ireturn, 1) := by decide +kernel
theorem dX8_now_88 : decode cX8_now 88 = .ok (.aload_n 0, 1) := by decide +kernel
theorem dX8_now_89 : decode cX8_now 89 = .ok (.ldc 86, 2) := by decide +kernel
theorem dX8_now_91 : decode cX8_now 91 = .ok (.invokevirtual 87, 3) := by decide +kernel
theorem dX8_now_94 : decode cX8_now 94 = .ok (.ireturn, 1) := by decide +kernel
set_option maxRecDepth 20000 in
theorem ggX8_warm_X8_isVat : GoodIn wsX8_warm wsX8_isVat := goodIn_r _ [12, 13, 14, 11, 15] (by decide +kernel) (by decide +kernel)
set_option maxRecDepth 20000 in
theorem gX8_warm_X8_isVat : GoodIn wsX8_warm (va_wsS RX8 78 yX8_isVat wsX8_isVat) := goodIn_app (goodIn_of _ (by decide +kernel)) ggX8_warm_X8_isVat
set_option maxRecDepth 20000 in
theorem ggX8_warm_X8_within : GoodIn wsX8_warm wsX8_within := goodIn_r _ [15] (by decide +kernel) (by decide +kernel)
set_option maxRecDepth 20000 in
theorem gX8_warm_X8_within : GoodIn wsX8_warm (va_wsS RX8 82 yX8_within wsX8_within) := goodIn_app (goodIn_of _ (by decide +kernel)) ggX8_warm_X8_within
set_option maxRecDepth 20000 in
theorem ggX8_warm_X8_finding : GoodIn wsX8_warm wsX8_finding := goodIn_r _ [19, 1, 20, 13, 14, 11, 15, 63, 64, 65, 66, 67, 68, 69, 70, 71, 72, 73] (by decide +kernel) (by decide +kernel)
set_option maxRecDepth 20000 in
theorem gX8_warm_X8_finding : GoodIn wsX8_warm (wsV RX8 87 RX8 yX8_finding wsX8_finding) := goodIn_app (goodIn_of _ (by decide +kernel)) ggX8_warm_X8_finding
set_option maxRecDepth 20000 in
theorem ggX8_warm_X7_become : GoodIn wsX8_warm wsX7_become := goodIn_r _ [25, 26, 27, 28, 29, 30, 31, 32, 33, 34, 35, 36, 37, 38, 77, 78, 79, 80, 81, 82, 83, 84] (by decide +kernel) (by decide +kernel)
set_option maxRecDepth 20000 in
theorem gX8_warm_X7_become : GoodIn wsX8_warm (wsV RX8 190 RX7 yX7_become wsX7_become) := goodIn_app (goodIn_of _ (by decide +kernel)) ggX8_warm_X7_become
set_option maxRecDepth 20000 in
theorem ggX8_warm_X7_pass : GoodIn wsX8_warm wsX7_pass := goodIn_r _ [42, 26, 29, 43, 44, 45, 24, 46, 47, 27, 28, 48, 49, 50, 33, 51, 36, 52, 53, 54, 55, 56, 57, 58, 59, 60, 61, 62, 77, 78, 79, 80, 81, 82, 83, 84] (by decide +kernel) (by decide +kernel)
set_option maxRecDepth 20000 in
theorem gX8_warm_X7_pass : GoodIn wsX8_warm (wsV RX8 183 RX7 yX7_pass wsX7_pass) := goodIn_app (goodIn_of _ (by decide +kernel)) ggX8_warm_X7_pass
theorem dX8_warm_0 : decode cX8_warm 0 = .ok (.iload_n 1, 1) := by decide +kernel
theorem dX8_warm_1 : decode cX8_warm 1 = .ok (.invokestatic 78, 3) := by decide +kernel
theorem dX8_warm_4 : decode cX8_warm 4 = .ok (.ifCond .eq 14, 3) := by decide +kernel
theorem dX8_warm_7 : decode cX8_warm 7 = .ok (.iload_n 2, 1) := by decide +kernel
theorem dX8_warm_8 : decode cX8_warm 8 = .ok (.iconst 0, 1) := by decide +kernel
theorem dX8_warm_9 : decode cX8_warm 9 = .ok (.sipush 200, 3) := by decide +kernel
theorem dX8_warm_12 : decode cX8_warm 12 = .ok (.invokestatic 82, 3) := by decide +kernel
theorem dX8_warm_15 : decode cX8_warm 15 = .ok (.ifCond .ne 10, 3) := by decide +kernel
theorem dX8_warm_18 : decode cX8_warm 18 = .ok (.aload_n 0, 1) := by decide +kernel
theorem dX8_warm_19 : decode cX8_warm 19 = .ok (.ldc 86, 2) := by decide +kernel
theorem dX8_warm_21 : decode cX8_warm 21 = .ok (.invokevirtual 87, 3) := by decide +kernel
theorem dX8_warm_24 : decode cX8_warm 24 = .ok (.ireturn, 1) := by decide +kernel
theorem dX8_warm_25 : decode cX8_warm 25 = .ok (.aload_n 0, 1) := by decide +kernel
theorem dX8_warm_26 : decode cX8_warm 26 = .ok (.getfield 10, 3) := by decide +kernel
theorem dX8_warm_29 : decode cX8_warm 29 = .ok (.getfield 91, 3) := by decide +kernel
theorem dX8_warm_32 : decode cX8_warm 32 = .ok (.getfield 180, 3) := by decide +kernel
theorem dX8_warm_35 : decode cX8_warm 35 = .ok (.iload_n 2, 1) := by decide +kernel
theorem dX8_warm_36 : decode cX8_warm 36 = .ok (.iadd, 1) := by decide +kernel
theorem dX8_warm_37 : decode cX8_warm 37 = .ok (.sipush 9999, 3) := by decide +kernel
theorem dX8_warm_40 : decode cX8_warm 40 = .ok (.if_icmp .le 10, 3) := by decide +kernel
theorem dX8_warm_43 : decode cX8_warm 43 = .ok (.aload_n 0, 1) := by decide +kernel
theorem dX8_warm_44 : decode cX8_warm 44 = .ok (.ldc 165, 2) := by decide +kernel
theorem dX8_warm_46 : decode cX8_warm 46 = .ok (.invokevirtual 87, 3) := by decide +kernel
theorem dX8_warm_49 : decode cX8_warm 49 = .ok (.ireturn, 1) := by decide +kernel
theorem dX8_warm_50 : decode cX8_warm 50 = .ok (.aload_n 0, 1) := by decide +kernel
theorem dX8_warm_51 : decode cX8_warm 51 = .ok (.getfield 26, 3) := by decide +kernel
theorem dX8_warm_54 : decode cX8_warm 54 = .ok (.aload_n 0, 1) := by decide +kernel
theorem dX8_warm_55 : decode cX8_warm 55 = .ok (.getfield 10, 3) := by decide +kernel
theorem dX8_warm_58 : decode cX8_warm 58 = .ok (.getfield 91, 3) := by decide +kernel
theorem dX8_warm_61 : decode cX8_warm 61 = .ok (.invokevirtual 190, 3) := by decide +kernel
theorem dX8_warm_64 : decode cX8_warm 64 = .ok (.aload_n 0, 1) := by decide +kernel
theorem dX8_warm_65 : decode cX8_warm 65 = .ok (.getfield 26, 3) := by decide +kernel
theorem dX8_warm_68 : decode cX8_warm 68 = .ok (.iload_n 2, 1) := by decide +kernel
theorem dX8_warm_69 : decode cX8_warm 69 = .ok (.invokevirtual 183, 3) := by decide +kernel
theorem dX8_warm_72 : decode cX8_warm 72 = .ok (.aload_n 0, 1) := by decide +kernel
theorem dX8_warm_73 : decode cX8_warm 73 = .ok (.getfield 26, 3) := by decide +kernel
theorem dX8_warm_76 : decode cX8_warm 76 = .ok (.getfield 94, 3) := by decide +kernel
theorem dX8_warm_79 : decode cX8_warm 79 = .ok (.iload_n 1, 1) := by decide +kernel
theorem dX8_warm_80 : decode cX8_warm 80 = .ok (.aaload, 1) := by decide +kernel
theorem dX8_warm_81 : decode cX8_warm 81 = .ok (.getfield 155, 3) := by decide +kernel
theorem dX8_warm_84 : decode cX8_warm 84 = .ok (.ireturn, 1) := by decide +kernel
set_option maxRecDepth 20000 in
theorem ggX8_when_X8_isVat : GoodIn wsX8_when wsX8_isVat := goodIn_r _ [13, 14, 15, 12, 16] (by decide +kernel) (by decide +kernel)
set_option maxRecDepth 20000 in
theorem gX8_when_X8_isVat : GoodIn wsX8_when (va_wsS RX8 78 yX8_isVat wsX8_isVat) := goodIn_app (goodIn_of _ (by decide +kernel)) ggX8_when_X8_isVat
set_option maxRecDepth 20000 in
theorem ggX8_when_X8_within : GoodIn wsX8_when wsX8_within := goodIn_r _ [16] (by decide +kernel) (by decide +kernel)
set_option maxRecDepth 20000 in
theorem gX8_when_X8_within : GoodIn wsX8_when (va_wsS RX8 82 yX8_within wsX8_within) := goodIn_app (goodIn_of _ (by decide +kernel)) ggX8_when_X8_within
set_option maxRecDepth 20000 in
theorem ggX8_when_X8_finding : GoodIn wsX8_when wsX8_finding := goodIn_r _ [20, 1, 21, 14, 15, 12, 16, 64, 65, 66, 67, 68, 69, 70, 71, 72, 73, 74] (by decide +kernel) (by decide +kernel)
set_option maxRecDepth 20000 in
theorem gX8_when_X8_finding : GoodIn wsX8_when (wsV RX8 87 RX8 yX8_finding wsX8_finding) := goodIn_app (goodIn_of _ (by decide +kernel)) ggX8_when_X8_finding
set_option maxRecDepth 20000 in
theorem ggX8_when_X7_become : GoodIn wsX8_when wsX7_become := goodIn_r _ [26, 27, 28, 29, 30, 31, 32, 33, 34, 35, 36, 37, 38, 39, 78, 79, 80, 81, 82, 83, 84, 85] (by decide +kernel) (by decide +kernel)
set_option maxRecDepth 20000 in
theorem gX8_when_X7_become : GoodIn wsX8_when (wsV RX8 190 RX7 yX7_become wsX7_become) := goodIn_app (goodIn_of _ (by decide +kernel)) ggX8_when_X7_become
set_option maxRecDepth 20000 in
theorem ggX8_when_X7_pass : GoodIn wsX8_when wsX7_pass := goodIn_r _ [43, 27, 30, 44, 45, 46, 25, 47, 48, 28, 29, 49, 50, 51, 34, 52, 37, 53, 54, 55, 56, 57, 58, 59, 60, 61, 62, 63, 78, 79, 80, 81, 82, 83, 84, 85] (by decide +kernel) (by decide +kernel)
set_option maxRecDepth 20000 in
theorem gX8_when_X7_pass : GoodIn wsX8_when (wsV RX8 183 RX7 yX7_pass wsX7_pass) := goodIn_app (goodIn_of _ (by decide +kernel)) ggX8_when_X7_pass
theorem dX8_when_0 : decode cX8_when 0 = .ok (.iload_n 1, 1) := by decide +kernel
theorem dX8_when_1 : decode cX8_when 1 = .ok (.invokestatic 78, 3) := by decide +kernel
theorem dX8_when_4 : decode cX8_when 4 = .ok (.ifCond .eq 13, 3) := by decide +kernel
theorem dX8_when_7 : decode cX8_when 7 = .ok (.iload_n 2, 1) := by decide +kernel
theorem dX8_when_8 : decode cX8_when 8 = .ok (.iconst 0, 1) := by decide +kernel
theorem dX8_when_9 : decode cX8_when 9 = .ok (.bipush 99, 2) := by decide +kernel
theorem dX8_when_11 : decode cX8_when 11 = .ok (.invokestatic 82, 3) := by decide +kernel
theorem dX8_when_14 : decode cX8_when 14 = .ok (.ifCond .ne 10, 3) := by decide +kernel
theorem dX8_when_17 : decode cX8_when 17 = .ok (.aload_n 0, 1) := by decide +kernel
theorem dX8_when_18 : decode cX8_when 18 = .ok (.ldc 86, 2) := by decide +kernel
theorem dX8_when_20 : decode cX8_when 20 = .ok (.invokevirtual 87, 3) := by decide +kernel
theorem dX8_when_23 : decode cX8_when 23 = .ok (.ireturn, 1) := by decide +kernel
theorem dX8_when_24 : decode cX8_when 24 = .ok (.aload_n 0, 1) := by decide +kernel
theorem dX8_when_25 : decode cX8_when 25 = .ok (.getfield 10, 3) := by decide +kernel
theorem dX8_when_28 : decode cX8_when 28 = .ok (.getfield 91, 3) := by decide +kernel
theorem dX8_when_31 : decode cX8_when 31 = .ok (.getfield 180, 3) := by decide +kernel
theorem dX8_when_34 : decode cX8_when 34 = .ok (.sipush 200, 3) := by decide +kernel
theorem dX8_when_37 : decode cX8_when 37 = .ok (.iadd, 1) := by decide +kernel
theorem dX8_when_38 : decode cX8_when 38 = .ok (.sipush 9999, 3) := by decide +kernel
theorem dX8_when_41 : decode cX8_when 41 = .ok (.if_icmp .le 10, 3) := by decide +kernel
theorem dX8_when_44 : decode cX8_when 44 = .ok (.aload_n 0, 1) := by decide +kernel
theorem dX8_when_45 : decode cX8_when 45 = .ok (.ldc 165, 2) := by decide +kernel
theorem dX8_when_47 : decode cX8_when 47 = .ok (.invokevirtual 87, 3) := by decide +kernel
theorem dX8_when_50 : decode cX8_when 50 = .ok (.ireturn, 1) := by decide +kernel
theorem dX8_when_51 : decode cX8_when 51 = .ok (.aload_n 0, 1) := by decide +kernel
theorem dX8_when_52 : decode cX8_when 52 = .ok (.getfield 26, 3) := by decide +kernel
theorem dX8_when_55 : decode cX8_when 55 = .ok (.aload_n 0, 1) := by decide +kernel
theorem dX8_when_56 : decode cX8_when 56 = .ok (.getfield 10, 3) := by decide +kernel
theorem dX8_when_59 : decode cX8_when 59 = .ok (.getfield 91, 3) := by decide +kernel
theorem dX8_when_62 : decode cX8_when 62 = .ok (.invokevirtual 190, 3) := by decide +kernel
theorem dX8_when_65 : decode cX8_when 65 = .ok (.iconst 0, 1) := by decide +kernel
theorem dX8_when_66 : decode cX8_when 66 = .ok (.istore_n 3, 1) := by decide +kernel
theorem dX8_when_67 : decode cX8_when 67 = .ok (.iload_n 3, 1) := by decide +kernel
theorem dX8_when_68 : decode cX8_when 68 = .ok (.sipush 200, 3) := by decide +kernel
theorem dX8_when_71 : decode cX8_when 71 = .ok (.if_icmp .gt 35, 3) := by decide +kernel
theorem dX8_when_74 : decode cX8_when 74 = .ok (.aload_n 0, 1) := by decide +kernel
theorem dX8_when_75 : decode cX8_when 75 = .ok (.getfield 26, 3) := by decide +kernel
theorem dX8_when_78 : decode cX8_when 78 = .ok (.getfield 94, 3) := by decide +kernel
theorem dX8_when_81 : decode cX8_when 81 = .ok (.iload_n 1, 1) := by decide +kernel
theorem dX8_when_82 : decode cX8_when 82 = .ok (.aaload, 1) := by decide +kernel
theorem dX8_when_83 : decode cX8_when 83 = .ok (.getfield 155, 3) := by decide +kernel
theorem dX8_when_86 : decode cX8_when 86 = .ok (.iload_n 2, 1) := by decide +kernel
theorem dX8_when_87 : decode cX8_when 87 = .ok (.if_icmp .lt 5, 3) := by decide +kernel
theorem dX8_when_90 : decode cX8_when 90 = .ok (.iload_n 3, 1) := by decide +kernel
theorem dX8_when_91 : decode cX8_when 91 = .ok (.ireturn, 1) := by decide +kernel
theorem dX8_when_92 : decode cX8_when 92 = .ok (.aload_n 0, 1) := by decide +kernel
theorem dX8_when_93 : decode cX8_when 93 = .ok (.getfield 26, 3) := by decide +kernel
theorem dX8_when_96 : decode cX8_when 96 = .ok (.iconst 1, 1) := by decide +kernel
theorem dX8_when_97 : decode cX8_when 97 = .ok (.invokevirtual 183, 3) := by decide +kernel
theorem dX8_when_100 : decode cX8_when 100 = .ok (.iinc 3 1, 3) := by decide +kernel
theorem dX8_when_103 : decode cX8_when 103 = .ok (.goto (-36), 3) := by decide +kernel
theorem dX8_when_106 : decode cX8_when 106 = .ok (.aload_n 0, 1) := by decide +kernel
theorem dX8_when_107 : decode cX8_when 107 = .ok (.ldc 146, 2) := by decide +kernel
theorem dX8_when_109 : decode cX8_when 109 = .ok (.invokevirtual 87, 3) := by decide +kernel
theorem dX8_when_112 : decode cX8_when 112 = .ok (.ireturn, 1) := by decide +kernel
set_option maxRecDepth 20000 in
theorem ggX8_takesIn_X1_has : GoodIn wsX8_takesIn wsX1_has := goodIn_r _ [15, 16, 17, 18, 19, 95, 96, 97] (by decide +kernel) (by decide +kernel)
set_option maxRecDepth 20000 in
theorem gX8_takesIn_X1_has : GoodIn wsX8_takesIn (wsV RX8 125 RX1 yX1_has wsX1_has) := goodIn_app (goodIn_of _ (by decide +kernel)) ggX8_takesIn_X1_has
set_option maxRecDepth 20000 in
theorem ggX8_takesIn_X8_isVat : GoodIn wsX8_takesIn wsX8_isVat := goodIn_r _ [22, 23, 17, 18, 19] (by decide +kernel) (by decide +kernel)
set_option maxRecDepth 20000 in
theorem gX8_takesIn_X8_isVat : GoodIn wsX8_takesIn (va_wsS RX8 78 yX8_isVat wsX8_isVat) := goodIn_app (goodIn_of _ (by decide +kernel)) ggX8_takesIn_X8_isVat
set_option maxRecDepth 20000 in
theorem ggX8_takesIn_X8_within : GoodIn wsX8_takesIn wsX8_within := goodIn_r _ [19] (by decide +kernel) (by decide +kernel)
set_option maxRecDepth 20000 in
theorem gX8_takesIn_X8_within : GoodIn wsX8_takesIn (va_wsS RX8 82 yX8_within wsX8_within) := goodIn_app (goodIn_of _ (by decide +kernel)) ggX8_takesIn_X8_within
set_option maxRecDepth 20000 in
theorem ggX8_takesIn_X8_finding : GoodIn wsX8_takesIn wsX8_finding := goodIn_r _ [27, 2, 28, 23, 17, 18, 19, 84, 85, 86, 87, 88, 89, 90, 91, 92, 93, 94] (by decide +kernel) (by decide +kernel)
set_option maxRecDepth 20000 in
theorem gX8_takesIn_X8_finding : GoodIn wsX8_takesIn (wsV RX8 87 RX8 yX8_finding wsX8_finding) := goodIn_app (goodIn_of _ (by decide +kernel)) ggX8_takesIn_X8_finding
set_option maxRecDepth 20000 in
theorem ggX8_takesIn_X7_become : GoodIn wsX8_takesIn wsX7_become := goodIn_r _ [33, 34, 35, 36, 37, 38, 39, 40, 41, 42, 43, 44, 45, 46, 98, 99, 100, 101, 102, 103, 104, 105] (by decide +kernel) (by decide +kernel)
set_option maxRecDepth 20000 in
theorem gX8_takesIn_X7_become : GoodIn wsX8_takesIn (wsV RX8 190 RX7 yX7_become wsX7_become) := goodIn_app (goodIn_of _ (by decide +kernel)) ggX8_takesIn_X7_become
set_option maxRecDepth 20000 in
theorem ggX8_takesIn_X0_gain : GoodIn wsX8_takesIn wsX0_gain := goodIn_r _ [51, 52, 53, 54, 18, 55, 56, 57, 58, 59, 106, 107, 108, 109, 110] (by decide +kernel) (by decide +kernel)
set_option maxRecDepth 20000 in
theorem gX8_takesIn_X0_gain : GoodIn wsX8_takesIn (wsV RX8 158 RX0 yX0_gain wsX0_gain) := goodIn_app (goodIn_of _ (by decide +kernel)) ggX8_takesIn_X0_gain
set_option maxRecDepth 20000 in
theorem ggX8_takesIn_X7_pass : GoodIn wsX8_takesIn wsX7_pass := goodIn_r _ [63, 34, 37, 64, 65, 66, 32, 67, 68, 35, 36, 69, 70, 71, 41, 72, 44, 73, 74, 75, 76, 77, 78, 79, 80, 81, 82, 83, 98, 99, 100, 101, 102, 103, 104, 105] (by decide +kernel) (by decide +kernel)
set_option maxRecDepth 20000 in
theorem gX8_takesIn_X7_pass : GoodIn wsX8_takesIn (wsV RX8 183 RX7 yX7_pass wsX7_pass) := goodIn_app (goodIn_of _ (by decide +kernel)) ggX8_takesIn_X7_pass
theorem dX8_takesIn_0 : decode cX8_takesIn 0 = .ok (.aload_n 0, 1) := by decide +kernel
theorem dX8_takesIn_1 : decode cX8_takesIn 1 = .ok (.getfield 10, 3) := by decide +kernel
theorem dX8_takesIn_4 : decode cX8_takesIn 4 = .ok (.iload_n 1, 1) := by decide +kernel
theorem dX8_takesIn_5 : decode cX8_takesIn 5 = .ok (.invokevirtual 125, 3) := by decide +kernel
theorem dX8_takesIn_8 : decode cX8_takesIn 8 = .ok (.ifCond .eq 20, 3) := by decide +kernel
theorem dX8_takesIn_11 : decode cX8_takesIn 11 = .ok (.iload_n 2, 1) := by decide +kernel
theorem dX8_takesIn_12 : decode cX8_takesIn 12 = .ok (.invokestatic 78, 3) := by decide +kernel
theorem dX8_takesIn_15 : decode cX8_takesIn 15 = .ok (.ifCond .eq 13, 3) := by decide +kernel
theorem dX8_takesIn_18 : decode cX8_takesIn 18 = .ok (.iload_n 3, 1) := by decide +kernel
theorem dX8_takesIn_19 : decode cX8_takesIn 19 = .ok (.iconst 1, 1) := by decide +kernel
theorem dX8_takesIn_20 : decode cX8_takesIn 20 = .ok (.bipush 99, 2) := by decide +kernel
theorem dX8_takesIn_22 : decode cX8_takesIn 22 = .ok (.invokestatic 82, 3) := by decide +kernel
theorem dX8_takesIn_25 : decode cX8_takesIn 25 = .ok (.ifCond .ne 10, 3) := by decide +kernel
theorem dX8_takesIn_28 : decode cX8_takesIn 28 = .ok (.aload_n 0, 1) := by decide +kernel
theorem dX8_takesIn_29 : decode cX8_takesIn 29 = .ok (.ldc 86, 2) := by decide +kernel
theorem dX8_takesIn_31 : decode cX8_takesIn 31 = .ok (.invokevirtual 87, 3) := by decide +kernel
theorem dX8_takesIn_34 : decode cX8_takesIn 34 = .ok (.ireturn, 1) := by decide +kernel
theorem dX8_takesIn_35 : decode cX8_takesIn 35 = .ok (.aload_n 0, 1) := by decide +kernel
theorem dX8_takesIn_36 : decode cX8_takesIn 36 = .ok (.getfield 10, 3) := by decide +kernel
theorem dX8_takesIn_39 : decode cX8_takesIn 39 = .ok (.getfield 91, 3) := by decide +kernel
theorem dX8_takesIn_42 : decode cX8_takesIn 42 = .ok (.getfield 180, 3) := by decide +kernel
theorem dX8_takesIn_45 : decode cX8_takesIn 45 = .ok (.sipush 200, 3) := by decide +kernel
theorem dX8_takesIn_48 : decode cX8_takesIn 48 = .ok (.iadd, 1) := by decide +kernel
theorem dX8_takesIn_49 : decode cX8_takesIn 49 = .ok (.sipush 9999, 3) := by decide +kernel
theorem dX8_takesIn_52 : decode cX8_takesIn 52 = .ok (.if_icmp .le 10, 3) := by decide +kernel
theorem dX8_takesIn_55 : decode cX8_takesIn 55 = .ok (.aload_n 0, 1) := by decide +kernel
theorem dX8_takesIn_56 : decode cX8_takesIn 56 = .ok (.ldc 165, 2) := by decide +kernel
theorem dX8_takesIn_58 : decode cX8_takesIn 58 = .ok (.invokevirtual 87, 3) := by decide +kernel
theorem dX8_takesIn_61 : decode cX8_takesIn 61 = .ok (.ireturn, 1) := by decide +kernel
theorem dX8_takesIn_62 : decode cX8_takesIn 62 = .ok (.aload_n 0, 1) := by decide +kernel
theorem dX8_takesIn_63 : decode cX8_takesIn 63 = .ok (.getfield 10, 3) := by decide +kernel
theorem dX8_takesIn_66 : decode cX8_takesIn 66 = .ok (.getfield 128, 3) := by decide +kernel
theorem dX8_takesIn_69 : decode cX8_takesIn 69 = .ok (.iload_n 1, 1) := by decide +kernel
theorem dX8_takesIn_70 : decode cX8_takesIn 70 = .ok (.aaload, 1) := by decide +kernel
theorem dX8_takesIn_71 : decode cX8_takesIn 71 = .ok (.astore 4, 2) := by decide +kernel
theorem dX8_takesIn_73 : decode cX8_takesIn 73 = .ok (.aload_n 0, 1) := by decide +kernel
theorem dX8_takesIn_74 : decode cX8_takesIn 74 = .ok (.getfield 26, 3) := by decide +kernel
theorem dX8_takesIn_77 : decode cX8_takesIn 77 = .ok (.aload_n 0, 1) := by decide +kernel
theorem dX8_takesIn_78 : decode cX8_takesIn 78 = .ok (.getfield 10, 3) := by decide +kernel
theorem dX8_takesIn_81 : decode cX8_takesIn 81 = .ok (.getfield 91, 3) := by decide +kernel
theorem dX8_takesIn_84 : decode cX8_takesIn 84 = .ok (.invokevirtual 190, 3) := by decide +kernel
theorem dX8_takesIn_87 : decode cX8_takesIn 87 = .ok (.iconst 0, 1) := by decide +kernel
theorem dX8_takesIn_88 : decode cX8_takesIn 88 = .ok (.istore 5, 2) := by decide +kernel
theorem dX8_takesIn_90 : decode cX8_takesIn 90 = .ok (.iload 5, 2) := by decide +kernel
theorem dX8_takesIn_92 : decode cX8_takesIn 92 = .ok (.sipush 200, 3) := by decide +kernel
theorem dX8_takesIn_95 : decode cX8_takesIn 95 = .ok (.if_icmp .gt 41, 3) := by decide +kernel
theorem dX8_takesIn_98 : decode cX8_takesIn 98 = .ok (.aload 4, 2) := by decide +kernel
theorem dX8_takesIn_100 : decode cX8_takesIn 100 = .ok (.aload_n 0, 1) := by decide +kernel
theorem dX8_takesIn_101 : decode cX8_takesIn 101 = .ok (.getfield 26, 3) := by decide +kernel
theorem dX8_takesIn_104 : decode cX8_takesIn 104 = .ok (.getfield 94, 3) := by decide +kernel
theorem dX8_takesIn_107 : decode cX8_takesIn 107 = .ok (.iload_n 2, 1) := by decide +kernel
theorem dX8_takesIn_108 : decode cX8_takesIn 108 = .ok (.aaload, 1) := by decide +kernel
theorem dX8_takesIn_109 : decode cX8_takesIn 109 = .ok (.getfield 155, 3) := by decide +kernel
theorem dX8_takesIn_112 : decode cX8_takesIn 112 = .ok (.invokevirtual 158, 3) := by decide +kernel
theorem dX8_takesIn_115 : decode cX8_takesIn 115 = .ok (.iload_n 3, 1) := by decide +kernel
theorem dX8_takesIn_116 : decode cX8_takesIn 116 = .ok (.if_icmp .lt 6, 3) := by decide +kernel
theorem dX8_takesIn_119 : decode cX8_takesIn 119 = .ok (.iload 5, 2) := by decide +kernel
theorem dX8_takesIn_121 : decode cX8_takesIn 121 = .ok (.ireturn, 1) := by decide +kernel
theorem dX8_takesIn_122 : decode cX8_takesIn 122 = .ok (.aload_n 0, 1) := by decide +kernel
theorem dX8_takesIn_123 : decode cX8_takesIn 123 = .ok (.getfield 26, 3) := by decide +kernel
theorem dX8_takesIn_126 : decode cX8_takesIn 126 = .ok (.iconst 1, 1) := by decide +kernel
theorem dX8_takesIn_127 : decode cX8_takesIn 127 = .ok (.invokevirtual 183, 3) := by decide +kernel
theorem dX8_takesIn_130 : decode cX8_takesIn 130 = .ok (.iinc 5 1, 3) := by decide +kernel
theorem dX8_takesIn_133 : decode cX8_takesIn 133 = .ok (.goto (-43), 3) := by decide +kernel
theorem dX8_takesIn_136 : decode cX8_takesIn 136 = .ok (.aload_n 0, 1) := by decide +kernel
theorem dX8_takesIn_137 : decode cX8_takesIn 137 = .ok (.ldc 146, 2) := by decide +kernel
theorem dX8_takesIn_139 : decode cX8_takesIn 139 = .ok (.invokevirtual 87, 3) := by decide +kernel
theorem dX8_takesIn_142 : decode cX8_takesIn 142 = .ok (.ireturn, 1) := by decide +kernel
set_option maxRecDepth 20000 in
theorem ggX8_burns_X1_has : GoodIn wsX8_burns wsX1_has := goodIn_r _ [11, 12, 13, 14, 15, 125, 126, 127] (by decide +kernel) (by decide +kernel)
set_option maxRecDepth 20000 in
theorem gX8_burns_X1_has : GoodIn wsX8_burns (wsV RX8 125 RX1 yX1_has wsX1_has) := goodIn_app (goodIn_of _ (by decide +kernel)) ggX8_burns_X1_has
set_option maxRecDepth 20000 in
theorem ggX8_burns_X8_isVat : GoodIn wsX8_burns wsX8_isVat := goodIn_r _ [18, 19, 13, 14, 15] (by decide +kernel) (by decide +kernel)
set_option maxRecDepth 20000 in
theorem gX8_burns_X8_isVat : GoodIn wsX8_burns (va_wsS RX8 78 yX8_isVat wsX8_isVat) := goodIn_app (goodIn_of _ (by decide +kernel)) ggX8_burns_X8_isVat
set_option maxRecDepth 20000 in
theorem ggX8_burns_X8_within : GoodIn wsX8_burns wsX8_within := goodIn_r _ [15] (by decide +kernel) (by decide +kernel)
set_option maxRecDepth 20000 in
theorem gX8_burns_X8_within : GoodIn wsX8_burns (va_wsS RX8 82 yX8_within wsX8_within) := goodIn_app (goodIn_of _ (by decide +kernel)) ggX8_burns_X8_within
set_option maxRecDepth 20000 in
theorem ggX8_burns_X8_finding : GoodIn wsX8_burns wsX8_finding := goodIn_r _ [23, 2, 24, 19, 13, 14, 15, 114, 115, 116, 117, 118, 119, 120, 121, 122, 123, 124] (by decide +kernel) (by decide +kernel)
set_option maxRecDepth 20000 in
theorem gX8_burns_X8_finding : GoodIn wsX8_burns (wsV RX8 87 RX8 yX8_finding wsX8_finding) := goodIn_app (goodIn_of _ (by decide +kernel)) ggX8_burns_X8_finding
set_option maxRecDepth 20000 in
theorem ggX8_burns_X8_minutesBehind : GoodIn wsX8_burns wsX8_minutesBehind := goodIn_r _ [28, 29, 4, 30, 31, 32, 33, 34, 35, 36, 37, 38, 39, 40, 41, 42, 43, 44, 45, 46, 47, 48, 49, 50, 51, 52, 53, 54, 55, 56, 57, 58, 59, 60, 61, 62, 63, 64, 65, 66, 67, 68, 14, 69, 70, 71, 72, 73, 74, 75, 76, 77, 78, 79, 80, 81, 82, 83, 84, 85, 86, 87, 88, 89, 90, 91, 92, 93, 94, 95, 96, 97, 98, 99, 100, 101, 102, 103, 104, 105, 106, 107, 108, 109, 110, 111, 112, 113, 114, 115, 116, 117, 118, 119, 120, 121, 122, 123, 124, 128, 129, 130, 131, 132, 137, 138, 139, 140] (by decide +kernel) (by decide +kernel)
set_option maxRecDepth 20000 in
theorem gX8_burns_X8_minutesBehind : GoodIn wsX8_burns (wsV RX8 194 RX8 yX8_minutesBehind wsX8_minutesBehind) := goodIn_app (goodIn_of _ (by decide +kernel)) ggX8_burns_X8_minutesBehind
theorem dX8_burns_0 : decode cX8_burns 0 = .ok (.aload_n 0, 1) := by decide +kernel
theorem dX8_burns_1 : decode cX8_burns 1 = .ok (.getfield 10, 3) := by decide +kernel
theorem dX8_burns_4 : decode cX8_burns 4 = .ok (.iload_n 1, 1) := by decide +kernel
theorem dX8_burns_5 : decode cX8_burns 5 = .ok (.invokevirtual 125, 3) := by decide +kernel
theorem dX8_burns_8 : decode cX8_burns 8 = .ok (.ifCond .eq 20, 3) := by decide +kernel
theorem dX8_burns_11 : decode cX8_burns 11 = .ok (.iload_n 2, 1) := by decide +kernel
theorem dX8_burns_12 : decode cX8_burns 12 = .ok (.invokestatic 78, 3) := by decide +kernel
theorem dX8_burns_15 : decode cX8_burns 15 = .ok (.ifCond .eq 13, 3) := by decide +kernel
theorem dX8_burns_18 : decode cX8_burns 18 = .ok (.iload_n 3, 1) := by decide +kernel
theorem dX8_burns_19 : decode cX8_burns 19 = .ok (.iconst 0, 1) := by decide +kernel
theorem dX8_burns_20 : decode cX8_burns 20 = .ok (.bipush 40, 2) := by decide +kernel
theorem dX8_burns_22 : decode cX8_burns 22 = .ok (.invokestatic 82, 3) := by decide +kernel
theorem dX8_burns_25 : decode cX8_burns 25 = .ok (.ifCond .ne 10, 3) := by decide +kernel
theorem dX8_burns_28 : decode cX8_burns 28 = .ok (.aload_n 0, 1) := by decide +kernel
theorem dX8_burns_29 : decode cX8_burns 29 = .ok (.ldc 86, 2) := by decide +kernel
theorem dX8_burns_31 : decode cX8_burns 31 = .ok (.invokevirtual 87, 3) := by decide +kernel
theorem dX8_burns_34 : decode cX8_burns 34 = .ok (.ireturn, 1) := by decide +kernel
theorem dX8_burns_35 : decode cX8_burns 35 = .ok (.aload_n 0, 1) := by decide +kernel
theorem dX8_burns_36 : decode cX8_burns 36 = .ok (.getfield 10, 3) := by decide +kernel
theorem dX8_burns_39 : decode cX8_burns 39 = .ok (.getfield 128, 3) := by decide +kernel
theorem dX8_burns_42 : decode cX8_burns 42 = .ok (.iload_n 1, 1) := by decide +kernel
theorem dX8_burns_43 : decode cX8_burns 43 = .ok (.aaload, 1) := by decide +kernel
theorem dX8_burns_44 : decode cX8_burns 44 = .ok (.astore 4, 2) := by decide +kernel
theorem dX8_burns_46 : decode cX8_burns 46 = .ok (.aload_n 0, 1) := by decide +kernel
theorem dX8_burns_47 : decode cX8_burns 47 = .ok (.aload 4, 2) := by decide +kernel
theorem dX8_burns_49 : decode cX8_burns 49 = .ok (.aload 4, 2) := by decide +kernel
theorem dX8_burns_51 : decode cX8_burns 51 = .ok (.getfield 132, 3) := by decide +kernel
theorem dX8_burns_54 : decode cX8_burns 54 = .ok (.aload_n 0, 1) := by decide +kernel
theorem dX8_burns_55 : decode cX8_burns 55 = .ok (.getfield 10, 3) := by decide +kernel
theorem dX8_burns_58 : decode cX8_burns 58 = .ok (.getfield 91, 3) := by decide +kernel
theorem dX8_burns_61 : decode cX8_burns 61 = .ok (.getfield 94, 3) := by decide +kernel
theorem dX8_burns_64 : decode cX8_burns 64 = .ok (.iload_n 2, 1) := by decide +kernel
theorem dX8_burns_65 : decode cX8_burns 65 = .ok (.aaload, 1) := by decide +kernel
theorem dX8_burns_66 : decode cX8_burns 66 = .ok (.iload_n 3, 1) := by decide +kernel
theorem dX8_burns_67 : decode cX8_burns 67 = .ok (.invokevirtual 194, 3) := by decide +kernel
theorem dX8_burns_70 : decode cX8_burns 70 = .ok (.ireturn, 1) := by decide +kernel
set_option maxRecDepth 20000 in
theorem ggX8_fewest_X1_has : GoodIn wsX8_fewest wsX1_has := goodIn_r _ [9, 10, 11, 12, 13, 157, 158, 159] (by decide +kernel) (by decide +kernel)
set_option maxRecDepth 20000 in
theorem gX8_fewest_X1_has : GoodIn wsX8_fewest (wsV RX8 125 RX1 yX1_has wsX1_has) := goodIn_app (goodIn_of _ (by decide +kernel)) ggX8_fewest_X1_has
set_option maxRecDepth 20000 in
theorem ggX8_fewest_X8_within : GoodIn wsX8_fewest wsX8_within := goodIn_r _ [13] (by decide +kernel) (by decide +kernel)
set_option maxRecDepth 20000 in
theorem gX8_fewest_X8_within : GoodIn wsX8_fewest (va_wsS RX8 82 yX8_within wsX8_within) := goodIn_app (goodIn_of _ (by decide +kernel)) ggX8_fewest_X8_within
set_option maxRecDepth 20000 in
theorem ggX8_fewest_X8_finding : GoodIn wsX8_fewest wsX8_finding := goodIn_r _ [18, 2, 19, 14, 11, 12, 13, 146, 147, 148, 149, 150, 151, 152, 153, 154, 155, 156] (by decide +kernel) (by decide +kernel)
set_option maxRecDepth 20000 in
theorem gX8_fewest_X8_finding : GoodIn wsX8_fewest (wsV RX8 87 RX8 yX8_finding wsX8_finding) := goodIn_app (goodIn_of _ (by decide +kernel)) ggX8_fewest_X8_finding
set_option maxRecDepth 20000 in
theorem ggX8_fewest_X8_fewestDips : GoodIn wsX8_fewest wsX8_fewestDips := goodIn_r _ [23, 24, 1, 25, 26, 27, 28, 29, 30, 31, 32, 33, 34, 35, 36, 37, 38, 39, 40, 41, 42, 43, 44, 45, 46, 47, 48, 49, 50, 51, 52, 53, 54, 55, 56, 57, 58, 59, 60, 61, 62, 63, 64, 65, 66, 67, 68, 69, 70, 71, 72, 73, 74, 75, 76, 77, 78, 79, 80, 81, 82, 83, 84, 85, 86, 87, 88, 89, 90, 91, 92, 93, 94, 95, 96, 97, 98, 99, 100, 101, 102, 103, 104, 105, 106, 107, 108, 12, 109, 110, 111, 112, 113, 114, 115, 116, 117, 118, 119, 120, 121, 122, 123, 124, 125, 126, 127, 128, 129, 130, 131, 132, 133, 134, 135, 136, 137, 138, 139, 140, 141, 142, 143, 144, 145, 146, 147, 148, 149, 150, 151, 152, 153, 154, 155, 156, 157, 158, 159, 160, 161, 162, 163, 164, 165, 166, 167, 168, 169, 170, 171, 172, 173, 174, 175, 176, 177, 178, 179] (by decide +kernel) (by decide +kernel)
set_option maxRecDepth 20000 in
theorem gX8_fewest_X8_fewestDips : GoodIn wsX8_fewest (wsV RX8 198 RX8 yX8_fewestDips wsX8_fewestDips) := goodIn_app (goodIn_of _ (by decide +kernel)) ggX8_fewest_X8_fewestDips
theorem dX8_fewest_0 : decode cX8_fewest 0 = .ok (.aload_n 0, 1) := by decide +kernel
theorem dX8_fewest_1 : decode cX8_fewest 1 = .ok (.getfield 10, 3) := by decide +kernel
theorem dX8_fewest_4 : decode cX8_fewest 4 = .ok (.iload_n 1, 1) := by decide +kernel
theorem dX8_fewest_5 : decode cX8_fewest 5 = .ok (.invokevirtual 125, 3) := by decide +kernel
theorem dX8_fewest_8 : decode cX8_fewest 8 = .ok (.ifCond .eq 14, 3) := by decide +kernel
theorem dX8_fewest_11 : decode cX8_fewest 11 = .ok (.iload_n 2, 1) := by decide +kernel
theorem dX8_fewest_12 : decode cX8_fewest 12 = .ok (.iconst 0, 1) := by decide +kernel
theorem dX8_fewest_13 : decode cX8_fewest 13 = .ok (.sipush 9999, 3) := by decide +kernel
theorem dX8_fewest_16 : decode cX8_fewest 16 = .ok (.invokestatic 82, 3) := by decide +kernel
theorem dX8_fewest_19 : decode cX8_fewest 19 = .ok (.ifCond .ne 10, 3) := by decide +kernel
theorem dX8_fewest_22 : decode cX8_fewest 22 = .ok (.aload_n 0, 1) := by decide +kernel
theorem dX8_fewest_23 : decode cX8_fewest 23 = .ok (.ldc 86, 2) := by decide +kernel
theorem dX8_fewest_25 : decode cX8_fewest 25 = .ok (.invokevirtual 87, 3) := by decide +kernel
theorem dX8_fewest_28 : decode cX8_fewest 28 = .ok (.ireturn, 1) := by decide +kernel
theorem dX8_fewest_29 : decode cX8_fewest 29 = .ok (.aload_n 0, 1) := by decide +kernel
theorem dX8_fewest_30 : decode cX8_fewest 30 = .ok (.aload_n 0, 1) := by decide +kernel
theorem dX8_fewest_31 : decode cX8_fewest 31 = .ok (.getfield 10, 3) := by decide +kernel
theorem dX8_fewest_34 : decode cX8_fewest 34 = .ok (.getfield 128, 3) := by decide +kernel
theorem dX8_fewest_37 : decode cX8_fewest 37 = .ok (.iload_n 1, 1) := by decide +kernel
theorem dX8_fewest_38 : decode cX8_fewest 38 = .ok (.aaload, 1) := by decide +kernel
theorem dX8_fewest_39 : decode cX8_fewest 39 = .ok (.iload_n 2, 1) := by decide +kernel
theorem dX8_fewest_40 : decode cX8_fewest 40 = .ok (.invokevirtual 198, 3) := by decide +kernel
theorem dX8_fewest_43 : decode cX8_fewest 43 = .ok (.istore_n 3, 1) := by decide +kernel
theorem dX8_fewest_44 : decode cX8_fewest 44 = .ok (.iload_n 3, 1) := by decide +kernel
theorem dX8_fewest_45 : decode cX8_fewest 45 = .ok (.ifCond .ge 10, 3) := by decide +kernel
theorem dX8_fewest_48 : decode cX8_fewest 48 = .ok (.aload_n 0, 1) := by decide +kernel
theorem dX8_fewest_49 : decode cX8_fewest 49 = .ok (.ldc 146, 2) := by decide +kernel
theorem dX8_fewest_51 : decode cX8_fewest 51 = .ok (.invokevirtual 87, 3) := by decide +kernel
theorem dX8_fewest_54 : decode cX8_fewest 54 = .ok (.ireturn, 1) := by decide +kernel
theorem dX8_fewest_55 : decode cX8_fewest 55 = .ok (.iload_n 3, 1) := by decide +kernel
theorem dX8_fewest_56 : decode cX8_fewest 56 = .ok (.ireturn, 1) := by decide +kernel
set_option maxRecDepth 20000 in
theorem ggX8_ith_X1_has : GoodIn wsX8_ith wsX1_has := goodIn_r _ [11, 12, 13, 14, 15, 157, 158, 159] (by decide +kernel) (by decide +kernel)
set_option maxRecDepth 20000 in
theorem gX8_ith_X1_has : GoodIn wsX8_ith (wsV RX8 125 RX1 yX1_has wsX1_has) := goodIn_app (goodIn_of _ (by decide +kernel)) ggX8_ith_X1_has
set_option maxRecDepth 20000 in
theorem ggX8_ith_X8_within : GoodIn wsX8_ith wsX8_within := goodIn_r _ [15] (by decide +kernel) (by decide +kernel)
set_option maxRecDepth 20000 in
theorem gX8_ith_X8_within : GoodIn wsX8_ith (va_wsS RX8 82 yX8_within wsX8_within) := goodIn_app (goodIn_of _ (by decide +kernel)) ggX8_ith_X8_within
set_option maxRecDepth 20000 in
theorem ggX8_ith_X8_finding : GoodIn wsX8_ith wsX8_finding := goodIn_r _ [20, 2, 21, 16, 13, 14, 15, 146, 147, 148, 149, 150, 151, 152, 153, 154, 155, 156] (by decide +kernel) (by decide +kernel)
set_option maxRecDepth 20000 in
theorem gX8_ith_X8_finding : GoodIn wsX8_ith (wsV RX8 87 RX8 yX8_finding wsX8_finding) := goodIn_app (goodIn_of _ (by decide +kernel)) ggX8_ith_X8_finding
set_option maxRecDepth 20000 in
theorem ggX8_ith_X8_fewestDips : GoodIn wsX8_ith wsX8_fewestDips := goodIn_r _ [25, 5, 1, 26, 6, 27, 28, 29, 30, 31, 32, 33, 34, 35, 36, 37, 38, 39, 40, 41, 42, 43, 44, 45, 46, 47, 48, 49, 50, 51, 52, 53, 54, 55, 56, 57, 58, 59, 60, 61, 62, 63, 64, 65, 66, 67, 68, 69, 70, 71, 72, 73, 74, 75, 76, 77, 78, 79, 80, 81, 82, 83, 84, 85, 86, 87, 88, 89, 90, 91, 92, 93, 94, 95, 96, 97, 98, 99, 100, 101, 102, 103, 104, 105, 106, 107, 108, 14, 109, 110, 111, 112, 113, 114, 115, 116, 117, 118, 119, 120, 121, 122, 123, 124, 125, 126, 127, 128, 129, 130, 131, 132, 133, 134, 135, 136, 137, 138, 139, 140, 141, 142, 143, 144, 145, 146, 147, 148, 149, 150, 151, 152, 153, 154, 155, 156, 157, 158, 159, 160, 161, 162, 163, 164, 165, 166, 167, 168, 169, 170, 171, 172, 173, 174, 175, 176, 177, 178, 179] (by decide +kernel) (by decide +kernel)
set_option maxRecDepth 20000 in
theorem gX8_ith_X8_fewestDips : GoodIn wsX8_ith (wsV RX8 198 RX8 yX8_fewestDips wsX8_fewestDips) := goodIn_app (goodIn_of _ (by decide +kernel)) ggX8_ith_X8_fewestDips
theorem dX8_ith_0 : decode cX8_ith 0 = .ok (.aload_n 0, 1) := by decide +kernel
theorem dX8_ith_1 : decode cX8_ith 1 = .ok (.getfield 10, 3) := by decide +kernel
theorem dX8_ith_4 : decode cX8_ith 4 = .ok (.iload_n 1, 1) := by decide +kernel
theorem dX8_ith_5 : decode cX8_ith 5 = .ok (.invokevirtual 125, 3) := by decide +kernel
theorem dX8_ith_8 : decode cX8_ith 8 = .ok (.ifCond .eq 23, 3) := by decide +kernel
theorem dX8_ith_11 : decode cX8_ith 11 = .ok (.iload_n 2, 1) := by decide +kernel
theorem dX8_ith_12 : decode cX8_ith 12 = .ok (.iconst 0, 1) := by decide +kernel
theorem dX8_ith_13 : decode cX8_ith 13 = .ok (.sipush 9999, 3) := by decide +kernel
theorem dX8_ith_16 : decode cX8_ith 16 = .ok (.invokestatic 82, 3) := by decide +kernel
theorem dX8_ith_19 : decode cX8_ith 19 = .ok (.ifCond .eq 12, 3) := by decide +kernel
theorem dX8_ith_22 : decode cX8_ith 22 = .ok (.iload_n 3, 1) := by decide +kernel
theorem dX8_ith_23 : decode cX8_ith 23 = .ok (.iconst 0, 1) := by decide +kernel
theorem dX8_ith_24 : decode cX8_ith 24 = .ok (.iconst 5, 1) := by decide +kernel
theorem dX8_ith_25 : decode cX8_ith 25 = .ok (.invokestatic 82, 3) := by decide +kernel
theorem dX8_ith_28 : decode cX8_ith 28 = .ok (.ifCond .ne 10, 3) := by decide +kernel
theorem dX8_ith_31 : decode cX8_ith 31 = .ok (.aload_n 0, 1) := by decide +kernel
theorem dX8_ith_32 : decode cX8_ith 32 = .ok (.ldc 86, 2) := by decide +kernel
theorem dX8_ith_34 : decode cX8_ith 34 = .ok (.invokevirtual 87, 3) := by decide +kernel
theorem dX8_ith_37 : decode cX8_ith 37 = .ok (.ireturn, 1) := by decide +kernel
theorem dX8_ith_38 : decode cX8_ith 38 = .ok (.aload_n 0, 1) := by decide +kernel
theorem dX8_ith_39 : decode cX8_ith 39 = .ok (.aload_n 0, 1) := by decide +kernel
theorem dX8_ith_40 : decode cX8_ith 40 = .ok (.getfield 10, 3) := by decide +kernel
theorem dX8_ith_43 : decode cX8_ith 43 = .ok (.getfield 128, 3) := by decide +kernel
theorem dX8_ith_46 : decode cX8_ith 46 = .ok (.iload_n 1, 1) := by decide +kernel
theorem dX8_ith_47 : decode cX8_ith 47 = .ok (.aaload, 1) := by decide +kernel
theorem dX8_ith_48 : decode cX8_ith 48 = .ok (.iload_n 2, 1) := by decide +kernel
theorem dX8_ith_49 : decode cX8_ith 49 = .ok (.invokevirtual 198, 3) := by decide +kernel
theorem dX8_ith_52 : decode cX8_ith 52 = .ok (.istore 4, 2) := by decide +kernel
theorem dX8_ith_54 : decode cX8_ith 54 = .ok (.iload_n 3, 1) := by decide +kernel
theorem dX8_ith_55 : decode cX8_ith 55 = .ok (.iload 4, 2) := by decide +kernel
theorem dX8_ith_57 : decode cX8_ith 57 = .ok (.if_icmp .lt 10, 3) := by decide +kernel
theorem dX8_ith_60 : decode cX8_ith 60 = .ok (.aload_n 0, 1) := by decide +kernel
theorem dX8_ith_61 : decode cX8_ith 61 = .ok (.ldc 146, 2) := by decide +kernel
theorem dX8_ith_63 : decode cX8_ith 63 = .ok (.invokevirtual 87, 3) := by decide +kernel
theorem dX8_ith_66 : decode cX8_ith 66 = .ok (.ireturn, 1) := by decide +kernel
theorem dX8_ith_67 : decode cX8_ith 67 = .ok (.aload_n 0, 1) := by decide +kernel
theorem dX8_ith_68 : decode cX8_ith 68 = .ok (.getfield 47, 3) := by decide +kernel
theorem dX8_ith_71 : decode cX8_ith 71 = .ok (.getfield 202, 3) := by decide +kernel
theorem dX8_ith_74 : decode cX8_ith 74 = .ok (.iconst 2, 1) := by decide +kernel
theorem dX8_ith_75 : decode cX8_ith 75 = .ok (.iload 4, 2) := by decide +kernel
theorem dX8_ith_77 : decode cX8_ith 77 = .ok (.iconst 1, 1) := by decide +kernel
theorem dX8_ith_78 : decode cX8_ith 78 = .ok (.isub, 1) := by decide +kernel
theorem dX8_ith_79 : decode cX8_ith 79 = .ok (.iload_n 3, 1) := by decide +kernel
theorem dX8_ith_80 : decode cX8_ith 80 = .ok (.isub, 1) := by decide +kernel
theorem dX8_ith_81 : decode cX8_ith 81 = .ok (.imul, 1) := by decide +kernel
theorem dX8_ith_82 : decode cX8_ith 82 = .ok (.ishr, 1) := by decide +kernel
theorem dX8_ith_83 : decode cX8_ith 83 = .ok (.iconst 3, 1) := by decide +kernel
theorem dX8_ith_84 : decode cX8_ith 84 = .ok (.iand, 1) := by decide +kernel
theorem dX8_ith_85 : decode cX8_ith 85 = .ok (.ireturn, 1) := by decide +kernel
set_option maxRecDepth 20000 in
theorem ggX8_ways_X1_has : GoodIn wsX8_ways wsX1_has := goodIn_r _ [11, 12, 13, 14, 15, 152, 153, 154] (by decide +kernel) (by decide +kernel)
set_option maxRecDepth 20000 in
theorem gX8_ways_X1_has : GoodIn wsX8_ways (wsV RX8 125 RX1 yX1_has wsX1_has) := goodIn_app (goodIn_of _ (by decide +kernel)) ggX8_ways_X1_has
set_option maxRecDepth 20000 in
theorem ggX8_ways_X8_within : GoodIn wsX8_ways wsX8_within := goodIn_r _ [15] (by decide +kernel) (by decide +kernel)
set_option maxRecDepth 20000 in
theorem gX8_ways_X8_within : GoodIn wsX8_ways (va_wsS RX8 82 yX8_within wsX8_within) := goodIn_app (goodIn_of _ (by decide +kernel)) ggX8_ways_X8_within
set_option maxRecDepth 20000 in
theorem ggX8_ways_X8_finding : GoodIn wsX8_ways wsX8_finding := goodIn_r _ [20, 2, 21, 16, 13, 14, 15, 141, 142, 143, 144, 145, 146, 147, 148, 149, 150, 151] (by decide +kernel) (by decide +kernel)
set_option maxRecDepth 20000 in
theorem gX8_ways_X8_finding : GoodIn wsX8_ways (wsV RX8 87 RX8 yX8_finding wsX8_finding) := goodIn_app (goodIn_of _ (by decide +kernel)) ggX8_ways_X8_finding
set_option maxRecDepth 20000 in
theorem ggX8_ways_X2_walk : GoodIn wsX8_ways wsX2_walk := goodIn_r _ [26, 27, 28, 29, 30, 31, 32, 33, 34, 35, 36, 37, 38, 39, 40, 41, 42, 43, 44, 45, 46, 47, 48, 49, 50, 51, 52, 53, 54, 55, 56, 57, 58, 59, 60, 61, 62, 63, 64, 65, 66, 67, 68, 25, 69, 70, 71, 72, 73, 74, 75, 76, 77, 78, 79, 80, 81, 82, 83, 84, 85, 86, 87, 88, 89, 90, 91, 92, 93, 94, 95, 96, 97, 98, 99, 100, 101, 102, 103, 14, 104, 105, 106, 107, 108, 109, 110, 111, 112, 113, 114, 115, 116, 117, 118, 119, 120, 121, 122, 123, 124, 125, 126, 127, 128, 129, 130, 131, 132, 133, 134, 135, 136, 137, 138, 139, 140, 155, 156, 157, 158, 159, 160, 161, 162, 163, 164, 165, 166, 167, 168, 169, 170, 171, 172, 173, 174] (by decide +kernel) (by decide +kernel)
set_option maxRecDepth 20000 in
theorem gX8_ways_X2_walk : GoodIn wsX8_ways (wsV RX8 205 RX2 yX2_walk wsX2_walk) := goodIn_app (goodIn_of _ (by decide +kernel)) ggX8_ways_X2_walk
theorem dX8_ways_0 : decode cX8_ways 0 = .ok (.aload_n 0, 1) := by decide +kernel
theorem dX8_ways_1 : decode cX8_ways 1 = .ok (.getfield 10, 3) := by decide +kernel
theorem dX8_ways_4 : decode cX8_ways 4 = .ok (.iload_n 1, 1) := by decide +kernel
theorem dX8_ways_5 : decode cX8_ways 5 = .ok (.invokevirtual 125, 3) := by decide +kernel
theorem dX8_ways_8 : decode cX8_ways 8 = .ok (.ifCond .eq 24, 3) := by decide +kernel
theorem dX8_ways_11 : decode cX8_ways 11 = .ok (.iload_n 2, 1) := by decide +kernel
theorem dX8_ways_12 : decode cX8_ways 12 = .ok (.iconst 0, 1) := by decide +kernel
theorem dX8_ways_13 : decode cX8_ways 13 = .ok (.sipush 9999, 3) := by decide +kernel
theorem dX8_ways_16 : decode cX8_ways 16 = .ok (.invokestatic 82, 3) := by decide +kernel
theorem dX8_ways_19 : decode cX8_ways 19 = .ok (.ifCond .eq 13, 3) := by decide +kernel
theorem dX8_ways_22 : decode cX8_ways 22 = .ok (.iload_n 3, 1) := by decide +kernel
theorem dX8_ways_23 : decode cX8_ways 23 = .ok (.iconst 0, 1) := by decide +kernel
theorem dX8_ways_24 : decode cX8_ways 24 = .ok (.bipush 6, 2) := by decide +kernel
theorem dX8_ways_26 : decode cX8_ways 26 = .ok (.invokestatic 82, 3) := by decide +kernel
theorem dX8_ways_29 : decode cX8_ways 29 = .ok (.ifCond .ne 10, 3) := by decide +kernel
theorem dX8_ways_32 : decode cX8_ways 32 = .ok (.aload_n 0, 1) := by decide +kernel
theorem dX8_ways_33 : decode cX8_ways 33 = .ok (.ldc 86, 2) := by decide +kernel
theorem dX8_ways_35 : decode cX8_ways 35 = .ok (.invokevirtual 87, 3) := by decide +kernel
theorem dX8_ways_38 : decode cX8_ways 38 = .ok (.ireturn, 1) := by decide +kernel
theorem dX8_ways_39 : decode cX8_ways 39 = .ok (.aload_n 0, 1) := by decide +kernel
theorem dX8_ways_40 : decode cX8_ways 40 = .ok (.getfield 47, 3) := by decide +kernel
theorem dX8_ways_43 : decode cX8_ways 43 = .ok (.aload_n 0, 1) := by decide +kernel
theorem dX8_ways_44 : decode cX8_ways 44 = .ok (.getfield 10, 3) := by decide +kernel
theorem dX8_ways_47 : decode cX8_ways 47 = .ok (.getfield 91, 3) := by decide +kernel
theorem dX8_ways_50 : decode cX8_ways 50 = .ok (.aload_n 0, 1) := by decide +kernel
theorem dX8_ways_51 : decode cX8_ways 51 = .ok (.getfield 10, 3) := by decide +kernel
theorem dX8_ways_54 : decode cX8_ways 54 = .ok (.getfield 128, 3) := by decide +kernel
theorem dX8_ways_57 : decode cX8_ways 57 = .ok (.iload_n 1, 1) := by decide +kernel
theorem dX8_ways_58 : decode cX8_ways 58 = .ok (.aaload, 1) := by decide +kernel
theorem dX8_ways_59 : decode cX8_ways 59 = .ok (.iload_n 3, 1) := by decide +kernel
theorem dX8_ways_60 : decode cX8_ways 60 = .ok (.iload_n 2, 1) := by decide +kernel
theorem dX8_ways_61 : decode cX8_ways 61 = .ok (.invokevirtual 205, 3) := by decide +kernel
theorem dX8_ways_64 : decode cX8_ways 64 = .ok (.aload_n 0, 1) := by decide +kernel
theorem dX8_ways_65 : decode cX8_ways 65 = .ok (.getfield 47, 3) := by decide +kernel
theorem dX8_ways_68 : decode cX8_ways 68 = .ok (.getfield 209, 3) := by decide +kernel
theorem dX8_ways_71 : decode cX8_ways 71 = .ok (.ireturn, 1) := by decide +kernel
set_option maxRecDepth 20000 in
theorem ggX8_most_X1_has : GoodIn wsX8_most wsX1_has := goodIn_r _ [11, 12, 13, 14, 15, 152, 153, 154] (by decide +kernel) (by decide +kernel)
set_option maxRecDepth 20000 in
theorem gX8_most_X1_has : GoodIn wsX8_most (wsV RX8 125 RX1 yX1_has wsX1_has) := goodIn_app (goodIn_of _ (by decide +kernel)) ggX8_most_X1_has
set_option maxRecDepth 20000 in
theorem ggX8_most_X8_within : GoodIn wsX8_most wsX8_within := goodIn_r _ [15] (by decide +kernel) (by decide +kernel)
set_option maxRecDepth 20000 in
theorem gX8_most_X8_within : GoodIn wsX8_most (va_wsS RX8 82 yX8_within wsX8_within) := goodIn_app (goodIn_of _ (by decide +kernel)) ggX8_most_X8_within
set_option maxRecDepth 20000 in
theorem ggX8_most_X8_finding : GoodIn wsX8_most wsX8_finding := goodIn_r _ [20, 2, 21, 16, 13, 14, 15, 141, 142, 143, 144, 145, 146, 147, 148, 149, 150, 151] (by decide +kernel) (by decide +kernel)
set_option maxRecDepth 20000 in
theorem gX8_most_X8_finding : GoodIn wsX8_most (wsV RX8 87 RX8 yX8_finding wsX8_finding) := goodIn_app (goodIn_of _ (by decide +kernel)) ggX8_most_X8_finding
set_option maxRecDepth 20000 in
theorem ggX8_most_X2_walk : GoodIn wsX8_most wsX2_walk := goodIn_r _ [26, 27, 28, 29, 30, 31, 32, 33, 34, 35, 36, 37, 38, 39, 40, 41, 42, 43, 44, 45, 46, 47, 48, 49, 50, 51, 52, 53, 54, 55, 56, 57, 58, 59, 60, 61, 62, 63, 64, 65, 66, 67, 68, 25, 69, 70, 71, 72, 73, 74, 75, 76, 77, 78, 79, 80, 81, 82, 83, 84, 85, 86, 87, 88, 89, 90, 91, 92, 93, 94, 95, 96, 97, 98, 99, 100, 101, 102, 103, 14, 104, 105, 106, 107, 108, 109, 110, 111, 112, 113, 114, 115, 116, 117, 118, 119, 120, 121, 122, 123, 124, 125, 126, 127, 128, 129, 130, 131, 132, 133, 134, 135, 136, 137, 138, 139, 140, 155, 156, 157, 158, 159, 160, 161, 162, 163, 164, 165, 166, 167, 168, 169, 170, 171, 172, 173, 174] (by decide +kernel) (by decide +kernel)
set_option maxRecDepth 20000 in
theorem gX8_most_X2_walk : GoodIn wsX8_most (wsV RX8 205 RX2 yX2_walk wsX2_walk) := goodIn_app (goodIn_of _ (by decide +kernel)) ggX8_most_X2_walk
theorem dX8_most_0 : decode cX8_most 0 = .ok (.aload_n 0, 1) := by decide +kernel
theorem dX8_most_1 : decode cX8_most 1 = .ok (.getfield 10, 3) := by decide +kernel
theorem dX8_most_4 : decode cX8_most 4 = .ok (.iload_n 1, 1) := by decide +kernel
theorem dX8_most_5 : decode cX8_most 5 = .ok (.invokevirtual 125, 3) := by decide +kernel
theorem dX8_most_8 : decode cX8_most 8 = .ok (.ifCond .eq 13, 3) := by decide +kernel
theorem dX8_most_11 : decode cX8_most 11 = .ok (.iload_n 2, 1) := by decide +kernel
theorem dX8_most_12 : decode cX8_most 12 = .ok (.iconst 0, 1) := by decide +kernel
theorem dX8_most_13 : decode cX8_most 13 = .ok (.bipush 6, 2) := by decide +kernel
theorem dX8_most_15 : decode cX8_most 15 = .ok (.invokestatic 82, 3) := by decide +kernel
theorem dX8_most_18 : decode cX8_most 18 = .ok (.ifCond .ne 10, 3) := by decide +kernel
theorem dX8_most_21 : decode cX8_most 21 = .ok (.aload_n 0, 1) := by decide +kernel
theorem dX8_most_22 : decode cX8_most 22 = .ok (.ldc 86, 2) := by decide +kernel
theorem dX8_most_24 : decode cX8_most 24 = .ok (.invokevirtual 87, 3) := by decide +kernel
theorem dX8_most_27 : decode cX8_most 27 = .ok (.ireturn, 1) := by decide +kernel
theorem dX8_most_28 : decode cX8_most 28 = .ok (.aload_n 0, 1) := by decide +kernel
theorem dX8_most_29 : decode cX8_most 29 = .ok (.getfield 47, 3) := by decide +kernel
theorem dX8_most_32 : decode cX8_most 32 = .ok (.aload_n 0, 1) := by decide +kernel
theorem dX8_most_33 : decode cX8_most 33 = .ok (.getfield 10, 3) := by decide +kernel
theorem dX8_most_36 : decode cX8_most 36 = .ok (.getfield 91, 3) := by decide +kernel
theorem dX8_most_39 : decode cX8_most 39 = .ok (.aload_n 0, 1) := by decide +kernel
theorem dX8_most_40 : decode cX8_most 40 = .ok (.getfield 10, 3) := by decide +kernel
theorem dX8_most_43 : decode cX8_most 43 = .ok (.getfield 128, 3) := by decide +kernel
theorem dX8_most_46 : decode cX8_most 46 = .ok (.iload_n 1, 1) := by decide +kernel
theorem dX8_most_47 : decode cX8_most 47 = .ok (.aaload, 1) := by decide +kernel
theorem dX8_most_48 : decode cX8_most 48 = .ok (.iload_n 2, 1) := by decide +kernel
theorem dX8_most_49 : decode cX8_most 49 = .ok (.iconst 0, 1) := by decide +kernel
theorem dX8_most_50 : decode cX8_most 50 = .ok (.invokevirtual 205, 3) := by decide +kernel
theorem dX8_most_53 : decode cX8_most 53 = .ok (.aload_n 0, 1) := by decide +kernel
theorem dX8_most_54 : decode cX8_most 54 = .ok (.getfield 47, 3) := by decide +kernel
theorem dX8_most_57 : decode cX8_most 57 = .ok (.getfield 212, 3) := by decide +kernel
theorem dX8_most_60 : decode cX8_most 60 = .ok (.ireturn, 1) := by decide +kernel
set_option maxRecDepth 20000 in
theorem ggX8_best_X1_has : GoodIn wsX8_best wsX1_has := goodIn_r _ [12, 13, 14, 15, 16, 124, 125, 126] (by decide +kernel) (by decide +kernel)
set_option maxRecDepth 20000 in
theorem gX8_best_X1_has : GoodIn wsX8_best (wsV RX8 125 RX1 yX1_has wsX1_has) := goodIn_app (goodIn_of _ (by decide +kernel)) ggX8_best_X1_has
set_option maxRecDepth 20000 in
theorem ggX8_best_X8_finding : GoodIn wsX8_best wsX8_finding := goodIn_r _ [20, 2, 21, 22, 14, 15, 16, 113, 114, 115, 116, 117, 118, 119, 120, 121, 122, 123] (by decide +kernel) (by decide +kernel)
set_option maxRecDepth 20000 in
theorem gX8_best_X8_finding : GoodIn wsX8_best (wsV RX8 87 RX8 yX8_finding wsX8_finding) := goodIn_app (goodIn_of _ (by decide +kernel)) ggX8_best_X8_finding
set_option maxRecDepth 20000 in
theorem ggX8_best_X0_isThick : GoodIn wsX8_best wsX0_isThick := goodIn_r _ [27, 28, 127, 128, 129, 130, 131] (by decide +kernel) (by decide +kernel)
set_option maxRecDepth 20000 in
theorem gX8_best_X0_isThick : GoodIn wsX8_best (wsV RX8 161 RX0 yX0_isThick wsX0_isThick) := goodIn_app (goodIn_of _ (by decide +kernel)) ggX8_best_X0_isThick
set_option maxRecDepth 20000 in
theorem ggX8_best_X8_minutesBehind : GoodIn wsX8_best wsX8_minutesBehind := goodIn_r _ [32, 33, 5, 34, 35, 36, 37, 26, 38, 39, 28, 40, 41, 42, 43, 44, 45, 46, 47, 48, 49, 50, 51, 52, 53, 54, 55, 56, 57, 58, 59, 60, 61, 62, 24, 25, 27, 63, 64, 65, 66, 67, 15, 68, 69, 70, 71, 72, 73, 74, 75, 76, 77, 78, 79, 80, 81, 82, 83, 84, 85, 86, 87, 88, 89, 90, 91, 92, 93, 94, 95, 96, 97, 98, 99, 100, 101, 102, 103, 104, 105, 106, 107, 108, 109, 110, 111, 112, 113, 114, 115, 116, 117, 118, 119, 120, 121, 122, 123, 127, 128, 129, 130, 131, 136, 137, 138, 139] (by decide +kernel) (by decide +kernel)
set_option maxRecDepth 20000 in
theorem gX8_best_X8_minutesBehind : GoodIn wsX8_best (wsV RX8 194 RX8 yX8_minutesBehind wsX8_minutesBehind) := goodIn_app (goodIn_of _ (by decide +kernel)) ggX8_best_X8_minutesBehind
theorem dX8_best_0 : decode cX8_best 0 = .ok (.aload_n 0, 1) := by decide +kernel
theorem dX8_best_1 : decode cX8_best 1 = .ok (.getfield 10, 3) := by decide +kernel
theorem dX8_best_4 : decode cX8_best 4 = .ok (.iload_n 1, 1) := by decide +kernel
theorem dX8_best_5 : decode cX8_best 5 = .ok (.invokevirtual 125, 3) := by decide +kernel
theorem dX8_best_8 : decode cX8_best 8 = .ok (.ifCond .ne 10, 3) := by decide +kernel
theorem dX8_best_11 : decode cX8_best 11 = .ok (.aload_n 0, 1) := by decide +kernel
theorem dX8_best_12 : decode cX8_best 12 = .ok (.ldc 86, 2) := by decide +kernel
theorem dX8_best_14 : decode cX8_best 14 = .ok (.invokevirtual 87, 3) := by decide +kernel
theorem dX8_best_17 : decode cX8_best 17 = .ok (.ireturn, 1) := by decide +kernel
theorem dX8_best_18 : decode cX8_best 18 = .ok (.aload_n 0, 1) := by decide +kernel
theorem dX8_best_19 : decode cX8_best 19 = .ok (.getfield 10, 3) := by decide +kernel
theorem dX8_best_22 : decode cX8_best 22 = .ok (.getfield 128, 3) := by decide +kernel
theorem dX8_best_25 : decode cX8_best 25 = .ok (.iload_n 1, 1) := by decide +kernel
theorem dX8_best_26 : decode cX8_best 26 = .ok (.aaload, 1) := by decide +kernel
theorem dX8_best_27 : decode cX8_best 27 = .ok (.astore_n 2, 1) := by decide +kernel
theorem dX8_best_28 : decode cX8_best 28 = .ok (.aload_n 2, 1) := by decide +kernel
theorem dX8_best_29 : decode cX8_best 29 = .ok (.invokevirtual 161, 3) := by decide +kernel
theorem dX8_best_32 : decode cX8_best 32 = .ok (.ifCond .eq 10, 3) := by decide +kernel
theorem dX8_best_35 : decode cX8_best 35 = .ok (.aload_n 0, 1) := by decide +kernel
theorem dX8_best_36 : decode cX8_best 36 = .ok (.ldc 165, 2) := by decide +kernel
theorem dX8_best_38 : decode cX8_best 38 = .ok (.invokevirtual 87, 3) := by decide +kernel
theorem dX8_best_41 : decode cX8_best 41 = .ok (.ireturn, 1) := by decide +kernel
theorem dX8_best_42 : decode cX8_best 42 = .ok (.iconst 0, 1) := by decide +kernel
theorem dX8_best_43 : decode cX8_best 43 = .ok (.istore_n 3, 1) := by decide +kernel
theorem dX8_best_44 : decode cX8_best 44 = .ok (.iconst (-1), 1) := by decide +kernel
theorem dX8_best_45 : decode cX8_best 45 = .ok (.istore 4, 2) := by decide +kernel
theorem dX8_best_47 : decode cX8_best 47 = .ok (.iconst 0, 1) := by decide +kernel
theorem dX8_best_48 : decode cX8_best 48 = .ok (.istore 5, 2) := by decide +kernel
theorem dX8_best_50 : decode cX8_best 50 = .ok (.iload 5, 2) := by decide +kernel
theorem dX8_best_52 : decode cX8_best 52 = .ok (.iconst 4, 1) := by decide +kernel
theorem dX8_best_53 : decode cX8_best 53 = .ok (.if_icmp .ge 48, 3) := by decide +kernel
theorem dX8_best_56 : decode cX8_best 56 = .ok (.aload_n 0, 1) := by decide +kernel
theorem dX8_best_57 : decode cX8_best 57 = .ok (.aload_n 2, 1) := by decide +kernel
theorem dX8_best_58 : decode cX8_best 58 = .ok (.aload_n 2, 1) := by decide +kernel
theorem dX8_best_59 : decode cX8_best 59 = .ok (.getfield 132, 3) := by decide +kernel
theorem dX8_best_62 : decode cX8_best 62 = .ok (.aload_n 0, 1) := by decide +kernel
theorem dX8_best_63 : decode cX8_best 63 = .ok (.getfield 10, 3) := by decide +kernel
theorem dX8_best_66 : decode cX8_best 66 = .ok (.getfield 91, 3) := by decide +kernel
theorem dX8_best_69 : decode cX8_best 69 = .ok (.getfield 94, 3) := by decide +kernel
theorem dX8_best_72 : decode cX8_best 72 = .ok (.iload 5, 2) := by decide +kernel
theorem dX8_best_74 : decode cX8_best 74 = .ok (.aaload, 1) := by decide +kernel
theorem dX8_best_75 : decode cX8_best 75 = .ok (.iconst 1, 1) := by decide +kernel
theorem dX8_best_76 : decode cX8_best 76 = .ok (.invokevirtual 194, 3) := by decide +kernel
theorem dX8_best_79 : decode cX8_best 79 = .ok (.istore 6, 2) := by decide +kernel
theorem dX8_best_81 : decode cX8_best 81 = .ok (.iload 6, 2) := by decide +kernel
theorem dX8_best_83 : decode cX8_best 83 = .ok (.iload 4, 2) := by decide +kernel
theorem dX8_best_85 : decode cX8_best 85 = .ok (.if_icmp .le 10, 3) := by decide +kernel
theorem dX8_best_88 : decode cX8_best 88 = .ok (.iload 6, 2) := by decide +kernel
theorem dX8_best_90 : decode cX8_best 90 = .ok (.istore 4, 2) := by decide +kernel
theorem dX8_best_92 : decode cX8_best 92 = .ok (.iload 5, 2) := by decide +kernel
theorem dX8_best_94 : decode cX8_best 94 = .ok (.istore_n 3, 1) := by decide +kernel
theorem dX8_best_95 : decode cX8_best 95 = .ok (.iinc 5 1, 3) := by decide +kernel
theorem dX8_best_98 : decode cX8_best 98 = .ok (.goto (-48), 3) := by decide +kernel
theorem dX8_best_101 : decode cX8_best 101 = .ok (.iload_n 3, 1) := by decide +kernel
theorem dX8_best_102 : decode cX8_best 102 = .ok (.ireturn, 1) := by decide +kernel
set_option maxRecDepth 20000 in
theorem ggX8_kind_X1_has : GoodIn wsX8_kind wsX1_has := goodIn_r _ [10, 11, 12, 13, 14, 125, 126, 127] (by decide +kernel) (by decide +kernel)
set_option maxRecDepth 20000 in
theorem gX8_kind_X1_has : GoodIn wsX8_kind (wsV RX8 125 RX1 yX1_has wsX1_has) := goodIn_app (goodIn_of _ (by decide +kernel)) ggX8_kind_X1_has
set_option maxRecDepth 20000 in
theorem ggX8_kind_X8_isVat : GoodIn wsX8_kind wsX8_isVat := goodIn_r _ [17, 18, 12, 13, 14] (by decide +kernel) (by decide +kernel)
set_option maxRecDepth 20000 in
theorem gX8_kind_X8_isVat : GoodIn wsX8_kind (va_wsS RX8 78 yX8_isVat wsX8_isVat) := goodIn_app (goodIn_of _ (by decide +kernel)) ggX8_kind_X8_isVat
set_option maxRecDepth 20000 in
theorem ggX8_kind_X8_within : GoodIn wsX8_kind wsX8_within := goodIn_r _ [14] (by decide +kernel) (by decide +kernel)
set_option maxRecDepth 20000 in
theorem gX8_kind_X8_within : GoodIn wsX8_kind (va_wsS RX8 82 yX8_within wsX8_within) := goodIn_app (goodIn_of _ (by decide +kernel)) ggX8_kind_X8_within
set_option maxRecDepth 20000 in
theorem ggX8_kind_X8_finding : GoodIn wsX8_kind wsX8_finding := goodIn_r _ [22, 2, 23, 18, 12, 13, 14, 114, 115, 116, 117, 118, 119, 120, 121, 122, 123, 124] (by decide +kernel) (by decide +kernel)
set_option maxRecDepth 20000 in
theorem gX8_kind_X8_finding : GoodIn wsX8_kind (wsV RX8 87 RX8 yX8_finding wsX8_finding) := goodIn_app (goodIn_of _ (by decide +kernel)) ggX8_kind_X8_finding
set_option maxRecDepth 20000 in
theorem ggX8_kind_X8_minutesBehind : GoodIn wsX8_kind wsX8_minutesBehind := goodIn_r _ [27, 28, 29, 30, 31, 32, 33, 34, 35, 36, 37, 38, 39, 40, 41, 42, 43, 44, 45, 46, 47, 48, 49, 50, 51, 52, 53, 54, 55, 56, 57, 58, 59, 60, 61, 62, 63, 64, 65, 66, 67, 68, 13, 69, 70, 71, 72, 73, 74, 75, 76, 77, 78, 79, 80, 81, 82, 83, 84, 85, 86, 87, 88, 89, 90, 91, 92, 93, 94, 95, 96, 97, 98, 99, 100, 101, 102, 103, 104, 105, 106, 107, 108, 109, 110, 111, 112, 113, 114, 115, 116, 117, 118, 119, 120, 121, 122, 123, 124, 132, 133, 134, 135, 136, 137, 138, 139, 140] (by decide +kernel) (by decide +kernel)
set_option maxRecDepth 20000 in
theorem gX8_kind_X8_minutesBehind : GoodIn wsX8_kind (wsV RX8 194 RX8 yX8_minutesBehind wsX8_minutesBehind) := goodIn_app (goodIn_of _ (by decide +kernel)) ggX8_kind_X8_minutesBehind
theorem dX8_kind_0 : decode cX8_kind 0 = .ok (.aload_n 0, 1) := by decide +kernel
theorem dX8_kind_1 : decode cX8_kind 1 = .ok (.getfield 10, 3) := by decide +kernel
theorem dX8_kind_4 : decode cX8_kind 4 = .ok (.iload_n 1, 1) := by decide +kernel
theorem dX8_kind_5 : decode cX8_kind 5 = .ok (.invokevirtual 125, 3) := by decide +kernel
theorem dX8_kind_8 : decode cX8_kind 8 = .ok (.ifCond .eq 20, 3) := by decide +kernel
theorem dX8_kind_11 : decode cX8_kind 11 = .ok (.iload_n 2, 1) := by decide +kernel
theorem dX8_kind_12 : decode cX8_kind 12 = .ok (.invokestatic 78, 3) := by decide +kernel
theorem dX8_kind_15 : decode cX8_kind 15 = .ok (.ifCond .eq 13, 3) := by decide +kernel
theorem dX8_kind_18 : decode cX8_kind 18 = .ok (.iload_n 3, 1) := by decide +kernel
theorem dX8_kind_19 : decode cX8_kind 19 = .ok (.iconst 0, 1) := by decide +kernel
theorem dX8_kind_20 : decode cX8_kind 20 = .ok (.bipush 40, 2) := by decide +kernel
theorem dX8_kind_22 : decode cX8_kind 22 = .ok (.invokestatic 82, 3) := by decide +kernel
theorem dX8_kind_25 : decode cX8_kind 25 = .ok (.ifCond .ne 10, 3) := by decide +kernel
theorem dX8_kind_28 : decode cX8_kind 28 = .ok (.aload_n 0, 1) := by decide +kernel
theorem dX8_kind_29 : decode cX8_kind 29 = .ok (.ldc 86, 2) := by decide +kernel
theorem dX8_kind_31 : decode cX8_kind 31 = .ok (.invokevirtual 87, 3) := by decide +kernel
theorem dX8_kind_34 : decode cX8_kind 34 = .ok (.ireturn, 1) := by decide +kernel
theorem dX8_kind_35 : decode cX8_kind 35 = .ok (.iconst 0, 1) := by decide +kernel
theorem dX8_kind_36 : decode cX8_kind 36 = .ok (.istore 4, 2) := by decide +kernel
theorem dX8_kind_38 : decode cX8_kind 38 = .ok (.iconst (-1), 1) := by decide +kernel
theorem dX8_kind_39 : decode cX8_kind 39 = .ok (.istore 5, 2) := by decide +kernel
theorem dX8_kind_41 : decode cX8_kind 41 = .ok (.iconst 0, 1) := by decide +kernel
theorem dX8_kind_42 : decode cX8_kind 42 = .ok (.istore 6, 2) := by decide +kernel
theorem dX8_kind_44 : decode cX8_kind 44 = .ok (.iload 6, 2) := by decide +kernel
theorem dX8_kind_46 : decode cX8_kind 46 = .ok (.bipush 6, 2) := by decide +kernel
theorem dX8_kind_48 : decode cX8_kind 48 = .ok (.if_icmp .ge 54, 3) := by decide +kernel
theorem dX8_kind_51 : decode cX8_kind 51 = .ok (.aload_n 0, 1) := by decide +kernel
theorem dX8_kind_52 : decode cX8_kind 52 = .ok (.aload_n 0, 1) := by decide +kernel
theorem dX8_kind_53 : decode cX8_kind 53 = .ok (.getfield 10, 3) := by decide +kernel
theorem dX8_kind_56 : decode cX8_kind 56 = .ok (.getfield 128, 3) := by decide +kernel
theorem dX8_kind_59 : decode cX8_kind 59 = .ok (.iload_n 1, 1) := by decide +kernel
theorem dX8_kind_60 : decode cX8_kind 60 = .ok (.aaload, 1) := by decide +kernel
theorem dX8_kind_61 : decode cX8_kind 61 = .ok (.iload 6, 2) := by decide +kernel
theorem dX8_kind_63 : decode cX8_kind 63 = .ok (.aload_n 0, 1) := by decide +kernel
theorem dX8_kind_64 : decode cX8_kind 64 = .ok (.getfield 10, 3) := by decide +kernel
theorem dX8_kind_67 : decode cX8_kind 67 = .ok (.getfield 91, 3) := by decide +kernel
theorem dX8_kind_70 : decode cX8_kind 70 = .ok (.getfield 94, 3) := by decide +kernel
theorem dX8_kind_73 : decode cX8_kind 73 = .ok (.iload_n 2, 1) := by decide +kernel
theorem dX8_kind_74 : decode cX8_kind 74 = .ok (.aaload, 1) := by decide +kernel
theorem dX8_kind_75 : decode cX8_kind 75 = .ok (.iload_n 3, 1) := by decide +kernel
theorem dX8_kind_76 : decode cX8_kind 76 = .ok (.invokevirtual 194, 3) := by decide +kernel
theorem dX8_kind_79 : decode cX8_kind 79 = .ok (.istore 7, 2) := by decide +kernel
theorem dX8_kind_81 : decode cX8_kind 81 = .ok (.iload 7, 2) := by decide +kernel
theorem dX8_kind_83 : decode cX8_kind 83 = .ok (.iload 5, 2) := by decide +kernel
theorem dX8_kind_85 : decode cX8_kind 85 = .ok (.if_icmp .le 11, 3) := by decide +kernel
theorem dX8_kind_88 : decode cX8_kind 88 = .ok (.iload 7, 2) := by decide +kernel
theorem dX8_kind_90 : decode cX8_kind 90 = .ok (.istore 5, 2) := by decide +kernel
theorem dX8_kind_92 : decode cX8_kind 92 = .ok (.iload 6, 2) := by decide +kernel
theorem dX8_kind_94 : decode cX8_kind 94 = .ok (.istore 4, 2) := by decide +kernel
theorem dX8_kind_96 : decode cX8_kind 96 = .ok (.iinc 6 1, 3) := by decide +kernel
theorem dX8_kind_99 : decode cX8_kind 99 = .ok (.goto (-55), 3) := by decide +kernel
theorem dX8_kind_102 : decode cX8_kind 102 = .ok (.iload 4, 2) := by decide +kernel
theorem dX8_kind_104 : decode cX8_kind 104 = .ok (.ireturn, 1) := by decide +kernel
set_option maxRecDepth 20000 in
theorem ggX8_fires_X8_within : GoodIn wsX8_fires wsX8_within := goodIn_r _ [12] (by decide +kernel) (by decide +kernel)
set_option maxRecDepth 20000 in
theorem gX8_fires_X8_within : GoodIn wsX8_fires (va_wsS RX8 82 yX8_within wsX8_within) := goodIn_app (goodIn_of _ (by decide +kernel)) ggX8_fires_X8_within
set_option maxRecDepth 20000 in
theorem ggX8_fires_X8_finding : GoodIn wsX8_fires wsX8_finding := goodIn_r _ [16, 1, 17, 9, 10, 11, 12, 70, 71, 72, 73, 74, 75, 76, 77, 78, 79, 80] (by decide +kernel) (by decide +kernel)
set_option maxRecDepth 20000 in
theorem gX8_fires_X8_finding : GoodIn wsX8_fires (wsV RX8 87 RX8 yX8_finding wsX8_finding) := goodIn_app (goodIn_of _ (by decide +kernel)) ggX8_fires_X8_finding
set_option maxRecDepth 20000 in
theorem ggX8_fires_X7_become : GoodIn wsX8_fires wsX7_become := goodIn_r _ [22, 23, 24, 25, 26, 27, 28, 29, 30, 31, 32, 33, 34, 35, 84, 85, 86, 87, 88, 89, 90, 91] (by decide +kernel) (by decide +kernel)
set_option maxRecDepth 20000 in
theorem gX8_fires_X7_become : GoodIn wsX8_fires (wsV RX8 190 RX7 yX7_become wsX7_become) := goodIn_app (goodIn_of _ (by decide +kernel)) ggX8_fires_X7_become
set_option maxRecDepth 20000 in
theorem ggX8_fires_X7_light : GoodIn wsX8_fires wsX7_light := goodIn_r _ [39, 23, 40, 84, 85, 86, 87, 88, 89, 90, 91] (by decide +kernel) (by decide +kernel)
set_option maxRecDepth 20000 in
theorem gX8_fires_X7_light : GoodIn wsX8_fires (wsV RX8 215 RX7 yX7_light wsX7_light) := goodIn_app (goodIn_of _ (by decide +kernel)) ggX8_fires_X7_light
set_option maxRecDepth 20000 in
theorem ggX8_fires_X7_pass : GoodIn wsX8_fires wsX7_pass := goodIn_r _ [44, 23, 26, 45, 46, 47, 21, 48, 40, 24, 25, 49, 50, 51, 30, 52, 33, 53, 54, 55, 56, 57, 58, 59, 60, 61, 62, 63, 84, 85, 86, 87, 88, 89, 90, 91] (by decide +kernel) (by decide +kernel)
set_option maxRecDepth 20000 in
theorem gX8_fires_X7_pass : GoodIn wsX8_fires (wsV RX8 183 RX7 yX7_pass wsX7_pass) := goodIn_app (goodIn_of _ (by decide +kernel)) ggX8_fires_X7_pass
set_option maxRecDepth 20000 in
theorem ggX8_fires_X7_coldest : GoodIn wsX8_fires wsX7_coldest := goodIn_r _ [67, 23, 68, 69, 54, 55, 56, 84, 85, 86, 87, 88, 89, 90, 91] (by decide +kernel) (by decide +kernel)
set_option maxRecDepth 20000 in
theorem gX8_fires_X7_coldest : GoodIn wsX8_fires (wsV RX8 218 RX7 yX7_coldest wsX7_coldest) := goodIn_app (goodIn_of _ (by decide +kernel)) ggX8_fires_X7_coldest
theorem dX8_fires_0 : decode cX8_fires 0 = .ok (.iload_n 1, 1) := by decide +kernel
theorem dX8_fires_1 : decode cX8_fires 1 = .ok (.iconst 0, 1) := by decide +kernel
theorem dX8_fires_2 : decode cX8_fires 2 = .ok (.bipush 99, 2) := by decide +kernel
theorem dX8_fires_4 : decode cX8_fires 4 = .ok (.invokestatic 82, 3) := by decide +kernel
theorem dX8_fires_7 : decode cX8_fires 7 = .ok (.ifCond .eq 13, 3) := by decide +kernel
theorem dX8_fires_10 : decode cX8_fires 10 = .ok (.iload_n 2, 1) := by decide +kernel
theorem dX8_fires_11 : decode cX8_fires 11 = .ok (.iconst 1, 1) := by decide +kernel
theorem dX8_fires_12 : decode cX8_fires 12 = .ok (.bipush 100, 2) := by decide +kernel
theorem dX8_fires_14 : decode cX8_fires 14 = .ok (.invokestatic 82, 3) := by decide +kernel
theorem dX8_fires_17 : decode cX8_fires 17 = .ok (.ifCond .ne 10, 3) := by decide +kernel
theorem dX8_fires_20 : decode cX8_fires 20 = .ok (.aload_n 0, 1) := by decide +kernel
theorem dX8_fires_21 : decode cX8_fires 21 = .ok (.ldc 86, 2) := by decide +kernel
theorem dX8_fires_23 : decode cX8_fires 23 = .ok (.invokevirtual 87, 3) := by decide +kernel
theorem dX8_fires_26 : decode cX8_fires 26 = .ok (.ireturn, 1) := by decide +kernel
theorem dX8_fires_27 : decode cX8_fires 27 = .ok (.aload_n 0, 1) := by decide +kernel
theorem dX8_fires_28 : decode cX8_fires 28 = .ok (.getfield 10, 3) := by decide +kernel
theorem dX8_fires_31 : decode cX8_fires 31 = .ok (.getfield 91, 3) := by decide +kernel
theorem dX8_fires_34 : decode cX8_fires 34 = .ok (.getfield 180, 3) := by decide +kernel
theorem dX8_fires_37 : decode cX8_fires 37 = .ok (.iload_n 2, 1) := by decide +kernel
theorem dX8_fires_38 : decode cX8_fires 38 = .ok (.iadd, 1) := by decide +kernel
theorem dX8_fires_39 : decode cX8_fires 39 = .ok (.sipush 9999, 3) := by decide +kernel
theorem dX8_fires_42 : decode cX8_fires 42 = .ok (.if_icmp .le 10, 3) := by decide +kernel
theorem dX8_fires_45 : decode cX8_fires 45 = .ok (.aload_n 0, 1) := by decide +kernel
theorem dX8_fires_46 : decode cX8_fires 46 = .ok (.ldc 165, 2) := by decide +kernel
theorem dX8_fires_48 : decode cX8_fires 48 = .ok (.invokevirtual 87, 3) := by decide +kernel
theorem dX8_fires_51 : decode cX8_fires 51 = .ok (.ireturn, 1) := by decide +kernel
theorem dX8_fires_52 : decode cX8_fires 52 = .ok (.iconst (-1), 1) := by decide +kernel
theorem dX8_fires_53 : decode cX8_fires 53 = .ok (.istore_n 3, 1) := by decide +kernel
theorem dX8_fires_54 : decode cX8_fires 54 = .ok (.iconst (-1), 1) := by decide +kernel
theorem dX8_fires_55 : decode cX8_fires 55 = .ok (.istore 4, 2) := by decide +kernel
theorem dX8_fires_57 : decode cX8_fires 57 = .ok (.iconst 0, 1) := by decide +kernel
theorem dX8_fires_58 : decode cX8_fires 58 = .ok (.istore 5, 2) := by decide +kernel
theorem dX8_fires_60 : decode cX8_fires 60 = .ok (.iload 5, 2) := by decide +kernel
theorem dX8_fires_62 : decode cX8_fires 62 = .ok (.bipush 16, 2) := by decide +kernel
theorem dX8_fires_64 : decode cX8_fires 64 = .ok (.if_icmp .ge 75, 3) := by decide +kernel
theorem dX8_fires_67 : decode cX8_fires 67 = .ok (.aload_n 0, 1) := by decide +kernel
theorem dX8_fires_68 : decode cX8_fires 68 = .ok (.getfield 26, 3) := by decide +kernel
theorem dX8_fires_71 : decode cX8_fires 71 = .ok (.aload_n 0, 1) := by decide +kernel
theorem dX8_fires_72 : decode cX8_fires 72 = .ok (.getfield 10, 3) := by decide +kernel
theorem dX8_fires_75 : decode cX8_fires 75 = .ok (.getfield 91, 3) := by decide +kernel
theorem dX8_fires_78 : decode cX8_fires 78 = .ok (.invokevirtual 190, 3) := by decide +kernel
theorem dX8_fires_81 : decode cX8_fires 81 = .ok (.aload_n 0, 1) := by decide +kernel
theorem dX8_fires_82 : decode cX8_fires 82 = .ok (.getfield 26, 3) := by decide +kernel
theorem dX8_fires_85 : decode cX8_fires 85 = .ok (.iload 5, 2) := by decide +kernel
theorem dX8_fires_87 : decode cX8_fires 87 = .ok (.invokevirtual 215, 3) := by decide +kernel
theorem dX8_fires_90 : decode cX8_fires 90 = .ok (.aload_n 0, 1) := by decide +kernel
theorem dX8_fires_91 : decode cX8_fires 91 = .ok (.getfield 26, 3) := by decide +kernel
theorem dX8_fires_94 : decode cX8_fires 94 = .ok (.iload_n 2, 1) := by decide +kernel
theorem dX8_fires_95 : decode cX8_fires 95 = .ok (.invokevirtual 183, 3) := by decide +kernel
theorem dX8_fires_98 : decode cX8_fires 98 = .ok (.aload_n 0, 1) := by decide +kernel
theorem dX8_fires_99 : decode cX8_fires 99 = .ok (.getfield 26, 3) := by decide +kernel
theorem dX8_fires_102 : decode cX8_fires 102 = .ok (.invokevirtual 218, 3) := by decide +kernel
theorem dX8_fires_105 : decode cX8_fires 105 = .ok (.iload_n 1, 1) := by decide +kernel
theorem dX8_fires_106 : decode cX8_fires 106 = .ok (.if_icmp .lt 27, 3) := by decide +kernel
theorem dX8_fires_109 : decode cX8_fires 109 = .ok (.aload_n 0, 1) := by decide +kernel
theorem dX8_fires_110 : decode cX8_fires 110 = .ok (.getfield 26, 3) := by decide +kernel
theorem dX8_fires_113 : decode cX8_fires 113 = .ok (.getfield 108, 3) := by decide +kernel
theorem dX8_fires_116 : decode cX8_fires 116 = .ok (.iload 4, 2) := by decide +kernel
theorem dX8_fires_118 : decode cX8_fires 118 = .ok (.if_icmp .le 15, 3) := by decide +kernel
theorem dX8_fires_121 : decode cX8_fires 121 = .ok (.aload_n 0, 1) := by decide +kernel
theorem dX8_fires_122 : decode cX8_fires 122 = .ok (.getfield 26, 3) := by decide +kernel
theorem dX8_fires_125 : decode cX8_fires 125 = .ok (.getfield 108, 3) := by decide +kernel
theorem dX8_fires_128 : decode cX8_fires 128 = .ok (.istore 4, 2) := by decide +kernel
theorem dX8_fires_130 : decode cX8_fires 130 = .ok (.iload 5, 2) := by decide +kernel
theorem dX8_fires_132 : decode cX8_fires 132 = .ok (.istore_n 3, 1) := by decide +kernel
theorem dX8_fires_133 : decode cX8_fires 133 = .ok (.iinc 5 1, 3) := by decide +kernel
theorem dX8_fires_136 : decode cX8_fires 136 = .ok (.goto (-76), 3) := by decide +kernel
theorem dX8_fires_139 : decode cX8_fires 139 = .ok (.iload_n 3, 1) := by decide +kernel
theorem dX8_fires_140 : decode cX8_fires 140 = .ok (.ifCond .ge 10, 3) := by decide +kernel
theorem dX8_fires_143 : decode cX8_fires 143 = .ok (.aload_n 0, 1) := by decide +kernel
theorem dX8_fires_144 : decode cX8_fires 144 = .ok (.ldc 146, 2) := by decide +kernel
theorem dX8_fires_146 : decode cX8_fires 146 = .ok (.invokevirtual 87, 3) := by decide +kernel
theorem dX8_fires_149 : decode cX8_fires 149 = .ok (.ireturn, 1) := by decide +kernel
theorem dX8_fires_150 : decode cX8_fires 150 = .ok (.iload_n 3, 1) := by decide +kernel
theorem dX8_fires_151 : decode cX8_fires 151 = .ok (.ireturn, 1) := by decide +kernel
set_option maxRecDepth 20000 in
theorem ggX8_enough_X8_within : GoodIn wsX8_enough wsX8_within := goodIn_r _ [8] (by decide +kernel) (by decide +kernel)
set_option maxRecDepth 20000 in
theorem gX8_enough_X8_within : GoodIn wsX8_enough (va_wsS RX8 82 yX8_within wsX8_within) := goodIn_app (goodIn_of _ (by decide +kernel)) ggX8_enough_X8_within
set_option maxRecDepth 20000 in
theorem ggX8_enough_X8_finding : GoodIn wsX8_enough wsX8_finding := goodIn_r _ [12, 1, 13, 5, 6, 7, 8, 26, 27, 28, 29, 30, 31, 32, 33, 34, 35, 36] (by decide +kernel) (by decide +kernel)
set_option maxRecDepth 20000 in
theorem gX8_enough_X8_finding : GoodIn wsX8_enough (wsV RX8 87 RX8 yX8_finding wsX8_finding) := goodIn_app (goodIn_of _ (by decide +kernel)) ggX8_enough_X8_finding
set_option maxRecDepth 20000 in
theorem ggX8_enough_X0_minutes : GoodIn wsX8_enough wsX0_minutes := goodIn_r _ [18, 19, 20, 21, 22, 23, 24, 25, 40, 41, 42, 43, 44] (by decide +kernel) (by decide +kernel)
set_option maxRecDepth 20000 in
theorem gX8_enough_X0_minutes : GoodIn wsX8_enough (wsV RX8 143 RX0 yX0_minutes wsX0_minutes) := goodIn_app (goodIn_of _ (by decide +kernel)) ggX8_enough_X0_minutes
theorem dX8_enough_0 : decode cX8_enough 0 = .ok (.iload_n 1, 1) := by decide +kernel
theorem dX8_enough_1 : decode cX8_enough 1 = .ok (.iconst 0, 1) := by decide +kernel
theorem dX8_enough_2 : decode cX8_enough 2 = .ok (.sipush 9999, 3) := by decide +kernel
theorem dX8_enough_5 : decode cX8_enough 5 = .ok (.invokestatic 82, 3) := by decide +kernel
theorem dX8_enough_8 : decode cX8_enough 8 = .ok (.ifCond .ne 10, 3) := by decide +kernel
theorem dX8_enough_11 : decode cX8_enough 11 = .ok (.aload_n 0, 1) := by decide +kernel
theorem dX8_enough_12 : decode cX8_enough 12 = .ok (.ldc 86, 2) := by decide +kernel
theorem dX8_enough_14 : decode cX8_enough 14 = .ok (.invokevirtual 87, 3) := by decide +kernel
theorem dX8_enough_17 : decode cX8_enough 17 = .ok (.ireturn, 1) := by decide +kernel
theorem dX8_enough_18 : decode cX8_enough 18 = .ok (.iconst 0, 1) := by decide +kernel
theorem dX8_enough_19 : decode cX8_enough 19 = .ok (.istore_n 2, 1) := by decide +kernel
theorem dX8_enough_20 : decode cX8_enough 20 = .ok (.iconst 0, 1) := by decide +kernel
theorem dX8_enough_21 : decode cX8_enough 21 = .ok (.istore_n 3, 1) := by decide +kernel
theorem dX8_enough_22 : decode cX8_enough 22 = .ok (.iload_n 3, 1) := by decide +kernel
theorem dX8_enough_23 : decode cX8_enough 23 = .ok (.aload_n 0, 1) := by decide +kernel
theorem dX8_enough_24 : decode cX8_enough 24 = .ok (.getfield 10, 3) := by decide +kernel
theorem dX8_enough_27 : decode cX8_enough 27 = .ok (.getfield 122, 3) := by decide +kernel
theorem dX8_enough_30 : decode cX8_enough 30 = .ok (.if_icmp .ge 31, 3) := by decide +kernel
theorem dX8_enough_33 : decode cX8_enough 33 = .ok (.aload_n 0, 1) := by decide +kernel
theorem dX8_enough_34 : decode cX8_enough 34 = .ok (.getfield 10, 3) := by decide +kernel
theorem dX8_enough_37 : decode cX8_enough 37 = .ok (.getfield 128, 3) := by decide +kernel
theorem dX8_enough_40 : decode cX8_enough 40 = .ok (.iload_n 3, 1) := by decide +kernel
theorem dX8_enough_41 : decode cX8_enough 41 = .ok (.aaload, 1) := by decide +kernel
theorem dX8_enough_42 : decode cX8_enough 42 = .ok (.invokevirtual 143, 3) := by decide +kernel
theorem dX8_enough_45 : decode cX8_enough 45 = .ok (.iload_n 1, 1) := by decide +kernel
theorem dX8_enough_46 : decode cX8_enough 46 = .ok (.if_icmp .lt 9, 3) := by decide +kernel
theorem dX8_enough_49 : decode cX8_enough 49 = .ok (.iload_n 2, 1) := by decide +kernel
theorem dX8_enough_50 : decode cX8_enough 50 = .ok (.iconst 1, 1) := by decide +kernel
theorem dX8_enough_51 : decode cX8_enough 51 = .ok (.iload_n 3, 1) := by decide +kernel
theorem dX8_enough_52 : decode cX8_enough 52 = .ok (.ishl, 1) := by decide +kernel
theorem dX8_enough_53 : decode cX8_enough 53 = .ok (.ior, 1) := by decide +kernel
theorem dX8_enough_54 : decode cX8_enough 54 = .ok (.istore_n 2, 1) := by decide +kernel
theorem dX8_enough_55 : decode cX8_enough 55 = .ok (.iinc 3 1, 3) := by decide +kernel
theorem dX8_enough_58 : decode cX8_enough 58 = .ok (.goto (-36), 3) := by decide +kernel
theorem dX8_enough_61 : decode cX8_enough 61 = .ok (.iload_n 2, 1) := by decide +kernel
theorem dX8_enough_62 : decode cX8_enough 62 = .ok (.ireturn, 1) := by decide +kernel
set_option maxRecDepth 20000 in
theorem ggX8_feed_X8_within : GoodIn wsX8_feed wsX8_within := goodIn_r _ [8] (by decide +kernel) (by decide +kernel)
set_option maxRecDepth 20000 in
theorem gX8_feed_X8_within : GoodIn wsX8_feed (va_wsS RX8 82 yX8_within wsX8_within) := goodIn_app (goodIn_of _ (by decide +kernel)) ggX8_feed_X8_within
set_option maxRecDepth 20000 in
theorem ggX8_feed_X8_finding : GoodIn wsX8_feed wsX8_finding := goodIn_r _ [12, 1, 13, 5, 6, 7, 8, 21, 22, 23, 24, 25, 26, 27, 28, 29, 30, 31] (by decide +kernel) (by decide +kernel)
set_option maxRecDepth 20000 in
theorem gX8_feed_X8_finding : GoodIn wsX8_feed (wsV RX8 87 RX8 yX8_finding wsX8_finding) := goodIn_app (goodIn_of _ (by decide +kernel)) ggX8_feed_X8_finding
set_option maxRecDepth 20000 in
theorem ggX8_feed_X4_append : GoodIn wsX8_feed wsX4_append := goodIn_r _ [18, 19, 20, 32, 33] (by decide +kernel) (by decide +kernel)
set_option maxRecDepth 20000 in
theorem gX8_feed_X4_append : GoodIn wsX8_feed (wsV RX8 224 RX4 yX4_append wsX4_append) := goodIn_app (goodIn_of _ (by decide +kernel)) ggX8_feed_X4_append
theorem dX8_feed_0 : decode cX8_feed 0 = .ok (.iload_n 2, 1) := by decide +kernel
theorem dX8_feed_1 : decode cX8_feed 1 = .ok (.iconst 1, 1) := by decide +kernel
theorem dX8_feed_2 : decode cX8_feed 2 = .ok (.iconst 4, 1) := by decide +kernel
theorem dX8_feed_3 : decode cX8_feed 3 = .ok (.invokestatic 82, 3) := by decide +kernel
theorem dX8_feed_6 : decode cX8_feed 6 = .ok (.ifCond .ne 10, 3) := by decide +kernel
theorem dX8_feed_9 : decode cX8_feed 9 = .ok (.aload_n 0, 1) := by decide +kernel
theorem dX8_feed_10 : decode cX8_feed 10 = .ok (.ldc 86, 2) := by decide +kernel
theorem dX8_feed_12 : decode cX8_feed 12 = .ok (.invokevirtual 87, 3) := by decide +kernel
theorem dX8_feed_15 : decode cX8_feed 15 = .ok (.ireturn, 1) := by decide +kernel
theorem dX8_feed_16 : decode cX8_feed 16 = .ok (.aload_n 0, 1) := by decide +kernel
theorem dX8_feed_17 : decode cX8_feed 17 = .ok (.getfield 54, 3) := by decide +kernel
theorem dX8_feed_20 : decode cX8_feed 20 = .ok (.getfield 221, 3) := by decide +kernel
theorem dX8_feed_23 : decode cX8_feed 23 = .ok (.iload_n 2, 1) := by decide +kernel
theorem dX8_feed_24 : decode cX8_feed 24 = .ok (.iadd, 1) := by decide +kernel
theorem dX8_feed_25 : decode cX8_feed 25 = .ok (.bipush 120, 2) := by decide +kernel
theorem dX8_feed_27 : decode cX8_feed 27 = .ok (.if_icmp .le 10, 3) := by decide +kernel
theorem dX8_feed_30 : decode cX8_feed 30 = .ok (.aload_n 0, 1) := by decide +kernel
theorem dX8_feed_31 : decode cX8_feed 31 = .ok (.ldc 121, 2) := by decide +kernel
theorem dX8_feed_33 : decode cX8_feed 33 = .ok (.invokevirtual 87, 3) := by decide +kernel
theorem dX8_feed_36 : decode cX8_feed 36 = .ok (.ireturn, 1) := by decide +kernel
theorem dX8_feed_37 : decode cX8_feed 37 = .ok (.iload_n 2, 1) := by decide +kernel
theorem dX8_feed_38 : decode cX8_feed 38 = .ok (.iconst 1, 1) := by decide +kernel
theorem dX8_feed_39 : decode cX8_feed 39 = .ok (.isub, 1) := by decide +kernel
theorem dX8_feed_40 : decode cX8_feed 40 = .ok (.istore_n 3, 1) := by decide +kernel
theorem dX8_feed_41 : decode cX8_feed 41 = .ok (.iload_n 3, 1) := by decide +kernel
theorem dX8_feed_42 : decode cX8_feed 42 = .ok (.ifCond .lt 26, 3) := by decide +kernel
theorem dX8_feed_45 : decode cX8_feed 45 = .ok (.aload_n 0, 1) := by decide +kernel
theorem dX8_feed_46 : decode cX8_feed 46 = .ok (.getfield 54, 3) := by decide +kernel
theorem dX8_feed_49 : decode cX8_feed 49 = .ok (.iload_n 1, 1) := by decide +kernel
theorem dX8_feed_50 : decode cX8_feed 50 = .ok (.bipush 8, 2) := by decide +kernel
theorem dX8_feed_52 : decode cX8_feed 52 = .ok (.iload_n 3, 1) := by decide +kernel
theorem dX8_feed_53 : decode cX8_feed 53 = .ok (.imul, 1) := by decide +kernel
theorem dX8_feed_54 : decode cX8_feed 54 = .ok (.ishr, 1) := by decide +kernel
theorem dX8_feed_55 : decode cX8_feed 55 = .ok (.sipush 255, 3) := by decide +kernel
theorem dX8_feed_58 : decode cX8_feed 58 = .ok (.iand, 1) := by decide +kernel
theorem dX8_feed_59 : decode cX8_feed 59 = .ok (.invokevirtual 224, 3) := by decide +kernel
theorem dX8_feed_62 : decode cX8_feed 62 = .ok (.iinc 3 (-1), 3) := by decide +kernel
theorem dX8_feed_65 : decode cX8_feed 65 = .ok (.goto (-24), 3) := by decide +kernel
theorem dX8_feed_68 : decode cX8_feed 68 = .ok (.aload_n 0, 1) := by decide +kernel
theorem dX8_feed_69 : decode cX8_feed 69 = .ok (.getfield 54, 3) := by decide +kernel
theorem dX8_feed_72 : decode cX8_feed 72 = .ok (.getfield 221, 3) := by decide +kernel
theorem dX8_feed_75 : decode cX8_feed 75 = .ok (.ireturn, 1) := by decide +kernel
theorem dX8_wipe_0 : decode cX8_wipe 0 = .ok (.aload_n 0, 1) := by decide +kernel
theorem dX8_wipe_1 : decode cX8_wipe 1 = .ok (.getfield 54, 3) := by decide +kernel
theorem dX8_wipe_4 : decode cX8_wipe 4 = .ok (.getfield 221, 3) := by decide +kernel
theorem dX8_wipe_7 : decode cX8_wipe 7 = .ok (.istore_n 1, 1) := by decide +kernel
theorem dX8_wipe_8 : decode cX8_wipe 8 = .ok (.aload_n 0, 1) := by decide +kernel
theorem dX8_wipe_9 : decode cX8_wipe 9 = .ok (.getfield 54, 3) := by decide +kernel
theorem dX8_wipe_12 : decode cX8_wipe 12 = .ok (.iconst 0, 1) := by decide +kernel
theorem dX8_wipe_13 : decode cX8_wipe 13 = .ok (.putfield 221, 3) := by decide +kernel
theorem dX8_wipe_16 : decode cX8_wipe 16 = .ok (.iload_n 1, 1) := by decide +kernel
theorem dX8_wipe_17 : decode cX8_wipe 17 = .ok (.ireturn, 1) := by decide +kernel
set_option maxRecDepth 20000 in
theorem ggX8_text_X5_tell : GoodIn wsX8_text wsX5_tell := goodIn_r _ [10, 11, 12, 13, 14, 15, 16, 17, 18, 19, 20, 21, 22, 23, 24, 25, 26, 27, 28, 29, 30, 31, 32, 33, 34, 35, 36, 37, 38, 39, 40, 41, 42, 43, 44, 45, 46, 47, 48, 49, 50, 51, 52, 53, 54, 55, 56, 57, 9, 58, 59, 60, 61, 62, 63, 64, 65, 66, 67, 68, 69, 70, 71, 72, 73, 74, 75, 76, 77, 78, 79, 80, 81, 82, 83, 84, 85, 86, 87, 88, 89, 90, 91, 92, 93, 94, 95, 96, 97, 98, 99, 100, 101, 102, 103, 104, 105, 106, 107, 108, 109, 110, 111, 112, 113, 114, 115, 116, 117, 118, 119, 120, 121, 122, 123, 124, 125, 126, 127, 128, 129, 130, 131, 132, 133, 134, 135, 136, 137, 138, 139, 140, 141, 142, 143, 144, 145, 146, 147, 148, 149, 150, 151, 152, 153, 154, 155, 156, 157, 158, 159, 160, 161, 162, 163, 164, 165, 166, 167, 168, 169, 170, 171, 172, 173, 174, 175, 176, 177, 178, 179, 180, 181, 182, 183, 184, 185, 186, 187, 188, 189, 190, 191, 192, 193, 194, 195, 196, 197, 198, 199, 200, 201, 202, 203, 204, 205, 206, 207, 208, 209, 210, 211, 212, 213, 214, 215, 216, 217, 218, 219, 220, 221, 222, 223, 224, 225, 226, 227, 228, 229, 230, 231, 232, 233, 234, 235, 236, 237, 238, 239, 240, 241, 242, 243, 244, 245, 258, 259, 260, 261, 262, 263, 266, 267, 268, 269, 270, 271, 272, 273, 274, 275, 276, 277, 278, 279, 280, 281, 264, 265] (by decide +kernel) (by decide +kernel)
set_option maxRecDepth 20000 in
theorem gX8_text_X5_tell : GoodIn wsX8_text (wsV RX8 227 RX5 yX5_tell wsX5_tell) := goodIn_app (goodIn_of _ (by decide +kernel)) ggX8_text_X5_tell
set_option maxRecDepth 20000 in
theorem ggX8_text_X1_become : GoodIn wsX8_text wsX1_become := goodIn_r _ [19, 20, 21, 22, 23, 24, 25, 26, 27, 28, 29, 30, 31, 32, 33, 34, 35, 36, 37, 38, 39, 40, 41, 42, 43, 44, 45, 46, 47, 48, 49, 50, 51, 52, 53, 54, 266, 267, 268, 269, 270, 271, 272, 273, 274, 275, 276, 277, 278, 279, 280, 281] (by decide +kernel) (by decide +kernel)
set_option maxRecDepth 20000 in
theorem gX8_text_X1_become : GoodIn wsX8_text (wsV RX8 234 RX1 yX1_become wsX1_become) := goodIn_app (goodIn_of _ (by decide +kernel)) ggX8_text_X1_become
theorem dX8_text_0 : decode cX8_text 0 = .ok (.aload_n 0, 1) := by decide +kernel
theorem dX8_text_1 : decode cX8_text 1 = .ok (.getfield 63, 3) := by decide +kernel
theorem dX8_text_4 : decode cX8_text 4 = .ok (.aload_n 0, 1) := by decide +kernel
theorem dX8_text_5 : decode cX8_text 5 = .ok (.getfield 10, 3) := by decide +kernel
theorem dX8_text_8 : decode cX8_text 8 = .ok (.invokevirtual 227, 3) := by decide +kernel
theorem dX8_text_11 : decode cX8_text 11 = .ok (.istore_n 1, 1) := by decide +kernel
theorem dX8_text_12 : decode cX8_text 12 = .ok (.iload_n 1, 1) := by decide +kernel
theorem dX8_text_13 : decode cX8_text 13 = .ok (.ifCond .lt 17, 3) := by decide +kernel
theorem dX8_text_16 : decode cX8_text 16 = .ok (.aload_n 0, 1) := by decide +kernel
theorem dX8_text_17 : decode cX8_text 17 = .ok (.getfield 10, 3) := by decide +kernel
theorem dX8_text_20 : decode cX8_text 20 = .ok (.aload_n 0, 1) := by decide +kernel
theorem dX8_text_21 : decode cX8_text 21 = .ok (.getfield 63, 3) := by decide +kernel
theorem dX8_text_24 : decode cX8_text 24 = .ok (.getfield 231, 3) := by decide +kernel
theorem dX8_text_27 : decode cX8_text 27 = .ok (.invokevirtual 234, 3) := by decide +kernel
theorem dX8_text_30 : decode cX8_text 30 = .ok (.aload_n 0, 1) := by decide +kernel
theorem dX8_text_31 : decode cX8_text 31 = .ok (.getfield 54, 3) := by decide +kernel
theorem dX8_text_34 : decode cX8_text 34 = .ok (.iconst 0, 1) := by decide +kernel
theorem dX8_text_35 : decode cX8_text 35 = .ok (.putfield 221, 3) := by decide +kernel
theorem dX8_text_38 : decode cX8_text 38 = .ok (.iload_n 1, 1) := by decide +kernel
theorem dX8_text_39 : decode cX8_text 39 = .ok (.ireturn, 1) := by decide +kernel
set_option maxRecDepth 20000 in
theorem ggX8_sheet_X8_isSheet : GoodIn wsX8_sheet wsX8_isSheet := goodIn_r _ [8, 9, 10, 7, 11] (by decide +kernel) (by decide +kernel)
set_option maxRecDepth 20000 in
theorem gX8_sheet_X8_isSheet : GoodIn wsX8_sheet (va_wsS RX8 237 yX8_isSheet wsX8_isSheet) := goodIn_app (goodIn_of _ (by decide +kernel)) ggX8_sheet_X8_isSheet
set_option maxRecDepth 20000 in
theorem ggX8_sheet_X8_finding : GoodIn wsX8_sheet wsX8_finding := goodIn_r _ [15, 1, 16, 9, 10, 7, 11, 29, 30, 31, 32, 33, 34, 35, 36, 37, 38, 39] (by decide +kernel) (by decide +kernel)
set_option maxRecDepth 20000 in
theorem gX8_sheet_X8_finding : GoodIn wsX8_sheet (wsV RX8 87 RX8 yX8_finding wsX8_finding) := goodIn_app (goodIn_of _ (by decide +kernel)) ggX8_sheet_X8_finding
set_option maxRecDepth 20000 in
theorem ggX8_sheet_X3_lay : GoodIn wsX8_sheet wsX3_lay := goodIn_r _ [21, 22, 23, 24, 25, 26, 27, 28, 40, 41, 42] (by decide +kernel) (by decide +kernel)
set_option maxRecDepth 20000 in
theorem gX8_sheet_X3_lay : GoodIn wsX8_sheet (wsV RX8 241 RX3 yX3_lay wsX3_lay) := goodIn_app (goodIn_of _ (by decide +kernel)) ggX8_sheet_X3_lay
theorem dX8_sheet_0 : decode cX8_sheet 0 = .ok (.iload_n 1, 1) := by decide +kernel
theorem dX8_sheet_1 : decode cX8_sheet 1 = .ok (.invokestatic 237, 3) := by decide +kernel
theorem dX8_sheet_4 : decode cX8_sheet 4 = .ok (.ifCond .eq 25, 3) := by decide +kernel
theorem dX8_sheet_7 : decode cX8_sheet 7 = .ok (.iload_n 2, 1) := by decide +kernel
theorem dX8_sheet_8 : decode cX8_sheet 8 = .ok (.ifCond .eq 28, 3) := by decide +kernel
theorem dX8_sheet_11 : decode cX8_sheet 11 = .ok (.iload_n 2, 1) := by decide +kernel
theorem dX8_sheet_12 : decode cX8_sheet 12 = .ok (.bipush 8, 2) := by decide +kernel
theorem dX8_sheet_14 : decode cX8_sheet 14 = .ok (.if_icmp .eq 22, 3) := by decide +kernel
theorem dX8_sheet_17 : decode cX8_sheet 17 = .ok (.iload_n 2, 1) := by decide +kernel
theorem dX8_sheet_18 : decode cX8_sheet 18 = .ok (.bipush 16, 2) := by decide +kernel
theorem dX8_sheet_20 : decode cX8_sheet 20 = .ok (.if_icmp .eq 16, 3) := by decide +kernel
theorem dX8_sheet_23 : decode cX8_sheet 23 = .ok (.iload_n 2, 1) := by decide +kernel
theorem dX8_sheet_24 : decode cX8_sheet 24 = .ok (.bipush 64, 2) := by decide +kernel
theorem dX8_sheet_26 : decode cX8_sheet 26 = .ok (.if_icmp .eq 10, 3) := by decide +kernel
theorem dX8_sheet_29 : decode cX8_sheet 29 = .ok (.aload_n 0, 1) := by decide +kernel
theorem dX8_sheet_30 : decode cX8_sheet 30 = .ok (.ldc 86, 2) := by decide +kernel
theorem dX8_sheet_32 : decode cX8_sheet 32 = .ok (.invokevirtual 87, 3) := by decide +kernel
theorem dX8_sheet_35 : decode cX8_sheet 35 = .ok (.ireturn, 1) := by decide +kernel
theorem dX8_sheet_36 : decode cX8_sheet 36 = .ok (.iload_n 3, 1) := by decide +kernel
theorem dX8_sheet_37 : decode cX8_sheet 37 = .ok (.ifCond .ge 10, 3) := by decide +kernel
theorem dX8_sheet_40 : decode cX8_sheet 40 = .ok (.aload_n 0, 1) := by decide +kernel
theorem dX8_sheet_41 : decode cX8_sheet 41 = .ok (.ldc 240, 2) := by decide +kernel
theorem dX8_sheet_43 : decode cX8_sheet 43 = .ok (.invokevirtual 87, 3) := by decide +kernel
theorem dX8_sheet_46 : decode cX8_sheet 46 = .ok (.ireturn, 1) := by decide +kernel
theorem dX8_sheet_47 : decode cX8_sheet 47 = .ok (.iload_n 3, 1) := by decide +kernel
theorem dX8_sheet_48 : decode cX8_sheet 48 = .ok (.bipush 40, 2) := by decide +kernel
theorem dX8_sheet_50 : decode cX8_sheet 50 = .ok (.if_icmp .le 10, 3) := by decide +kernel
theorem dX8_sheet_53 : decode cX8_sheet 53 = .ok (.aload_n 0, 1) := by decide +kernel
theorem dX8_sheet_54 : decode cX8_sheet 54 = .ok (.ldc 86, 2) := by decide +kernel
theorem dX8_sheet_56 : decode cX8_sheet 56 = .ok (.invokevirtual 87, 3) := by decide +kernel
theorem dX8_sheet_59 : decode cX8_sheet 59 = .ok (.ireturn, 1) := by decide +kernel
theorem dX8_sheet_60 : decode cX8_sheet 60 = .ok (.aload_n 0, 1) := by decide +kernel
theorem dX8_sheet_61 : decode cX8_sheet 61 = .ok (.getfield 69, 3) := by decide +kernel
theorem dX8_sheet_64 : decode cX8_sheet 64 = .ok (.iload_n 1, 1) := by decide +kernel
theorem dX8_sheet_65 : decode cX8_sheet 65 = .ok (.aaload, 1) := by decide +kernel
theorem dX8_sheet_66 : decode cX8_sheet 66 = .ok (.iload_n 2, 1) := by decide +kernel
theorem dX8_sheet_67 : decode cX8_sheet 67 = .ok (.iload_n 3, 1) := by decide +kernel
theorem dX8_sheet_68 : decode cX8_sheet 68 = .ok (.invokevirtual 241, 3) := by decide +kernel
theorem dX8_sheet_71 : decode cX8_sheet 71 = .ok (.aload_n 0, 1) := by decide +kernel
theorem dX8_sheet_72 : decode cX8_sheet 72 = .ok (.getfield 69, 3) := by decide +kernel
theorem dX8_sheet_75 : decode cX8_sheet 75 = .ok (.iload_n 1, 1) := by decide +kernel
theorem dX8_sheet_76 : decode cX8_sheet 76 = .ok (.aaload, 1) := by decide +kernel
theorem dX8_sheet_77 : decode cX8_sheet 77 = .ok (.getfield 244, 3) := by decide +kernel
theorem dX8_sheet_80 : decode cX8_sheet 80 = .ok (.ireturn, 1) := by decide +kernel
set_option maxRecDepth 20000 in
theorem ggX8_write_X8_isSheet : GoodIn wsX8_write wsX8_isSheet := goodIn_r _ [9, 10, 11, 8, 12] (by decide +kernel) (by decide +kernel)
set_option maxRecDepth 20000 in
theorem gX8_write_X8_isSheet : GoodIn wsX8_write (va_wsS RX8 237 yX8_isSheet wsX8_isSheet) := goodIn_app (goodIn_of _ (by decide +kernel)) ggX8_write_X8_isSheet
set_option maxRecDepth 20000 in
theorem ggX8_write_X8_finding : GoodIn wsX8_write wsX8_finding := goodIn_r _ [16, 1, 17, 10, 11, 8, 12, 30, 31, 32, 33, 34, 35, 36, 37, 38, 39, 40] (by decide +kernel) (by decide +kernel)
set_option maxRecDepth 20000 in
theorem gX8_write_X8_finding : GoodIn wsX8_write (wsV RX8 87 RX8 yX8_finding wsX8_finding) := goodIn_app (goodIn_of _ (by decide +kernel)) ggX8_write_X8_finding
set_option maxRecDepth 20000 in
theorem ggX8_write_X3_isMissing : GoodIn wsX8_write wsX3_isMissing := goodIn_r _ [22, 23, 41, 42, 43] (by decide +kernel) (by decide +kernel)
set_option maxRecDepth 20000 in
theorem gX8_write_X3_isMissing : GoodIn wsX8_write (wsV RX8 245 RX3 yX3_isMissing wsX3_isMissing) := goodIn_app (goodIn_of _ (by decide +kernel)) ggX8_write_X3_isMissing
set_option maxRecDepth 20000 in
theorem ggX8_write_X8_within : GoodIn wsX8_write wsX8_within := goodIn_r _ [12] (by decide +kernel) (by decide +kernel)
set_option maxRecDepth 20000 in
theorem gX8_write_X8_within : GoodIn wsX8_write (va_wsS RX8 82 yX8_within wsX8_within) := goodIn_app (goodIn_of _ (by decide +kernel)) ggX8_write_X8_within
set_option maxRecDepth 20000 in
theorem ggX8_write_X3_put : GoodIn wsX8_write wsX3_put := goodIn_r _ [27, 28, 23, 29, 11, 8, 12, 41, 42, 43] (by decide +kernel) (by decide +kernel)
set_option maxRecDepth 20000 in
theorem gX8_write_X3_put : GoodIn wsX8_write (wsV RX8 253 RX3 yX3_put wsX3_put) := goodIn_app (goodIn_of _ (by decide +kernel)) ggX8_write_X3_put
theorem dX8_write_0 : decode cX8_write 0 = .ok (.iload_n 1, 1) := by decide +kernel
theorem dX8_write_1 : decode cX8_write 1 = .ok (.invokestatic 237, 3) := by decide +kernel
theorem dX8_write_4 : decode cX8_write 4 = .ok (.ifCond .ne 11, 3) := by decide +kernel
theorem dX8_write_7 : decode cX8_write 7 = .ok (.aload_n 0, 1) := by decide +kernel
theorem dX8_write_8 : decode cX8_write 8 = .ok (.ldc 86, 2) := by decide +kernel
theorem dX8_write_10 : decode cX8_write 10 = .ok (.invokevirtual 87, 3) := by decide +kernel
theorem dX8_write_13 : decode cX8_write 13 = .ok (.i2l, 1) := by decide +kernel
theorem dX8_write_14 : decode cX8_write 14 = .ok (.lreturn, 1) := by decide +kernel
theorem dX8_write_15 : decode cX8_write 15 = .ok (.aload_n 0, 1) := by decide +kernel
theorem dX8_write_16 : decode cX8_write 16 = .ok (.getfield 69, 3) := by decide +kernel
theorem dX8_write_19 : decode cX8_write 19 = .ok (.iload_n 1, 1) := by decide +kernel
theorem dX8_write_20 : decode cX8_write 20 = .ok (.aaload, 1) := by decide +kernel
theorem dX8_write_21 : decode cX8_write 21 = .ok (.astore 5, 2) := by decide +kernel
theorem dX8_write_23 : decode cX8_write 23 = .ok (.aload 5, 2) := by decide +kernel
theorem dX8_write_25 : decode cX8_write 25 = .ok (.invokevirtual 245, 3) := by decide +kernel
theorem dX8_write_28 : decode cX8_write 28 = .ok (.ifCond .eq 11, 3) := by decide +kernel
theorem dX8_write_31 : decode cX8_write 31 = .ok (.aload_n 0, 1) := by decide +kernel
theorem dX8_write_32 : decode cX8_write 32 = .ok (.ldc 248, 2) := by decide +kernel
theorem dX8_write_34 : decode cX8_write 34 = .ok (.invokevirtual 87, 3) := by decide +kernel
theorem dX8_write_37 : decode cX8_write 37 = .ok (.i2l, 1) := by decide +kernel
theorem dX8_write_38 : decode cX8_write 38 = .ok (.lreturn, 1) := by decide +kernel
theorem dX8_write_39 : decode cX8_write 39 = .ok (.iload_n 2, 1) := by decide +kernel
theorem dX8_write_40 : decode cX8_write 40 = .ok (.iconst 0, 1) := by decide +kernel
theorem dX8_write_41 : decode cX8_write 41 = .ok (.aload 5, 2) := by decide +kernel
theorem dX8_write_43 : decode cX8_write 43 = .ok (.getfield 244, 3) := by decide +kernel
theorem dX8_write_46 : decode cX8_write 46 = .ok (.iconst 1, 1) := by decide +kernel
theorem dX8_write_47 : decode cX8_write 47 = .ok (.isub, 1) := by decide +kernel
theorem dX8_write_48 : decode cX8_write 48 = .ok (.invokestatic 82, 3) := by decide +kernel
theorem dX8_write_51 : decode cX8_write 51 = .ok (.ifCond .ne 11, 3) := by decide +kernel
theorem dX8_write_54 : decode cX8_write 54 = .ok (.aload_n 0, 1) := by decide +kernel
theorem dX8_write_55 : decode cX8_write 55 = .ok (.ldc 86, 2) := by decide +kernel
theorem dX8_write_57 : decode cX8_write 57 = .ok (.invokevirtual 87, 3) := by decide +kernel
theorem dX8_write_60 : decode cX8_write 60 = .ok (.i2l, 1) := by decide +kernel
theorem dX8_write_61 : decode cX8_write 61 = .ok (.lreturn, 1) := by decide +kernel
theorem dX8_write_62 : decode cX8_write 62 = .ok (.aload 5, 2) := by decide +kernel
theorem dX8_write_64 : decode cX8_write 64 = .ok (.getfield 249, 3) := by decide +kernel
theorem dX8_write_67 : decode cX8_write 67 = .ok (.iload_n 2, 1) := by decide +kernel
theorem dX8_write_68 : decode cX8_write 68 = .ok (.laload, 1) := by decide +kernel
theorem dX8_write_69 : decode cX8_write 69 = .ok (.lstore 6, 2) := by decide +kernel
theorem dX8_write_71 : decode cX8_write 71 = .ok (.aload 5, 2) := by decide +kernel
theorem dX8_write_73 : decode cX8_write 73 = .ok (.iload_n 2, 1) := by decide +kernel
theorem dX8_write_74 : decode cX8_write 74 = .ok (.lload_n 3, 1) := by decide +kernel
theorem dX8_write_75 : decode cX8_write 75 = .ok (.invokevirtual 253, 3) := by decide +kernel
theorem dX8_write_78 : decode cX8_write 78 = .ok (.lload 6, 2) := by decide +kernel
theorem dX8_write_80 : decode cX8_write 80 = .ok (.lreturn, 1) := by decide +kernel
set_option maxRecDepth 20000 in
theorem ggX8_copy_X8_isSheet : GoodIn wsX8_copy wsX8_isSheet := goodIn_r _ [14, 15, 16, 13, 17] (by decide +kernel) (by decide +kernel)
set_option maxRecDepth 20000 in
theorem gX8_copy_X8_isSheet : GoodIn wsX8_copy (va_wsS RX8 237 yX8_isSheet wsX8_isSheet) := goodIn_app (goodIn_of _ (by decide +kernel)) ggX8_copy_X8_isSheet
set_option maxRecDepth 20000 in
theorem ggX8_copy_X8_finding : GoodIn wsX8_copy wsX8_finding := goodIn_r _ [21, 1, 22, 15, 16, 13, 17, 34, 35, 36, 37, 38, 39, 40, 41, 42, 43, 44] (by decide +kernel) (by decide +kernel)
set_option maxRecDepth 20000 in
theorem gX8_copy_X8_finding : GoodIn wsX8_copy (wsV RX8 87 RX8 yX8_finding wsX8_finding) := goodIn_app (goodIn_of _ (by decide +kernel)) ggX8_copy_X8_finding
set_option maxRecDepth 20000 in
theorem ggX8_copy_X3_isMissing : GoodIn wsX8_copy wsX3_isMissing := goodIn_r _ [27, 28, 45, 46, 47] (by decide +kernel) (by decide +kernel)
set_option maxRecDepth 20000 in
theorem gX8_copy_X3_isMissing : GoodIn wsX8_copy (wsV RX8 245 RX3 yX3_isMissing wsX3_isMissing) := goodIn_app (goodIn_of _ (by decide +kernel)) ggX8_copy_X3_isMissing
set_option maxRecDepth 20000 in
theorem ggX8_copy_X3_hasRun : GoodIn wsX8_copy wsX3_hasRun := goodIn_r _ [32, 33, 45, 46, 47] (by decide +kernel) (by decide +kernel)
set_option maxRecDepth 20000 in
theorem gX8_copy_X3_hasRun : GoodIn wsX8_copy (wsV RX8 260 RX3 yX3_hasRun wsX3_hasRun) := goodIn_app (goodIn_of _ (by decide +kernel)) ggX8_copy_X3_hasRun
theorem dX8_copy_0 : decode cX8_copy 0 = .ok (.iload_n 1, 1) := by decide +kernel
theorem dX8_copy_1 : decode cX8_copy 1 = .ok (.invokestatic 237, 3) := by decide +kernel
theorem dX8_copy_4 : decode cX8_copy 4 = .ok (.ifCond .eq 10, 3) := by decide +kernel
theorem dX8_copy_7 : decode cX8_copy 7 = .ok (.iload_n 3, 1) := by decide +kernel
theorem dX8_copy_8 : decode cX8_copy 8 = .ok (.invokestatic 237, 3) := by decide +kernel
theorem dX8_copy_11 : decode cX8_copy 11 = .ok (.ifCond .ne 10, 3) := by decide +kernel
theorem dX8_copy_14 : decode cX8_copy 14 = .ok (.aload_n 0, 1) := by decide +kernel
theorem dX8_copy_15 : decode cX8_copy 15 = .ok (.ldc 86, 2) := by decide +kernel
theorem dX8_copy_17 : decode cX8_copy 17 = .ok (.invokevirtual 87, 3) := by decide +kernel
theorem dX8_copy_20 : decode cX8_copy 20 = .ok (.ireturn, 1) := by decide +kernel
theorem dX8_copy_21 : decode cX8_copy 21 = .ok (.aload_n 0, 1) := by decide +kernel
theorem dX8_copy_22 : decode cX8_copy 22 = .ok (.getfield 69, 3) := by decide +kernel
theorem dX8_copy_25 : decode cX8_copy 25 = .ok (.iload_n 1, 1) := by decide +kernel
theorem dX8_copy_26 : decode cX8_copy 26 = .ok (.aaload, 1) := by decide +kernel
theorem dX8_copy_27 : decode cX8_copy 27 = .ok (.astore 6, 2) := by decide +kernel
theorem dX8_copy_29 : decode cX8_copy 29 = .ok (.aload_n 0, 1) := by decide +kernel
theorem dX8_copy_30 : decode cX8_copy 30 = .ok (.getfield 69, 3) := by decide +kernel
theorem dX8_copy_33 : decode cX8_copy 33 = .ok (.iload_n 3, 1) := by decide +kernel
theorem dX8_copy_34 : decode cX8_copy 34 = .ok (.aaload, 1) := by decide +kernel
theorem dX8_copy_35 : decode cX8_copy 35 = .ok (.astore 7, 2) := by decide +kernel
theorem dX8_copy_37 : decode cX8_copy 37 = .ok (.aload 6, 2) := by decide +kernel
theorem dX8_copy_39 : decode cX8_copy 39 = .ok (.invokevirtual 245, 3) := by decide +kernel
theorem dX8_copy_42 : decode cX8_copy 42 = .ok (.ifCond .ne 11, 3) := by decide +kernel
theorem dX8_copy_45 : decode cX8_copy 45 = .ok (.aload 7, 2) := by decide +kernel
theorem dX8_copy_47 : decode cX8_copy 47 = .ok (.invokevirtual 245, 3) := by decide +kernel
theorem dX8_copy_50 : decode cX8_copy 50 = .ok (.ifCond .eq 10, 3) := by decide +kernel
theorem dX8_copy_53 : decode cX8_copy 53 = .ok (.aload_n 0, 1) := by decide +kernel
theorem dX8_copy_54 : decode cX8_copy 54 = .ok (.ldc 248, 2) := by decide +kernel
theorem dX8_copy_56 : decode cX8_copy 56 = .ok (.invokevirtual 87, 3) := by decide +kernel
theorem dX8_copy_59 : decode cX8_copy 59 = .ok (.ireturn, 1) := by decide +kernel
theorem dX8_copy_60 : decode cX8_copy 60 = .ok (.aload 6, 2) := by decide +kernel
theorem dX8_copy_62 : decode cX8_copy 62 = .ok (.getfield 257, 3) := by decide +kernel
theorem dX8_copy_65 : decode cX8_copy 65 = .ok (.aload 7, 2) := by decide +kernel
theorem dX8_copy_67 : decode cX8_copy 67 = .ok (.getfield 257, 3) := by decide +kernel
theorem dX8_copy_70 : decode cX8_copy 70 = .ok (.if_icmp .eq 10, 3) := by decide +kernel
theorem dX8_copy_73 : decode cX8_copy 73 = .ok (.aload_n 0, 1) := by decide +kernel
theorem dX8_copy_74 : decode cX8_copy 74 = .ok (.ldc 154, 2) := by decide +kernel
theorem dX8_copy_76 : decode cX8_copy 76 = .ok (.invokevirtual 87, 3) := by decide +kernel
theorem dX8_copy_79 : decode cX8_copy 79 = .ok (.ireturn, 1) := by decide +kernel
theorem dX8_copy_80 : decode cX8_copy 80 = .ok (.aload 6, 2) := by decide +kernel
theorem dX8_copy_82 : decode cX8_copy 82 = .ok (.iload_n 2, 1) := by decide +kernel
theorem dX8_copy_83 : decode cX8_copy 83 = .ok (.iload 5, 2) := by decide +kernel
theorem dX8_copy_85 : decode cX8_copy 85 = .ok (.invokevirtual 260, 3) := by decide +kernel
theorem dX8_copy_88 : decode cX8_copy 88 = .ok (.ifCond .eq 15, 3) := by decide +kernel
theorem dX8_copy_91 : decode cX8_copy 91 = .ok (.aload 7, 2) := by decide +kernel
theorem dX8_copy_93 : decode cX8_copy 93 = .ok (.iload 4, 2) := by decide +kernel
theorem dX8_copy_95 : decode cX8_copy 95 = .ok (.iload 5, 2) := by decide +kernel
theorem dX8_copy_97 : decode cX8_copy 97 = .ok (.invokevirtual 260, 3) := by decide +kernel
theorem dX8_copy_100 : decode cX8_copy 100 = .ok (.ifCond .ne 10, 3) := by decide +kernel
theorem dX8_copy_103 : decode cX8_copy 103 = .ok (.aload_n 0, 1) := by decide +kernel
theorem dX8_copy_104 : decode cX8_copy 104 = .ok (.ldc 86, 2) := by decide +kernel
theorem dX8_copy_106 : decode cX8_copy 106 = .ok (.invokevirtual 87, 3) := by decide +kernel
theorem dX8_copy_109 : decode cX8_copy 109 = .ok (.ireturn, 1) := by decide +kernel
theorem dX8_copy_110 : decode cX8_copy 110 = .ok (.aload 6, 2) := by decide +kernel
theorem dX8_copy_112 : decode cX8_copy 112 = .ok (.getfield 249, 3) := by decide +kernel
theorem dX8_copy_115 : decode cX8_copy 115 = .ok (.iload_n 2, 1) := by decide +kernel
theorem dX8_copy_116 : decode cX8_copy 116 = .ok (.aload 7, 2) := by decide +kernel
theorem dX8_copy_118 : decode cX8_copy 118 = .ok (.getfield 249, 3) := by decide +kernel
theorem dX8_copy_121 : decode cX8_copy 121 = .ok (.iload 4, 2) := by decide +kernel
theorem dX8_copy_123 : decode cX8_copy 123 = .ok (.iload 5, 2) := by decide +kernel
theorem dX8_copy_125 : decode cX8_copy 125 = .ok (.invokestatic 263, 3) := by decide +kernel
theorem dX8_copy_128 : decode cX8_copy 128 = .ok (.iload 5, 2) := by decide +kernel
theorem dX8_copy_130 : decode cX8_copy 130 = .ok (.ireturn, 1) := by decide +kernel
set_option maxRecDepth 20000 in
theorem ggX8_lays_X8_wrongSheet : GoodIn wsX8_lays wsX8_wrongSheet := goodIn_r _ [14, 2, 3, 15, 16, 17, 13, 18, 19, 20, 21, 22, 23, 24, 25, 26, 27, 105, 106, 107, 108, 109, 110, 111, 112, 113, 114, 115, 119, 120, 121] (by decide +kernel) (by decide +kernel)
set_option maxRecDepth 20000 in
theorem gX8_lays_X8_wrongSheet : GoodIn wsX8_lays (wsV RX8 269 RX8 yX8_wrongSheet wsX8_wrongSheet) := goodIn_app (goodIn_of _ (by decide +kernel)) ggX8_lays_X8_wrongSheet
set_option maxRecDepth 20000 in
theorem ggX8_lays_X8_finding : GoodIn wsX8_lays wsX8_finding := goodIn_r _ [31, 2, 32, 19, 20, 13, 21, 105, 106, 107, 108, 109, 110, 111, 112, 113, 114, 115] (by decide +kernel) (by decide +kernel)
set_option maxRecDepth 20000 in
theorem gX8_lays_X8_finding : GoodIn wsX8_lays (wsV RX8 87 RX8 yX8_finding wsX8_finding) := goodIn_app (goodIn_of _ (by decide +kernel)) ggX8_lays_X8_finding
set_option maxRecDepth 20000 in
theorem ggX8_lays_X1_has : GoodIn wsX8_lays wsX1_has := goodIn_r _ [37, 38, 20, 13, 21, 116, 117, 118] (by decide +kernel) (by decide +kernel)
set_option maxRecDepth 20000 in
theorem gX8_lays_X1_has : GoodIn wsX8_lays (wsV RX8 125 RX1 yX1_has wsX1_has) := goodIn_app (goodIn_of _ (by decide +kernel)) ggX8_lays_X1_has
set_option maxRecDepth 20000 in
theorem ggX8_lays_X0_isThick : GoodIn wsX8_lays wsX0_isThick := goodIn_r _ [43, 44, 126, 127, 128, 129, 130] (by decide +kernel) (by decide +kernel)
set_option maxRecDepth 20000 in
theorem gX8_lays_X0_isThick : GoodIn wsX8_lays (wsV RX8 161 RX0 yX0_isThick wsX0_isThick) := goodIn_app (goodIn_of _ (by decide +kernel)) ggX8_lays_X0_isThick
set_option maxRecDepth 20000 in
theorem ggX8_lays_X0_dipInto : GoodIn wsX8_lays wsX0_dipInto := goodIn_r _ [48, 49, 50, 51, 40, 41, 42, 43, 44, 52, 53, 54, 55, 56, 57, 13, 58, 59, 60, 61, 62, 63, 64, 65, 66, 67, 68, 69, 70, 71, 72, 73, 74, 75, 76, 77, 78, 79, 80, 81, 82, 83, 84, 85, 86, 87, 88, 89, 90, 91, 92, 93, 94, 95, 96, 97, 98, 99, 100, 101, 102, 103, 104, 131, 132, 133, 134, 126, 127, 128, 129, 130] (by decide +kernel) (by decide +kernel)
set_option maxRecDepth 20000 in
theorem gX8_lays_X0_dipInto : GoodIn wsX8_lays (wsV RX8 166 RX0 yX0_dipInto wsX0_dipInto) := goodIn_app (goodIn_of _ (by decide +kernel)) ggX8_lays_X0_dipInto
theorem dX8_lays_0 : decode cX8_lays 0 = .ok (.aload_n 0, 1) := by decide +kernel
theorem dX8_lays_1 : decode cX8_lays 1 = .ok (.iload_n 1, 1) := by decide +kernel
theorem dX8_lays_2 : decode cX8_lays 2 = .ok (.invokevirtual 269, 3) := by decide +kernel
theorem dX8_lays_5 : decode cX8_lays 5 = .ok (.istore_n 3, 1) := by decide +kernel
theorem dX8_lays_6 : decode cX8_lays 6 = .ok (.iload_n 3, 1) := by decide +kernel
theorem dX8_lays_7 : decode cX8_lays 7 = .ok (.ifCond .eq 9, 3) := by decide +kernel
theorem dX8_lays_10 : decode cX8_lays 10 = .ok (.aload_n 0, 1) := by decide +kernel
theorem dX8_lays_11 : decode cX8_lays 11 = .ok (.iload_n 3, 1) := by decide +kernel
theorem dX8_lays_12 : decode cX8_lays 12 = .ok (.invokevirtual 87, 3) := by decide +kernel
theorem dX8_lays_15 : decode cX8_lays 15 = .ok (.ireturn, 1) := by decide +kernel
theorem dX8_lays_16 : decode cX8_lays 16 = .ok (.aload_n 0, 1) := by decide +kernel
theorem dX8_lays_17 : decode cX8_lays 17 = .ok (.getfield 10, 3) := by decide +kernel
theorem dX8_lays_20 : decode cX8_lays 20 = .ok (.iload_n 2, 1) := by decide +kernel
theorem dX8_lays_21 : decode cX8_lays 21 = .ok (.invokevirtual 125, 3) := by decide +kernel
theorem dX8_lays_24 : decode cX8_lays 24 = .ok (.ifCond .ne 10, 3) := by decide +kernel
theorem dX8_lays_27 : decode cX8_lays 27 = .ok (.aload_n 0, 1) := by decide +kernel
theorem dX8_lays_28 : decode cX8_lays 28 = .ok (.ldc 86, 2) := by decide +kernel
theorem dX8_lays_30 : decode cX8_lays 30 = .ok (.invokevirtual 87, 3) := by decide +kernel
theorem dX8_lays_33 : decode cX8_lays 33 = .ok (.ireturn, 1) := by decide +kernel
theorem dX8_lays_34 : decode cX8_lays 34 = .ok (.aload_n 0, 1) := by decide +kernel
theorem dX8_lays_35 : decode cX8_lays 35 = .ok (.getfield 69, 3) := by decide +kernel
theorem dX8_lays_38 : decode cX8_lays 38 = .ok (.iload_n 1, 1) := by decide +kernel
theorem dX8_lays_39 : decode cX8_lays 39 = .ok (.aaload, 1) := by decide +kernel
theorem dX8_lays_40 : decode cX8_lays 40 = .ok (.astore 4, 2) := by decide +kernel
theorem dX8_lays_42 : decode cX8_lays 42 = .ok (.aload_n 0, 1) := by decide +kernel
theorem dX8_lays_43 : decode cX8_lays 43 = .ok (.getfield 10, 3) := by decide +kernel
theorem dX8_lays_46 : decode cX8_lays 46 = .ok (.getfield 128, 3) := by decide +kernel
theorem dX8_lays_49 : decode cX8_lays 49 = .ok (.iload_n 2, 1) := by decide +kernel
theorem dX8_lays_50 : decode cX8_lays 50 = .ok (.aaload, 1) := by decide +kernel
theorem dX8_lays_51 : decode cX8_lays 51 = .ok (.astore 5, 2) := by decide +kernel
theorem dX8_lays_53 : decode cX8_lays 53 = .ok (.iconst 0, 1) := by decide +kernel
theorem dX8_lays_54 : decode cX8_lays 54 = .ok (.istore 6, 2) := by decide +kernel
theorem dX8_lays_56 : decode cX8_lays 56 = .ok (.iconst 0, 1) := by decide +kernel
theorem dX8_lays_57 : decode cX8_lays 57 = .ok (.istore 7, 2) := by decide +kernel
theorem dX8_lays_59 : decode cX8_lays 59 = .ok (.iload 7, 2) := by decide +kernel
theorem dX8_lays_61 : decode cX8_lays 61 = .ok (.aload 4, 2) := by decide +kernel
theorem dX8_lays_63 : decode cX8_lays 63 = .ok (.getfield 244, 3) := by decide +kernel
theorem dX8_lays_66 : decode cX8_lays 66 = .ok (.if_icmp .ge 68, 3) := by decide +kernel
theorem dX8_lays_69 : decode cX8_lays 69 = .ok (.aload 4, 2) := by decide +kernel
theorem dX8_lays_71 : decode cX8_lays 71 = .ok (.getfield 249, 3) := by decide +kernel
theorem dX8_lays_74 : decode cX8_lays 74 = .ok (.iload 7, 2) := by decide +kernel
theorem dX8_lays_76 : decode cX8_lays 76 = .ok (.laload, 1) := by decide +kernel
theorem dX8_lays_77 : decode cX8_lays 77 = .ok (.lstore 8, 2) := by decide +kernel
theorem dX8_lays_79 : decode cX8_lays 79 = .ok (.lload 8, 2) := by decide +kernel
theorem dX8_lays_81 : decode cX8_lays 81 = .ok (.lconst 0, 1) := by decide +kernel
theorem dX8_lays_82 : decode cX8_lays 82 = .ok (.lcmp, 1) := by decide +kernel
theorem dX8_lays_83 : decode cX8_lays 83 = .ok (.ifCond .lt 51, 3) := by decide +kernel
theorem dX8_lays_86 : decode cX8_lays 86 = .ok (.lload 8, 2) := by decide +kernel
theorem dX8_lays_88 : decode cX8_lays 88 = .ok (.ldc2_w 272, 3) := by decide +kernel
theorem dX8_lays_91 : decode cX8_lays 91 = .ok (.lcmp, 1) := by decide +kernel
theorem dX8_lays_92 : decode cX8_lays 92 = .ok (.ifCond .ge 42, 3) := by decide +kernel
theorem dX8_lays_95 : decode cX8_lays 95 = .ok (.aload 5, 2) := by decide +kernel
theorem dX8_lays_97 : decode cX8_lays 97 = .ok (.invokevirtual 161, 3) := by decide +kernel
theorem dX8_lays_100 : decode cX8_lays 100 = .ok (.ifCond .eq 6, 3) := by decide +kernel
theorem dX8_lays_103 : decode cX8_lays 103 = .ok (.goto 31, 3) := by decide +kernel
theorem dX8_lays_106 : decode cX8_lays 106 = .ok (.aload 5, 2) := by decide +kernel
theorem dX8_lays_108 : decode cX8_lays 108 = .ok (.aload_n 0, 1) := by decide +kernel
theorem dX8_lays_109 : decode cX8_lays 109 = .ok (.getfield 10, 3) := by decide +kernel
theorem dX8_lays_112 : decode cX8_lays 112 = .ok (.getfield 91, 3) := by decide +kernel
theorem dX8_lays_115 : decode cX8_lays 115 = .ok (.getfield 94, 3) := by decide +kernel
theorem dX8_lays_118 : decode cX8_lays 118 = .ok (.lload 8, 2) := by decide +kernel
theorem dX8_lays_120 : decode cX8_lays 120 = .ok (.l2i, 1) := by decide +kernel
theorem dX8_lays_121 : decode cX8_lays 121 = .ok (.aaload, 1) := by decide +kernel
theorem dX8_lays_122 : decode cX8_lays 122 = .ok (.invokevirtual 166, 3) := by decide +kernel
theorem dX8_lays_125 : decode cX8_lays 125 = .ok (.iinc 6 1, 3) := by decide +kernel
theorem dX8_lays_128 : decode cX8_lays 128 = .ok (.iinc 7 1, 3) := by decide +kernel
theorem dX8_lays_131 : decode cX8_lays 131 = .ok (.goto (-72), 3) := by decide +kernel
theorem dX8_lays_134 : decode cX8_lays 134 = .ok (.iload 6, 2) := by decide +kernel
theorem dX8_lays_136 : decode cX8_lays 136 = .ok (.ireturn, 1) := by decide +kernel
set_option maxRecDepth 20000 in
theorem ggX8_show_X8_wrongSheet : GoodIn wsX8_show wsX8_wrongSheet := goodIn_r _ [16, 2, 3, 17, 18, 19, 15, 20, 21, 22, 23, 24, 25, 26, 27, 28, 29, 47, 48, 49, 50, 51, 52, 53, 54, 55, 56, 57, 66, 67, 68] (by decide +kernel) (by decide +kernel)
set_option maxRecDepth 20000 in
theorem gX8_show_X8_wrongSheet : GoodIn wsX8_show (wsV RX8 269 RX8 yX8_wrongSheet wsX8_wrongSheet) := goodIn_app (goodIn_of _ (by decide +kernel)) ggX8_show_X8_wrongSheet
set_option maxRecDepth 20000 in
theorem ggX8_show_X8_finding : GoodIn wsX8_show wsX8_finding := goodIn_r _ [33, 2, 34, 21, 22, 15, 23, 47, 48, 49, 50, 51, 52, 53, 54, 55, 56, 57] (by decide +kernel) (by decide +kernel)
set_option maxRecDepth 20000 in
theorem gX8_show_X8_finding : GoodIn wsX8_show (wsV RX8 87 RX8 yX8_finding wsX8_finding) := goodIn_app (goodIn_of _ (by decide +kernel)) ggX8_show_X8_finding
set_option maxRecDepth 20000 in
theorem ggX8_show_X1_has : GoodIn wsX8_show wsX1_has := goodIn_r _ [39, 40, 22, 15, 23, 58, 59, 60] (by decide +kernel) (by decide +kernel)
set_option maxRecDepth 20000 in
theorem gX8_show_X1_has : GoodIn wsX8_show (wsV RX8 125 RX1 yX1_has wsX1_has) := goodIn_app (goodIn_of _ (by decide +kernel)) ggX8_show_X1_has
set_option maxRecDepth 20000 in
theorem ggX8_show_X3_put : GoodIn wsX8_show wsX3_put := goodIn_r _ [44, 45, 29, 46, 22, 15, 23, 66, 67, 68] (by decide +kernel) (by decide +kernel)
set_option maxRecDepth 20000 in
theorem gX8_show_X3_put : GoodIn wsX8_show (wsV RX8 253 RX3 yX3_put wsX3_put) := goodIn_app (goodIn_of _ (by decide +kernel)) ggX8_show_X3_put
theorem dX8_show_0 : decode cX8_show 0 = .ok (.aload_n 0, 1) := by decide +kernel
theorem dX8_show_1 : decode cX8_show 1 = .ok (.iload_n 1, 1) := by decide +kernel
theorem dX8_show_2 : decode cX8_show 2 = .ok (.invokevirtual 269, 3) := by decide +kernel
theorem dX8_show_5 : decode cX8_show 5 = .ok (.istore_n 3, 1) := by decide +kernel
theorem dX8_show_6 : decode cX8_show 6 = .ok (.iload_n 3, 1) := by decide +kernel
theorem dX8_show_7 : decode cX8_show 7 = .ok (.ifCond .eq 9, 3) := by decide +kernel
theorem dX8_show_10 : decode cX8_show 10 = .ok (.aload_n 0, 1) := by decide +kernel
theorem dX8_show_11 : decode cX8_show 11 = .ok (.iload_n 3, 1) := by decide +kernel
theorem dX8_show_12 : decode cX8_show 12 = .ok (.invokevirtual 87, 3) := by decide +kernel
theorem dX8_show_15 : decode cX8_show 15 = .ok (.ireturn, 1) := by decide +kernel
theorem dX8_show_16 : decode cX8_show 16 = .ok (.aload_n 0, 1) := by decide +kernel
theorem dX8_show_17 : decode cX8_show 17 = .ok (.getfield 10, 3) := by decide +kernel
theorem dX8_show_20 : decode cX8_show 20 = .ok (.iload_n 2, 1) := by decide +kernel
theorem dX8_show_21 : decode cX8_show 21 = .ok (.invokevirtual 125, 3) := by decide +kernel
theorem dX8_show_24 : decode cX8_show 24 = .ok (.ifCond .ne 10, 3) := by decide +kernel
theorem dX8_show_27 : decode cX8_show 27 = .ok (.aload_n 0, 1) := by decide +kernel
theorem dX8_show_28 : decode cX8_show 28 = .ok (.ldc 86, 2) := by decide +kernel
theorem dX8_show_30 : decode cX8_show 30 = .ok (.invokevirtual 87, 3) := by decide +kernel
theorem dX8_show_33 : decode cX8_show 33 = .ok (.ireturn, 1) := by decide +kernel
theorem dX8_show_34 : decode cX8_show 34 = .ok (.aload_n 0, 1) := by decide +kernel
theorem dX8_show_35 : decode cX8_show 35 = .ok (.getfield 69, 3) := by decide +kernel
theorem dX8_show_38 : decode cX8_show 38 = .ok (.iload_n 1, 1) := by decide +kernel
theorem dX8_show_39 : decode cX8_show 39 = .ok (.aaload, 1) := by decide +kernel
theorem dX8_show_40 : decode cX8_show 40 = .ok (.astore 4, 2) := by decide +kernel
theorem dX8_show_42 : decode cX8_show 42 = .ok (.aload_n 0, 1) := by decide +kernel
theorem dX8_show_43 : decode cX8_show 43 = .ok (.getfield 10, 3) := by decide +kernel
theorem dX8_show_46 : decode cX8_show 46 = .ok (.getfield 128, 3) := by decide +kernel
theorem dX8_show_49 : decode cX8_show 49 = .ok (.iload_n 2, 1) := by decide +kernel
theorem dX8_show_50 : decode cX8_show 50 = .ok (.aaload, 1) := by decide +kernel
theorem dX8_show_51 : decode cX8_show 51 = .ok (.astore 5, 2) := by decide +kernel
theorem dX8_show_53 : decode cX8_show 53 = .ok (.aload 5, 2) := by decide +kernel
theorem dX8_show_55 : decode cX8_show 55 = .ok (.getfield 135, 3) := by decide +kernel
theorem dX8_show_58 : decode cX8_show 58 = .ok (.aload 4, 2) := by decide +kernel
theorem dX8_show_60 : decode cX8_show 60 = .ok (.getfield 244, 3) := by decide +kernel
theorem dX8_show_63 : decode cX8_show 63 = .ok (.invokestatic 274, 3) := by decide +kernel
theorem dX8_show_66 : decode cX8_show 66 = .ok (.istore 6, 2) := by decide +kernel
theorem dX8_show_68 : decode cX8_show 68 = .ok (.iconst 0, 1) := by decide +kernel
theorem dX8_show_69 : decode cX8_show 69 = .ok (.istore 7, 2) := by decide +kernel
theorem dX8_show_71 : decode cX8_show 71 = .ok (.iload 7, 2) := by decide +kernel
theorem dX8_show_73 : decode cX8_show 73 = .ok (.iload 6, 2) := by decide +kernel
theorem dX8_show_75 : decode cX8_show 75 = .ok (.if_icmp .ge 25, 3) := by decide +kernel
theorem dX8_show_78 : decode cX8_show 78 = .ok (.aload 4, 2) := by decide +kernel
theorem dX8_show_80 : decode cX8_show 80 = .ok (.iload 7, 2) := by decide +kernel
theorem dX8_show_82 : decode cX8_show 82 = .ok (.aload 5, 2) := by decide +kernel
theorem dX8_show_84 : decode cX8_show 84 = .ok (.getfield 147, 3) := by decide +kernel
theorem dX8_show_87 : decode cX8_show 87 = .ok (.iload 7, 2) := by decide +kernel
theorem dX8_show_89 : decode cX8_show 89 = .ok (.iaload, 1) := by decide +kernel
theorem dX8_show_90 : decode cX8_show 90 = .ok (.i2l, 1) := by decide +kernel
theorem dX8_show_91 : decode cX8_show 91 = .ok (.invokevirtual 253, 3) := by decide +kernel
theorem dX8_show_94 : decode cX8_show 94 = .ok (.iinc 7 1, 3) := by decide +kernel
theorem dX8_show_97 : decode cX8_show 97 = .ok (.goto (-26), 3) := by decide +kernel
theorem dX8_show_100 : decode cX8_show 100 = .ok (.iload 6, 2) := by decide +kernel
theorem dX8_show_102 : decode cX8_show 102 = .ok (.ireturn, 1) := by decide +kernel
set_option maxRecDepth 20000 in
theorem ggX8_read_X8_wrongSheet : GoodIn wsX8_read wsX8_wrongSheet := goodIn_r _ [13, 1, 2, 14, 15, 16, 12, 17, 18, 19, 20, 21, 22, 23, 24, 25, 26, 150, 151, 152, 153, 154, 155, 156, 157, 158, 159, 160, 161, 162, 163] (by decide +kernel) (by decide +kernel)
set_option maxRecDepth 20000 in
theorem gX8_read_X8_wrongSheet : GoodIn wsX8_read (wsV RX8 269 RX8 yX8_wrongSheet wsX8_wrongSheet) := goodIn_app (goodIn_of _ (by decide +kernel)) ggX8_read_X8_wrongSheet
set_option maxRecDepth 20000 in
theorem ggX8_read_X8_finding : GoodIn wsX8_read wsX8_finding := goodIn_r _ [30, 1, 31, 18, 19, 12, 20, 150, 151, 152, 153, 154, 155, 156, 157, 158, 159, 160] (by decide +kernel) (by decide +kernel)
set_option maxRecDepth 20000 in
theorem gX8_read_X8_finding : GoodIn wsX8_read (wsV RX8 87 RX8 yX8_finding wsX8_finding) := goodIn_app (goodIn_of _ (by decide +kernel)) ggX8_read_X8_finding
set_option maxRecDepth 20000 in
theorem ggX8_read_X8_isKind : GoodIn wsX8_read wsX8_isKind := goodIn_r _ [34, 18, 19, 12, 20] (by decide +kernel) (by decide +kernel)
set_option maxRecDepth 20000 in
theorem gX8_read_X8_isKind : GoodIn wsX8_read (va_wsS RX8 115 yX8_isKind wsX8_isKind) := goodIn_app (goodIn_of _ (by decide +kernel)) ggX8_read_X8_isKind
set_option maxRecDepth 20000 in
theorem ggX8_read_X2_rowThatMade : GoodIn wsX8_read wsX2_rowThatMade := goodIn_r _ [39, 40, 41, 42, 43, 44, 45, 46, 47, 48, 49, 50, 51, 52, 53, 54, 55, 56, 57, 58, 59, 60, 61, 62, 63, 64, 65, 66, 67, 68, 69, 70, 71, 38, 72, 73, 74, 75, 76, 77, 78, 79, 80, 81, 82, 83, 84, 85, 86, 87, 88, 89, 90, 91, 92, 93, 94, 95, 96, 97, 98, 99, 100, 101, 102, 103, 104, 105, 106, 107, 108, 12, 109, 110, 111, 112, 113, 114, 115, 116, 117, 118, 119, 120, 121, 122, 123, 124, 125, 126, 127, 128, 129, 130, 131, 132, 133, 134, 135, 136, 137, 138, 139, 140, 141, 142, 143, 144, 145, 146, 147, 148, 149, 167, 168, 169, 170, 171, 172, 173, 174, 175, 176, 177, 178, 179, 180, 181, 182, 183, 184, 185, 186, 161, 162, 163] (by decide +kernel) (by decide +kernel)
set_option maxRecDepth 20000 in
theorem gX8_read_X2_rowThatMade : GoodIn wsX8_read (wsV RX8 280 RX2 yX2_rowThatMade wsX2_rowThatMade) := goodIn_app (goodIn_of _ (by decide +kernel)) ggX8_read_X2_rowThatMade
theorem dX8_read_0 : decode cX8_read 0 = .ok (.aload_n 0, 1) := by decide +kernel
theorem dX8_read_1 : decode cX8_read 1 = .ok (.iload_n 1, 1) := by decide +kernel
theorem dX8_read_2 : decode cX8_read 2 = .ok (.invokevirtual 269, 3) := by decide +kernel
theorem dX8_read_5 : decode cX8_read 5 = .ok (.istore_n 3, 1) := by decide +kernel
theorem dX8_read_6 : decode cX8_read 6 = .ok (.iload_n 3, 1) := by decide +kernel
theorem dX8_read_7 : decode cX8_read 7 = .ok (.ifCond .eq 9, 3) := by decide +kernel
theorem dX8_read_10 : decode cX8_read 10 = .ok (.aload_n 0, 1) := by decide +kernel
theorem dX8_read_11 : decode cX8_read 11 = .ok (.iload_n 3, 1) := by decide +kernel
theorem dX8_read_12 : decode cX8_read 12 = .ok (.invokevirtual 87, 3) := by decide +kernel
theorem dX8_read_15 : decode cX8_read 15 = .ok (.ireturn, 1) := by decide +kernel
theorem dX8_read_16 : decode cX8_read 16 = .ok (.iload_n 2, 1) := by decide +kernel
theorem dX8_read_17 : decode cX8_read 17 = .ok (.invokestatic 115, 3) := by decide +kernel
theorem dX8_read_20 : decode cX8_read 20 = .ok (.ifCond .ne 10, 3) := by decide +kernel
theorem dX8_read_23 : decode cX8_read 23 = .ok (.aload_n 0, 1) := by decide +kernel
theorem dX8_read_24 : decode cX8_read 24 = .ok (.ldc 86, 2) := by decide +kernel
theorem dX8_read_26 : decode cX8_read 26 = .ok (.invokevirtual 87, 3) := by decide +kernel
theorem dX8_read_29 : decode cX8_read 29 = .ok (.ireturn, 1) := by decide +kernel
theorem dX8_read_30 : decode cX8_read 30 = .ok (.aload_n 0, 1) := by decide +kernel
theorem dX8_read_31 : decode cX8_read 31 = .ok (.getfield 69, 3) := by decide +kernel
theorem dX8_read_34 : decode cX8_read 34 = .ok (.iload_n 1, 1) := by decide +kernel
theorem dX8_read_35 : decode cX8_read 35 = .ok (.aaload, 1) := by decide +kernel
theorem dX8_read_36 : decode cX8_read 36 = .ok (.getfield 244, 3) := by decide +kernel
theorem dX8_read_39 : decode cX8_read 39 = .ok (.bipush 6, 2) := by decide +kernel
theorem dX8_read_41 : decode cX8_read 41 = .ok (.if_icmp .le 10, 3) := by decide +kernel
theorem dX8_read_44 : decode cX8_read 44 = .ok (.aload_n 0, 1) := by decide +kernel
theorem dX8_read_45 : decode cX8_read 45 = .ok (.ldc 240, 2) := by decide +kernel
theorem dX8_read_47 : decode cX8_read 47 = .ok (.invokevirtual 87, 3) := by decide +kernel
theorem dX8_read_50 : decode cX8_read 50 = .ok (.ireturn, 1) := by decide +kernel
theorem dX8_read_51 : decode cX8_read 51 = .ok (.aload_n 0, 1) := by decide +kernel
theorem dX8_read_52 : decode cX8_read 52 = .ok (.getfield 47, 3) := by decide +kernel
theorem dX8_read_55 : decode cX8_read 55 = .ok (.aload_n 0, 1) := by decide +kernel
theorem dX8_read_56 : decode cX8_read 56 = .ok (.getfield 10, 3) := by decide +kernel
theorem dX8_read_59 : decode cX8_read 59 = .ok (.getfield 91, 3) := by decide +kernel
theorem dX8_read_62 : decode cX8_read 62 = .ok (.aload_n 0, 1) := by decide +kernel
theorem dX8_read_63 : decode cX8_read 63 = .ok (.getfield 69, 3) := by decide +kernel
theorem dX8_read_66 : decode cX8_read 66 = .ok (.iload_n 1, 1) := by decide +kernel
theorem dX8_read_67 : decode cX8_read 67 = .ok (.aaload, 1) := by decide +kernel
theorem dX8_read_68 : decode cX8_read 68 = .ok (.iload_n 2, 1) := by decide +kernel
theorem dX8_read_69 : decode cX8_read 69 = .ok (.invokevirtual 280, 3) := by decide +kernel
theorem dX8_read_72 : decode cX8_read 72 = .ok (.istore 4, 2) := by decide +kernel
theorem dX8_read_74 : decode cX8_read 74 = .ok (.iload 4, 2) := by decide +kernel
theorem dX8_read_76 : decode cX8_read 76 = .ok (.ifCond .ge 10, 3) := by decide +kernel
theorem dX8_read_79 : decode cX8_read 79 = .ok (.aload_n 0, 1) := by decide +kernel
theorem dX8_read_80 : decode cX8_read 80 = .ok (.ldc 146, 2) := by decide +kernel
theorem dX8_read_82 : decode cX8_read 82 = .ok (.invokevirtual 87, 3) := by decide +kernel
theorem dX8_read_85 : decode cX8_read 85 = .ok (.ireturn, 1) := by decide +kernel
theorem dX8_read_86 : decode cX8_read 86 = .ok (.iload 4, 2) := by decide +kernel
theorem dX8_read_88 : decode cX8_read 88 = .ok (.ireturn, 1) := by decide +kernel
set_option maxRecDepth 20000 in
theorem ggX8_image_X1_become : GoodIn wsX8_image wsX1_become := goodIn_r _ [8, 9, 10, 11, 12, 13, 14, 15, 16, 17, 18, 19, 20, 21, 22, 23, 24, 25, 26, 27, 28, 29, 30, 31, 32, 33, 34, 35, 36, 37, 38, 39, 40, 41, 42, 43, 55, 56, 57, 58, 59, 60, 61, 62, 63, 64, 65, 66, 67, 68, 69, 70] (by decide +kernel) (by decide +kernel)
set_option maxRecDepth 20000 in
theorem gX8_image_X1_become : GoodIn wsX8_image (wsV RX8 234 RX1 yX1_become wsX1_become) := goodIn_app (goodIn_of _ (by decide +kernel)) ggX8_image_X1_become
theorem dX8_image_0 : decode cX8_image 0 = .ok (.aload_n 0, 1) := by decide +kernel
theorem dX8_image_1 : decode cX8_image 1 = .ok (.getfield 16, 3) := by decide +kernel
theorem dX8_image_4 : decode cX8_image 4 = .ok (.aload_n 0, 1) := by decide +kernel
theorem dX8_image_5 : decode cX8_image 5 = .ok (.getfield 10, 3) := by decide +kernel
theorem dX8_image_8 : decode cX8_image 8 = .ok (.invokevirtual 234, 3) := by decide +kernel
theorem dX8_image_11 : decode cX8_image 11 = .ok (.aload_n 0, 1) := by decide +kernel
theorem dX8_image_12 : decode cX8_image 12 = .ok (.iconst 1, 1) := by decide +kernel
theorem dX8_image_13 : decode cX8_image 13 = .ok (.putfield 19, 3) := by decide +kernel
theorem dX8_image_16 : decode cX8_image 16 = .ok (.iconst 1, 1) := by decide +kernel
theorem dX8_image_17 : decode cX8_image 17 = .ok (.ireturn, 1) := by decide +kernel
set_option maxRecDepth 20000 in
theorem ggX8_undo_X8_finding : GoodIn wsX8_undo wsX8_finding := goodIn_r _ [10, 11, 12, 13, 14, 9, 15, 56, 57, 58, 59, 60, 61, 62, 63, 64, 65, 66] (by decide +kernel) (by decide +kernel)
set_option maxRecDepth 20000 in
theorem gX8_undo_X8_finding : GoodIn wsX8_undo (wsV RX8 87 RX8 yX8_finding wsX8_finding) := goodIn_app (goodIn_of _ (by decide +kernel)) ggX8_undo_X8_finding
set_option maxRecDepth 20000 in
theorem ggX8_undo_X1_become : GoodIn wsX8_undo wsX1_become := goodIn_r _ [20, 21, 22, 23, 24, 25, 26, 27, 28, 29, 30, 31, 32, 33, 34, 35, 36, 37, 38, 39, 40, 41, 42, 43, 44, 45, 46, 47, 48, 49, 50, 51, 52, 53, 54, 55, 67, 68, 69, 70, 71, 72, 73, 74, 75, 76, 77, 78, 79, 80, 81, 82] (by decide +kernel) (by decide +kernel)
set_option maxRecDepth 20000 in
theorem gX8_undo_X1_become : GoodIn wsX8_undo (wsV RX8 234 RX1 yX1_become wsX1_become) := goodIn_app (goodIn_of _ (by decide +kernel)) ggX8_undo_X1_become
theorem dX8_undo_0 : decode cX8_undo 0 = .ok (.aload_n 0, 1) := by decide +kernel
theorem dX8_undo_1 : decode cX8_undo 1 = .ok (.getfield 19, 3) := by decide +kernel
theorem dX8_undo_4 : decode cX8_undo 4 = .ok (.ifCond .ne 10, 3) := by decide +kernel
theorem dX8_undo_7 : decode cX8_undo 7 = .ok (.aload_n 0, 1) := by decide +kernel
theorem dX8_undo_8 : decode cX8_undo 8 = .ok (.ldc 146, 2) := by decide +kernel
theorem dX8_undo_10 : decode cX8_undo 10 = .ok (.invokevirtual 87, 3) := by decide +kernel
theorem dX8_undo_13 : decode cX8_undo 13 = .ok (.ireturn, 1) := by decide +kernel
theorem dX8_undo_14 : decode cX8_undo 14 = .ok (.aload_n 0, 1) := by decide +kernel
theorem dX8_undo_15 : decode cX8_undo 15 = .ok (.getfield 10, 3) := by decide +kernel
theorem dX8_undo_18 : decode cX8_undo 18 = .ok (.aload_n 0, 1) := by decide +kernel
theorem dX8_undo_19 : decode cX8_undo 19 = .ok (.getfield 16, 3) := by decide +kernel
theorem dX8_undo_22 : decode cX8_undo 22 = .ok (.invokevirtual 234, 3) := by decide +kernel
theorem dX8_undo_25 : decode cX8_undo 25 = .ok (.aload_n 0, 1) := by decide +kernel
theorem dX8_undo_26 : decode cX8_undo 26 = .ok (.getfield 10, 3) := by decide +kernel
theorem dX8_undo_29 : decode cX8_undo 29 = .ok (.getfield 122, 3) := by decide +kernel
theorem dX8_undo_32 : decode cX8_undo 32 = .ok (.ireturn, 1) := by decide +kernel
theorem dX8_tear_0 : decode cX8_tear 0 = .ok (.aload_n 0, 1) := by decide +kernel
theorem dX8_tear_1 : decode cX8_tear 1 = .ok (.getfield 19, 3) := by decide +kernel
theorem dX8_tear_4 : decode cX8_tear 4 = .ok (.ifCond .eq 7, 3) := by decide +kernel
theorem dX8_tear_7 : decode cX8_tear 7 = .ok (.iconst 1, 1) := by decide +kernel
theorem dX8_tear_8 : decode cX8_tear 8 = .ok (.goto 4, 3) := by decide +kernel
theorem dX8_tear_11 : decode cX8_tear 11 = .ok (.iconst 0, 1) := by decide +kernel
theorem dX8_tear_12 : decode cX8_tear 12 = .ok (.istore_n 1, 1) := by decide +kernel
theorem dX8_tear_13 : decode cX8_tear 13 = .ok (.aload_n 0, 1) := by decide +kernel
theorem dX8_tear_14 : decode cX8_tear 14 = .ok (.iconst 0, 1) := by decide +kernel
theorem dX8_tear_15 : decode cX8_tear 15 = .ok (.putfield 19, 3) := by decide +kernel
theorem dX8_tear_18 : decode cX8_tear 18 = .ok (.iload_n 1, 1) := by decide +kernel
theorem dX8_tear_19 : decode cX8_tear 19 = .ok (.ireturn, 1) := by decide +kernel
set_option maxRecDepth 20000 in
theorem ggX8_count_X1_layersOfAll : GoodIn wsX8_count wsX1_layersOfAll := goodIn_r _ [11, 12, 13, 14, 42, 43, 44, 47, 48, 49, 50, 51] (by decide +kernel) (by decide +kernel)
set_option maxRecDepth 20000 in
theorem gX8_count_X1_layersOfAll : GoodIn wsX8_count (wsV RX8 284 RX1 yX1_layersOfAll wsX1_layersOfAll) := goodIn_app (goodIn_of _ (by decide +kernel)) ggX8_count_X1_layersOfAll
set_option maxRecDepth 20000 in
theorem ggX8_count_X7_lit : GoodIn wsX8_count wsX7_lit := goodIn_r _ [19, 20, 21, 52, 53, 54, 55, 56, 57, 58, 59] (by decide +kernel) (by decide +kernel)
set_option maxRecDepth 20000 in
theorem gX8_count_X7_lit : GoodIn wsX8_count (wsV RX8 287 RX7 yX7_lit wsX7_lit) := goodIn_app (goodIn_of _ (by decide +kernel)) ggX8_count_X7_lit
set_option maxRecDepth 20000 in
theorem ggX8_count_X8_finding : GoodIn wsX8_count wsX8_finding := goodIn_r _ [26, 6, 27, 28, 29, 25, 30, 31, 32, 33, 34, 35, 36, 37, 38, 39, 40, 41] (by decide +kernel) (by decide +kernel)
set_option maxRecDepth 20000 in
theorem gX8_count_X8_finding : GoodIn wsX8_count (wsV RX8 87 RX8 yX8_finding wsX8_finding) := goodIn_app (goodIn_of _ (by decide +kernel)) ggX8_count_X8_finding
theorem dX8_count_0 : decode cX8_count 0 = .ok (.iload_n 1, 1) := by decide +kernel
theorem dX8_count_1 : decode cX8_count 1 = .ok (.tableswitch 66 0 3 #[31, 39, 47, 55], 31) := by decide +kernel
theorem dX8_count_32 : decode cX8_count 32 = .ok (.aload_n 0, 1) := by decide +kernel
theorem dX8_count_33 : decode cX8_count 33 = .ok (.getfield 10, 3) := by decide +kernel
theorem dX8_count_36 : decode cX8_count 36 = .ok (.getfield 122, 3) := by decide +kernel
theorem dX8_count_39 : decode cX8_count 39 = .ok (.ireturn, 1) := by decide +kernel
theorem dX8_count_40 : decode cX8_count 40 = .ok (.aload_n 0, 1) := by decide +kernel
theorem dX8_count_41 : decode cX8_count 41 = .ok (.getfield 10, 3) := by decide +kernel
theorem dX8_count_44 : decode cX8_count 44 = .ok (.invokevirtual 284, 3) := by decide +kernel
theorem dX8_count_47 : decode cX8_count 47 = .ok (.ireturn, 1) := by decide +kernel
theorem dX8_count_48 : decode cX8_count 48 = .ok (.aload_n 0, 1) := by decide +kernel
theorem dX8_count_49 : decode cX8_count 49 = .ok (.getfield 54, 3) := by decide +kernel
theorem dX8_count_52 : decode cX8_count 52 = .ok (.getfield 221, 3) := by decide +kernel
theorem dX8_count_55 : decode cX8_count 55 = .ok (.ireturn, 1) := by decide +kernel
theorem dX8_count_56 : decode cX8_count 56 = .ok (.aload_n 0, 1) := by decide +kernel
theorem dX8_count_57 : decode cX8_count 57 = .ok (.getfield 10, 3) := by decide +kernel
theorem dX8_count_60 : decode cX8_count 60 = .ok (.getfield 91, 3) := by decide +kernel
theorem dX8_count_63 : decode cX8_count 63 = .ok (.invokevirtual 287, 3) := by decide +kernel
theorem dX8_count_66 : decode cX8_count 66 = .ok (.ireturn, 1) := by decide +kernel
theorem dX8_count_67 : decode cX8_count 67 = .ok (.aload_n 0, 1) := by decide +kernel
theorem dX8_count_68 : decode cX8_count 68 = .ok (.ldc 86, 2) := by decide +kernel
theorem dX8_count_70 : decode cX8_count 70 = .ok (.invokevirtual 87, 3) := by decide +kernel
theorem dX8_count_73 : decode cX8_count 73 = .ok (.ireturn, 1) := by decide +kernel
set_option maxRecDepth 20000 in
theorem ggX8_status_X8_within : GoodIn wsX8_status wsX8_within := goodIn_r _ [6] (by decide +kernel) (by decide +kernel)
set_option maxRecDepth 20000 in
theorem gX8_status_X8_within : GoodIn wsX8_status (va_wsS RX8 82 yX8_within wsX8_within) := goodIn_app (goodIn_of _ (by decide +kernel)) ggX8_status_X8_within
set_option maxRecDepth 20000 in
theorem ggX8_status_X8_finding : GoodIn wsX8_status wsX8_finding := goodIn_r _ [10, 1, 2, 3, 4, 5, 6, 11, 12, 13, 14, 15, 16, 17, 18, 19, 20, 21] (by decide +kernel) (by decide +kernel)
set_option maxRecDepth 20000 in
theorem gX8_status_X8_finding : GoodIn wsX8_status (wsV RX8 87 RX8 yX8_finding wsX8_finding) := goodIn_app (goodIn_of _ (by decide +kernel)) ggX8_status_X8_finding
theorem dX8_status_0 : decode cX8_status 0 = .ok (.iload_n 1, 1) := by decide +kernel
theorem dX8_status_1 : decode cX8_status 1 = .ok (.iconst (-1), 1) := by decide +kernel
theorem dX8_status_2 : decode cX8_status 2 = .ok (.bipush 6, 2) := by decide +kernel
theorem dX8_status_4 : decode cX8_status 4 = .ok (.invokestatic 82, 3) := by decide +kernel
theorem dX8_status_7 : decode cX8_status 7 = .ok (.ifCond .ne 10, 3) := by decide +kernel
theorem dX8_status_10 : decode cX8_status 10 = .ok (.aload_n 0, 1) := by decide +kernel
theorem dX8_status_11 : decode cX8_status 11 = .ok (.ldc 86, 2) := by decide +kernel
theorem dX8_status_13 : decode cX8_status 13 = .ok (.invokevirtual 87, 3) := by decide +kernel
theorem dX8_status_16 : decode cX8_status 16 = .ok (.ireturn, 1) := by decide +kernel
theorem dX8_status_17 : decode cX8_status 17 = .ok (.iload_n 1, 1) := by decide +kernel
theorem dX8_status_18 : decode cX8_status 18 = .ok (.ifCond .lt 10, 3) := by decide +kernel
theorem dX8_status_21 : decode cX8_status 21 = .ok (.aload_n 0, 1) := by decide +kernel
theorem dX8_status_22 : decode cX8_status 22 = .ok (.getfield 74, 3) := by decide +kernel
theorem dX8_status_25 : decode cX8_status 25 = .ok (.iload_n 1, 1) := by decide +kernel
theorem dX8_status_26 : decode cX8_status 26 = .ok (.iaload, 1) := by decide +kernel
theorem dX8_status_27 : decode cX8_status 27 = .ok (.ireturn, 1) := by decide +kernel
theorem dX8_status_28 : decode cX8_status 28 = .ok (.iconst 0, 1) := by decide +kernel
theorem dX8_status_29 : decode cX8_status 29 = .ok (.istore_n 2, 1) := by decide +kernel
theorem dX8_status_30 : decode cX8_status 30 = .ok (.iconst 0, 1) := by decide +kernel
theorem dX8_status_31 : decode cX8_status 31 = .ok (.istore_n 3, 1) := by decide +kernel
theorem dX8_status_32 : decode cX8_status 32 = .ok (.iload_n 3, 1) := by decide +kernel
theorem dX8_status_33 : decode cX8_status 33 = .ok (.bipush 7, 2) := by decide +kernel
theorem dX8_status_35 : decode cX8_status 35 = .ok (.if_icmp .ge 18, 3) := by decide +kernel
theorem dX8_status_38 : decode cX8_status 38 = .ok (.iload_n 2, 1) := by decide +kernel
theorem dX8_status_39 : decode cX8_status 39 = .ok (.aload_n 0, 1) := by decide +kernel
theorem dX8_status_40 : decode cX8_status 40 = .ok (.getfield 74, 3) := by decide +kernel
theorem dX8_status_43 : decode cX8_status 43 = .ok (.iload_n 3, 1) := by decide +kernel
theorem dX8_status_44 : decode cX8_status 44 = .ok (.iaload, 1) := by decide +kernel
theorem dX8_status_45 : decode cX8_status 45 = .ok (.iadd, 1) := by decide +kernel
theorem dX8_status_46 : decode cX8_status 46 = .ok (.istore_n 2, 1) := by decide +kernel
theorem dX8_status_47 : decode cX8_status 47 = .ok (.iinc 3 1, 3) := by decide +kernel
theorem dX8_status_50 : decode cX8_status 50 = .ok (.goto (-18), 3) := by decide +kernel
theorem dX8_status_53 : decode cX8_status 53 = .ok (.iload_n 2, 1) := by decide +kernel
theorem dX8_status_54 : decode cX8_status 54 = .ok (.ireturn, 1) := by decide +kernel
set_option maxRecDepth 20000 in
theorem ggX8_finding_X8_within : GoodIn wsX8_finding wsX8_within := goodIn_r _ [6] (by decide +kernel) (by decide +kernel)
set_option maxRecDepth 20000 in
theorem gX8_finding_X8_within : GoodIn wsX8_finding (va_wsS RX8 82 yX8_within wsX8_within) := goodIn_app (goodIn_of _ (by decide +kernel)) ggX8_finding_X8_within
theorem dX8_finding_0 : decode cX8_finding 0 = .ok (.ldc 86, 2) := by decide +kernel
theorem dX8_finding_2 : decode cX8_finding 2 = .ok (.iload_n 1, 1) := by decide +kernel
theorem dX8_finding_3 : decode cX8_finding 3 = .ok (.isub, 1) := by decide +kernel
theorem dX8_finding_4 : decode cX8_finding 4 = .ok (.istore_n 2, 1) := by decide +kernel
theorem dX8_finding_5 : decode cX8_finding 5 = .ok (.iload_n 2, 1) := by decide +kernel
theorem dX8_finding_6 : decode cX8_finding 6 = .ok (.iconst 0, 1) := by decide +kernel
theorem dX8_finding_7 : decode cX8_finding 7 = .ok (.bipush 6, 2) := by decide +kernel
theorem dX8_finding_9 : decode cX8_finding 9 = .ok (.invokestatic 82, 3) := by decide +kernel
theorem dX8_finding_12 : decode cX8_finding 12 = .ok (.ifCond .eq 13, 3) := by decide +kernel
theorem dX8_finding_15 : decode cX8_finding 15 = .ok (.aload_n 0, 1) := by decide +kernel
theorem dX8_finding_16 : decode cX8_finding 16 = .ok (.getfield 74, 3) := by decide +kernel
theorem dX8_finding_19 : decode cX8_finding 19 = .ok (.iload_n 2, 1) := by decide +kernel
theorem dX8_finding_20 : decode cX8_finding 20 = .ok (.dup2, 1) := by decide +kernel
theorem dX8_finding_21 : decode cX8_finding 21 = .ok (.iaload, 1) := by decide +kernel
theorem dX8_finding_22 : decode cX8_finding 22 = .ok (.iconst 1, 1) := by decide +kernel
theorem dX8_finding_23 : decode cX8_finding 23 = .ok (.iadd, 1) := by decide +kernel
theorem dX8_finding_24 : decode cX8_finding 24 = .ok (.iastore, 1) := by decide +kernel
theorem dX8_finding_25 : decode cX8_finding 25 = .ok (.iload_n 1, 1) := by decide +kernel
theorem dX8_finding_26 : decode cX8_finding 26 = .ok (.ireturn, 1) := by decide +kernel
set_option maxRecDepth 20000 in
theorem ggX8_wrongSheet_X8_isSheet : GoodIn wsX8_wrongSheet wsX8_isSheet := goodIn_r _ [7, 8, 9, 6, 10] (by decide +kernel) (by decide +kernel)
set_option maxRecDepth 20000 in
theorem gX8_wrongSheet_X8_isSheet : GoodIn wsX8_wrongSheet (va_wsS RX8 237 yX8_isSheet wsX8_isSheet) := goodIn_app (goodIn_of _ (by decide +kernel)) ggX8_wrongSheet_X8_isSheet
set_option maxRecDepth 20000 in
theorem ggX8_wrongSheet_X3_isMissing : GoodIn wsX8_wrongSheet wsX3_isMissing := goodIn_r _ [15, 16, 28, 29, 30] (by decide +kernel) (by decide +kernel)
set_option maxRecDepth 20000 in
theorem gX8_wrongSheet_X3_isMissing : GoodIn wsX8_wrongSheet (wsV RX8 245 RX3 yX3_isMissing wsX3_isMissing) := goodIn_app (goodIn_of _ (by decide +kernel)) ggX8_wrongSheet_X3_isMissing
theorem dX8_wrongSheet_0 : decode cX8_wrongSheet 0 = .ok (.iload_n 1, 1) := by decide +kernel
theorem dX8_wrongSheet_1 : decode cX8_wrongSheet 1 = .ok (.invokestatic 237, 3) := by decide +kernel
theorem dX8_wrongSheet_4 : decode cX8_wrongSheet 4 = .ok (.ifCond .ne 6, 3) := by decide +kernel
theorem dX8_wrongSheet_7 : decode cX8_wrongSheet 7 = .ok (.ldc 86, 2) := by decide +kernel
theorem dX8_wrongSheet_9 : decode cX8_wrongSheet 9 = .ok (.ireturn, 1) := by decide +kernel
theorem dX8_wrongSheet_10 : decode cX8_wrongSheet 10 = .ok (.aload_n 0, 1) := by decide +kernel
theorem dX8_wrongSheet_11 : decode cX8_wrongSheet 11 = .ok (.getfield 69, 3) := by decide +kernel
theorem dX8_wrongSheet_14 : decode cX8_wrongSheet 14 = .ok (.iload_n 1, 1) := by decide +kernel
theorem dX8_wrongSheet_15 : decode cX8_wrongSheet 15 = .ok (.aaload, 1) := by decide +kernel
theorem dX8_wrongSheet_16 : decode cX8_wrongSheet 16 = .ok (.invokevirtual 245, 3) := by decide +kernel
theorem dX8_wrongSheet_19 : decode cX8_wrongSheet 19 = .ok (.ifCond .eq 8, 3) := by decide +kernel
theorem dX8_wrongSheet_22 : decode cX8_wrongSheet 22 = .ok (.ldc 248, 2) := by decide +kernel
theorem dX8_wrongSheet_24 : decode cX8_wrongSheet 24 = .ok (.goto 4, 3) := by decide +kernel
theorem dX8_wrongSheet_27 : decode cX8_wrongSheet 27 = .ok (.iconst 0, 1) := by decide +kernel
theorem dX8_wrongSheet_28 : decode cX8_wrongSheet 28 = .ok (.ireturn, 1) := by decide +kernel
set_option maxRecDepth 20000 in
theorem ggX8_minutesBehind_X0_become : GoodIn wsX8_minutesBehind wsX0_become := goodIn_r _ [8, 9, 10, 11, 12, 13, 14, 15, 16, 17, 99, 100, 101, 102, 103] (by decide +kernel) (by decide +kernel)
set_option maxRecDepth 20000 in
theorem gX8_minutesBehind_X0_become : GoodIn wsX8_minutesBehind (wsV RX8 290 RX0 yX0_become wsX0_become) := goodIn_app (goodIn_of _ (by decide +kernel)) ggX8_minutesBehind_X0_become
set_option maxRecDepth 20000 in
theorem ggX8_minutesBehind_X6_become : GoodIn wsX8_minutesBehind wsX6_become := goodIn_r _ [22, 23, 24, 25, 26, 104, 105, 106, 107] (by decide +kernel) (by decide +kernel)
set_option maxRecDepth 20000 in
theorem gX8_minutesBehind_X6_become : GoodIn wsX8_minutesBehind (wsV RX8 293 RX6 yX6_become wsX6_become) := goodIn_app (goodIn_of _ (by decide +kernel)) ggX8_minutesBehind_X6_become
set_option maxRecDepth 20000 in
theorem ggX8_minutesBehind_X0_dipInto : GoodIn wsX8_minutesBehind wsX0_dipInto := goodIn_r _ [30, 31, 32, 33, 34, 35, 7, 36, 10, 37, 38, 39, 40, 9, 41, 42, 43, 44, 45, 46, 47, 48, 49, 50, 21, 51, 25, 52, 53, 54, 55, 56, 57, 58, 59, 12, 13, 11, 60, 61, 62, 63, 64, 65, 66, 67, 68, 69, 70, 71, 72, 73, 74, 75, 76, 77, 78, 79, 80, 24, 81, 82, 83, 104, 105, 106, 107, 99, 100, 101, 102, 103] (by decide +kernel) (by decide +kernel)
set_option maxRecDepth 20000 in
theorem gX8_minutesBehind_X0_dipInto : GoodIn wsX8_minutesBehind (wsV RX8 166 RX0 yX0_dipInto wsX0_dipInto) := goodIn_app (goodIn_of _ (by decide +kernel)) ggX8_minutesBehind_X0_dipInto
set_option maxRecDepth 20000 in
theorem ggX8_minutesBehind_X0_minutes : GoodIn wsX8_minutesBehind wsX0_minutes := goodIn_r _ [87, 11, 12, 9, 67, 53, 54, 55, 99, 100, 101, 102, 103] (by decide +kernel) (by decide +kernel)
set_option maxRecDepth 20000 in
theorem gX8_minutesBehind_X0_minutes : GoodIn wsX8_minutesBehind (wsV RX8 143 RX0 yX0_minutes wsX0_minutes) := goodIn_app (goodIn_of _ (by decide +kernel)) ggX8_minutesBehind_X0_minutes
theorem dX8_minutesBehind_0 : decode cX8_minutesBehind 0 = .ok (.aload_n 0, 1) := by decide +kernel
theorem dX8_minutesBehind_1 : decode cX8_minutesBehind 1 = .ok (.getfield 33, 3) := by decide +kernel
theorem dX8_minutesBehind_4 : decode cX8_minutesBehind 4 = .ok (.aload_n 1, 1) := by decide +kernel
theorem dX8_minutesBehind_5 : decode cX8_minutesBehind 5 = .ok (.invokevirtual 290, 3) := by decide +kernel
theorem dX8_minutesBehind_8 : decode cX8_minutesBehind 8 = .ok (.aload_n 0, 1) := by decide +kernel
theorem dX8_minutesBehind_9 : decode cX8_minutesBehind 9 = .ok (.getfield 33, 3) := by decide +kernel
theorem dX8_minutesBehind_12 : decode cX8_minutesBehind 12 = .ok (.iload_n 2, 1) := by decide +kernel
theorem dX8_minutesBehind_13 : decode cX8_minutesBehind 13 = .ok (.putfield 132, 3) := by decide +kernel
theorem dX8_minutesBehind_16 : decode cX8_minutesBehind 16 = .ok (.aload_n 0, 1) := by decide +kernel
theorem dX8_minutesBehind_17 : decode cX8_minutesBehind 17 = .ok (.getfield 40, 3) := by decide +kernel
theorem dX8_minutesBehind_20 : decode cX8_minutesBehind 20 = .ok (.aload_n 3, 1) := by decide +kernel
theorem dX8_minutesBehind_21 : decode cX8_minutesBehind 21 = .ok (.invokevirtual 293, 3) := by decide +kernel
theorem dX8_minutesBehind_24 : decode cX8_minutesBehind 24 = .ok (.iconst 0, 1) := by decide +kernel
theorem dX8_minutesBehind_25 : decode cX8_minutesBehind 25 = .ok (.istore 5, 2) := by decide +kernel
theorem dX8_minutesBehind_27 : decode cX8_minutesBehind 27 = .ok (.iload 5, 2) := by decide +kernel
theorem dX8_minutesBehind_29 : decode cX8_minutesBehind 29 = .ok (.iload 4, 2) := by decide +kernel
theorem dX8_minutesBehind_31 : decode cX8_minutesBehind 31 = .ok (.if_icmp .ge 20, 3) := by decide +kernel
theorem dX8_minutesBehind_34 : decode cX8_minutesBehind 34 = .ok (.aload_n 0, 1) := by decide +kernel
theorem dX8_minutesBehind_35 : decode cX8_minutesBehind 35 = .ok (.getfield 33, 3) := by decide +kernel
theorem dX8_minutesBehind_38 : decode cX8_minutesBehind 38 = .ok (.aload_n 0, 1) := by decide +kernel
theorem dX8_minutesBehind_39 : decode cX8_minutesBehind 39 = .ok (.getfield 40, 3) := by decide +kernel
theorem dX8_minutesBehind_42 : decode cX8_minutesBehind 42 = .ok (.invokevirtual 166, 3) := by decide +kernel
theorem dX8_minutesBehind_45 : decode cX8_minutesBehind 45 = .ok (.iinc 5 1, 3) := by decide +kernel
theorem dX8_minutesBehind_48 : decode cX8_minutesBehind 48 = .ok (.goto (-21), 3) := by decide +kernel
theorem dX8_minutesBehind_51 : decode cX8_minutesBehind 51 = .ok (.aload_n 0, 1) := by decide +kernel
theorem dX8_minutesBehind_52 : decode cX8_minutesBehind 52 = .ok (.getfield 33, 3) := by decide +kernel
theorem dX8_minutesBehind_55 : decode cX8_minutesBehind 55 = .ok (.invokevirtual 143, 3) := by decide +kernel
theorem dX8_minutesBehind_58 : decode cX8_minutesBehind 58 = .ok (.ireturn, 1) := by decide +kernel
set_option maxRecDepth 20000 in
theorem ggX8_fewestDips_X2_walk : GoodIn wsX8_fewestDips wsX2_walk := goodIn_r _ [9, 10, 11, 12, 13, 14, 15, 16, 17, 18, 19, 20, 21, 22, 23, 24, 25, 26, 27, 28, 29, 30, 31, 32, 33, 34, 35, 36, 37, 38, 39, 40, 41, 42, 43, 44, 45, 46, 47, 48, 49, 50, 51, 8, 52, 53, 54, 55, 56, 57, 58, 59, 60, 61, 62, 63, 64, 65, 66, 67, 68, 69, 70, 71, 72, 73, 74, 75, 76, 77, 78, 79, 80, 81, 82, 83, 84, 85, 86, 87, 88, 89, 90, 91, 92, 93, 94, 95, 96, 97, 98, 99, 100, 101, 102, 103, 104, 105, 106, 107, 108, 109, 110, 111, 112, 113, 114, 115, 116, 117, 118, 119, 120, 121, 122, 123, 124, 139, 140, 141, 142, 143, 144, 145, 146, 147, 148, 149, 150, 151, 152, 153, 154, 155, 156, 157, 158] (by decide +kernel) (by decide +kernel)
set_option maxRecDepth 20000 in
theorem gX8_fewestDips_X2_walk : GoodIn wsX8_fewestDips (wsV RX8 205 RX2 yX2_walk wsX2_walk) := goodIn_app (goodIn_of _ (by decide +kernel)) ggX8_fewestDips_X2_walk
theorem dX8_fewestDips_0 : decode cX8_fewestDips 0 = .ok (.iconst 0, 1) := by decide +kernel
theorem dX8_fewestDips_1 : decode cX8_fewestDips 1 = .ok (.istore_n 3, 1) := by decide +kernel
theorem dX8_fewestDips_2 : decode cX8_fewestDips 2 = .ok (.iload_n 3, 1) := by decide +kernel
theorem dX8_fewestDips_3 : decode cX8_fewestDips 3 = .ok (.bipush 6, 2) := by decide +kernel
theorem dX8_fewestDips_5 : decode cX8_fewestDips 5 = .ok (.if_icmp .gt 38, 3) := by decide +kernel
theorem dX8_fewestDips_8 : decode cX8_fewestDips 8 = .ok (.aload_n 0, 1) := by decide +kernel
theorem dX8_fewestDips_9 : decode cX8_fewestDips 9 = .ok (.getfield 47, 3) := by decide +kernel
theorem dX8_fewestDips_12 : decode cX8_fewestDips 12 = .ok (.aload_n 0, 1) := by decide +kernel
theorem dX8_fewestDips_13 : decode cX8_fewestDips 13 = .ok (.getfield 10, 3) := by decide +kernel
theorem dX8_fewestDips_16 : decode cX8_fewestDips 16 = .ok (.getfield 91, 3) := by decide +kernel
theorem dX8_fewestDips_19 : decode cX8_fewestDips 19 = .ok (.aload_n 1, 1) := by decide +kernel
theorem dX8_fewestDips_20 : decode cX8_fewestDips 20 = .ok (.iload_n 3, 1) := by decide +kernel
theorem dX8_fewestDips_21 : decode cX8_fewestDips 21 = .ok (.iload_n 2, 1) := by decide +kernel
theorem dX8_fewestDips_22 : decode cX8_fewestDips 22 = .ok (.invokevirtual 205, 3) := by decide +kernel
theorem dX8_fewestDips_25 : decode cX8_fewestDips 25 = .ok (.aload_n 0, 1) := by decide +kernel
theorem dX8_fewestDips_26 : decode cX8_fewestDips 26 = .ok (.getfield 47, 3) := by decide +kernel
theorem dX8_fewestDips_29 : decode cX8_fewestDips 29 = .ok (.getfield 202, 3) := by decide +kernel
theorem dX8_fewestDips_32 : decode cX8_fewestDips 32 = .ok (.ifCond .lt 5, 3) := by decide +kernel
theorem dX8_fewestDips_35 : decode cX8_fewestDips 35 = .ok (.iload_n 3, 1) := by decide +kernel
theorem dX8_fewestDips_36 : decode cX8_fewestDips 36 = .ok (.ireturn, 1) := by decide +kernel
theorem dX8_fewestDips_37 : decode cX8_fewestDips 37 = .ok (.iinc 3 1, 3) := by decide +kernel
theorem dX8_fewestDips_40 : decode cX8_fewestDips 40 = .ok (.goto (-38), 3) := by decide +kernel
theorem dX8_fewestDips_43 : decode cX8_fewestDips 43 = .ok (.iconst (-1), 1) := by decide +kernel
theorem dX8_fewestDips_44 : decode cX8_fewestDips 44 = .ok (.ireturn, 1) := by decide +kernel
theorem dX8_within_0 : decode cX8_within 0 = .ok (.iload_n 0, 1) := by decide +kernel
theorem dX8_within_1 : decode cX8_within 1 = .ok (.iload_n 1, 1) := by decide +kernel
theorem dX8_within_2 : decode cX8_within 2 = .ok (.if_icmp .lt 12, 3) := by decide +kernel
theorem dX8_within_5 : decode cX8_within 5 = .ok (.iload_n 0, 1) := by decide +kernel
theorem dX8_within_6 : decode cX8_within 6 = .ok (.iload_n 2, 1) := by decide +kernel
theorem dX8_within_7 : decode cX8_within 7 = .ok (.if_icmp .gt 7, 3) := by decide +kernel
theorem dX8_within_10 : decode cX8_within 10 = .ok (.iconst 1, 1) := by decide +kernel
theorem dX8_within_11 : decode cX8_within 11 = .ok (.goto 4, 3) := by decide +kernel
theorem dX8_within_14 : decode cX8_within 14 = .ok (.iconst 0, 1) := by decide +kernel
theorem dX8_within_15 : decode cX8_within 15 = .ok (.ireturn, 1) := by decide +kernel
set_option maxRecDepth 20000 in
theorem ggX8_isVat_X8_within : GoodIn wsX8_isVat wsX8_within := goodIn_r _ [4] (by decide +kernel) (by decide +kernel)
set_option maxRecDepth 20000 in
theorem gX8_isVat_X8_within : GoodIn wsX8_isVat (va_wsS RX8 82 yX8_within wsX8_within) := goodIn_app (goodIn_of _ (by decide +kernel)) ggX8_isVat_X8_within
theorem dX8_isVat_0 : decode cX8_isVat 0 = .ok (.iload_n 0, 1) := by decide +kernel
theorem dX8_isVat_1 : decode cX8_isVat 1 = .ok (.iconst 0, 1) := by decide +kernel
theorem dX8_isVat_2 : decode cX8_isVat 2 = .ok (.iconst 3, 1) := by decide +kernel
theorem dX8_isVat_3 : decode cX8_isVat 3 = .ok (.invokestatic 82, 3) := by decide +kernel
theorem dX8_isVat_6 : decode cX8_isVat 6 = .ok (.ireturn, 1) := by decide +kernel
set_option maxRecDepth 20000 in
theorem ggX8_isKind_X8_within : GoodIn wsX8_isKind wsX8_within := goodIn_r _ [4] (by decide +kernel) (by decide +kernel)
set_option maxRecDepth 20000 in
theorem gX8_isKind_X8_within : GoodIn wsX8_isKind (va_wsS RX8 82 yX8_within wsX8_within) := goodIn_app (goodIn_of _ (by decide +kernel)) ggX8_isKind_X8_within
theorem dX8_isKind_0 : decode cX8_isKind 0 = .ok (.iload_n 0, 1) := by decide +kernel
theorem dX8_isKind_1 : decode cX8_isKind 1 = .ok (.iconst 0, 1) := by decide +kernel
theorem dX8_isKind_2 : decode cX8_isKind 2 = .ok (.iconst 5, 1) := by decide +kernel
theorem dX8_isKind_3 : decode cX8_isKind 3 = .ok (.invokestatic 82, 3) := by decide +kernel
theorem dX8_isKind_6 : decode cX8_isKind 6 = .ok (.ireturn, 1) := by decide +kernel
set_option maxRecDepth 20000 in
theorem ggX8_isSheet_X8_within : GoodIn wsX8_isSheet wsX8_within := goodIn_r _ [4] (by decide +kernel) (by decide +kernel)
set_option maxRecDepth 20000 in
theorem gX8_isSheet_X8_within : GoodIn wsX8_isSheet (va_wsS RX8 82 yX8_within wsX8_within) := goodIn_app (goodIn_of _ (by decide +kernel)) ggX8_isSheet_X8_within
theorem dX8_isSheet_0 : decode cX8_isSheet 0 = .ok (.iload_n 0, 1) := by decide +kernel
theorem dX8_isSheet_1 : decode cX8_isSheet 1 = .ok (.iconst 0, 1) := by decide +kernel
theorem dX8_isSheet_2 : decode cX8_isSheet 2 = .ok (.iconst 3, 1) := by decide +kernel
theorem dX8_isSheet_3 : decode cX8_isSheet 3 = .ok (.invokestatic 82, 3) := by decide +kernel
theorem dX8_isSheet_6 : decode cX8_isSheet 6 = .ok (.ireturn, 1) := by decide +kernel
set_option maxRecDepth 20000 in
theorem ggX8_isUnder_X8_isKind : GoodIn wsX8_isUnder wsX8_isKind := goodIn_r _ [5, 6, 7, 4, 8] (by decide +kernel) (by decide +kernel)
set_option maxRecDepth 20000 in
theorem gX8_isUnder_X8_isKind : GoodIn wsX8_isUnder (va_wsS RX8 115 yX8_isKind wsX8_isKind) := goodIn_app (goodIn_of _ (by decide +kernel)) ggX8_isUnder_X8_isKind
theorem dX8_isUnder_0 : decode cX8_isUnder 0 = .ok (.iload_n 0, 1) := by decide +kernel
theorem dX8_isUnder_1 : decode cX8_isUnder 1 = .ok (.istore_n 2, 1) := by decide +kernel
theorem dX8_isUnder_2 : decode cX8_isUnder 2 = .ok (.iconst 0, 1) := by decide +kernel
theorem dX8_isUnder_3 : decode cX8_isUnder 3 = .ok (.istore_n 3, 1) := by decide +kernel
theorem dX8_isUnder_4 : decode cX8_isUnder 4 = .ok (.iload_n 3, 1) := by decide +kernel
theorem dX8_isUnder_5 : decode cX8_isUnder 5 = .ok (.bipush 6, 2) := by decide +kernel
theorem dX8_isUnder_7 : decode cX8_isUnder 7 = .ok (.if_icmp .ge 29, 3) := by decide +kernel
theorem dX8_isUnder_10 : decode cX8_isUnder 10 = .ok (.iload_n 2, 1) := by decide +kernel
theorem dX8_isUnder_11 : decode cX8_isUnder 11 = .ok (.invokestatic 115, 3) := by decide +kernel
theorem dX8_isUnder_14 : decode cX8_isUnder 14 = .ok (.ifCond .eq 22, 3) := by decide +kernel
theorem dX8_isUnder_17 : decode cX8_isUnder 17 = .ok (.iload_n 2, 1) := by decide +kernel
theorem dX8_isUnder_18 : decode cX8_isUnder 18 = .ok (.iload_n 1, 1) := by decide +kernel
theorem dX8_isUnder_19 : decode cX8_isUnder 19 = .ok (.if_icmp .ne 5, 3) := by decide +kernel
theorem dX8_isUnder_22 : decode cX8_isUnder 22 = .ok (.iconst 1, 1) := by decide +kernel
theorem dX8_isUnder_23 : decode cX8_isUnder 23 = .ok (.ireturn, 1) := by decide +kernel
theorem dX8_isUnder_24 : decode cX8_isUnder 24 = .ok (.getstatic 295, 3) := by decide +kernel
theorem dX8_isUnder_27 : decode cX8_isUnder 27 = .ok (.iload_n 2, 1) := by decide +kernel
theorem dX8_isUnder_28 : decode cX8_isUnder 28 = .ok (.iaload, 1) := by decide +kernel
theorem dX8_isUnder_29 : decode cX8_isUnder 29 = .ok (.istore_n 2, 1) := by decide +kernel
theorem dX8_isUnder_30 : decode cX8_isUnder 30 = .ok (.iinc 3 1, 3) := by decide +kernel
theorem dX8_isUnder_33 : decode cX8_isUnder 33 = .ok (.goto (-29), 3) := by decide +kernel
theorem dX8_isUnder_36 : decode cX8_isUnder 36 = .ok (.iconst 0, 1) := by decide +kernel
theorem dX8_isUnder_37 : decode cX8_isUnder 37 = .ok (.ireturn, 1) := by decide +kernel
theorem dX8_plainGain_0 : decode cX8_plainGain 0 = .ok (.iload_n 0, 1) := by decide +kernel
theorem dX8_plainGain_1 : decode cX8_plainGain 1 = .ok (.bipush 30, 2) := by decide +kernel
theorem dX8_plainGain_3 : decode cX8_plainGain 3 = .ok (.if_icmp .ge 6, 3) := by decide +kernel
theorem dX8_plainGain_6 : decode cX8_plainGain 6 = .ok (.bipush 9, 2) := by decide +kernel
theorem dX8_plainGain_8 : decode cX8_plainGain 8 = .ok (.ireturn, 1) := by decide +kernel
theorem dX8_plainGain_9 : decode cX8_plainGain 9 = .ok (.iload_n 0, 1) := by decide +kernel
theorem dX8_plainGain_10 : decode cX8_plainGain 10 = .ok (.bipush 60, 2) := by decide +kernel
theorem dX8_plainGain_12 : decode cX8_plainGain 12 = .ok (.if_icmp .ge 6, 3) := by decide +kernel
theorem dX8_plainGain_15 : decode cX8_plainGain 15 = .ok (.bipush 6, 2) := by decide +kernel
theorem dX8_plainGain_17 : decode cX8_plainGain 17 = .ok (.ireturn, 1) := by decide +kernel
theorem dX8_plainGain_18 : decode cX8_plainGain 18 = .ok (.iload_n 0, 1) := by decide +kernel
theorem dX8_plainGain_19 : decode cX8_plainGain 19 = .ok (.bipush 80, 2) := by decide +kernel
theorem dX8_plainGain_21 : decode cX8_plainGain 21 = .ok (.if_icmp .ge 7, 3) := by decide +kernel
theorem dX8_plainGain_24 : decode cX8_plainGain 24 = .ok (.iconst 4, 1) := by decide +kernel
theorem dX8_plainGain_25 : decode cX8_plainGain 25 = .ok (.goto 5, 3) := by decide +kernel
theorem dX8_plainGain_28 : decode cX8_plainGain 28 = .ok (.bipush (-5), 2) := by decide +kernel
theorem dX8_plainGain_30 : decode cX8_plainGain 30 = .ok (.ireturn, 1) := by decide +kernel
theorem dX8_altarGain_0 : decode cX8_altarGain 0 = .ok (.iload_n 0, 1) := by decide +kernel
theorem dX8_altarGain_1 : decode cX8_altarGain 1 = .ok (.iconst 1, 1) := by decide +kernel
theorem dX8_altarGain_2 : decode cX8_altarGain 2 = .ok (.if_icmp .le 9, 3) := by decide +kernel
theorem dX8_altarGain_5 : decode cX8_altarGain 5 = .ok (.iload_n 0, 1) := by decide +kernel
theorem dX8_altarGain_6 : decode cX8_altarGain 6 = .ok (.iconst 1, 1) := by decide +kernel
theorem dX8_altarGain_7 : decode cX8_altarGain 7 = .ok (.isub, 1) := by decide +kernel
theorem dX8_altarGain_8 : decode cX8_altarGain 8 = .ok (.goto 4, 3) := by decide +kernel
theorem dX8_altarGain_11 : decode cX8_altarGain 11 = .ok (.iload_n 0, 1) := by decide +kernel
theorem dX8_altarGain_12 : decode cX8_altarGain 12 = .ok (.ireturn, 1) := by decide +kernel
theorem dX8_moreIfAny_0 : decode cX8_moreIfAny 0 = .ok (.iload_n 0, 1) := by decide +kernel
theorem dX8_moreIfAny_1 : decode cX8_moreIfAny 1 = .ok (.ifCond .le 9, 3) := by decide +kernel
theorem dX8_moreIfAny_4 : decode cX8_moreIfAny 4 = .ok (.iload_n 0, 1) := by decide +kernel
theorem dX8_moreIfAny_5 : decode cX8_moreIfAny 5 = .ok (.iload_n 1, 1) := by decide +kernel
theorem dX8_moreIfAny_6 : decode cX8_moreIfAny 6 = .ok (.iadd, 1) := by decide +kernel
theorem dX8_moreIfAny_7 : decode cX8_moreIfAny 7 = .ok (.goto 4, 3) := by decide +kernel
theorem dX8_moreIfAny_10 : decode cX8_moreIfAny 10 = .ok (.iload_n 0, 1) := by decide +kernel
theorem dX8_moreIfAny_11 : decode cX8_moreIfAny 11 = .ok (.ireturn, 1) := by decide +kernel
