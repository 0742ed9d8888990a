set_option maxRecDepth 20000 in
theorem ggX9_init_X9_setVat : GoodIn wsX9_init wsX9_setVat := goodIn_r _ [21, 5, 22, 23, 24, 25, 26, 27, 28, 29, 30, 31, 32, 33, 34, 35, 36, 37, 38, 39, 40, 41] (by decide +kernel) (by decide +kernel)
set_option maxRecDepth 20000 in
theorem gX9_init_X9_setVat : GoodIn wsX9_init (wsV RX9 44 RX9 yX9_setVat wsX9_setVat) := goodIn_app (goodIn_of _ (by decide +kernel)) ggX9_init_X9_setVat
theorem dX9_init_0 : decode cX9_init 0 = .ok (.aload_n 0, 1) := by decide +kernel
theorem dX9_init_1 : decode cX9_init 1 = .ok (.invokespecial 1, 3) := by decide +kernel
theorem dX9_init_4 : decode cX9_init 4 = .ok (.aload_n 0, 1) := by decide +kernel
theorem dX9_init_5 : decode cX9_init 5 = .ok (.sipush 440, 3) := by decide +kernel
theorem dX9_init_8 : decode cX9_init 8 = .ok (.newarray .int, 2) := by decide +kernel
theorem dX9_init_10 : decode cX9_init 10 = .ok (.putfield 7, 3) := by decide +kernel
theorem dX9_init_13 : decode cX9_init 13 = .ok (.aload_n 0, 1) := by decide +kernel
theorem dX9_init_14 : decode cX9_init 14 = .ok (.bipush 7, 2) := by decide +kernel
theorem dX9_init_16 : decode cX9_init 16 = .ok (.newarray .int, 2) := by decide +kernel
theorem dX9_init_18 : decode cX9_init 18 = .ok (.putfield 13, 3) := by decide +kernel
theorem dX9_init_21 : decode cX9_init 21 = .ok (.aload_n 0, 1) := by decide +kernel
theorem dX9_init_22 : decode cX9_init 22 = .ok (.sipush 440, 3) := by decide +kernel
theorem dX9_init_25 : decode cX9_init 25 = .ok (.newarray .int, 2) := by decide +kernel
theorem dX9_init_27 : decode cX9_init 27 = .ok (.putfield 16, 3) := by decide +kernel
theorem dX9_init_30 : decode cX9_init 30 = .ok (.aload_n 0, 1) := by decide +kernel
theorem dX9_init_31 : decode cX9_init 31 = .ok (.bipush 58, 2) := by decide +kernel
theorem dX9_init_33 : decode cX9_init 33 = .ok (.newarray .int, 2) := by decide +kernel
theorem dX9_init_35 : decode cX9_init 35 = .ok (.putfield 19, 3) := by decide +kernel
theorem dX9_init_38 : decode cX9_init 38 = .ok (.aload_n 0, 1) := by decide +kernel
theorem dX9_init_39 : decode cX9_init 39 = .ok (.bipush 120, 2) := by decide +kernel
theorem dX9_init_41 : decode cX9_init 41 = .ok (.newarray .int, 2) := by decide +kernel
theorem dX9_init_43 : decode cX9_init 43 = .ok (.putfield 22, 3) := by decide +kernel
theorem dX9_init_46 : decode cX9_init 46 = .ok (.aload_n 0, 1) := by decide +kernel
theorem dX9_init_47 : decode cX9_init 47 = .ok (.iconst 4, 1) := by decide +kernel
theorem dX9_init_48 : decode cX9_init 48 = .ok (.newarray .int, 2) := by decide +kernel
theorem dX9_init_50 : decode cX9_init 50 = .ok (.putfield 25, 3) := by decide +kernel
theorem dX9_init_53 : decode cX9_init 53 = .ok (.aload_n 0, 1) := by decide +kernel
theorem dX9_init_54 : decode cX9_init 54 = .ok (.iconst 4, 1) := by decide +kernel
theorem dX9_init_55 : decode cX9_init 55 = .ok (.newarray .int, 2) := by decide +kernel
theorem dX9_init_57 : decode cX9_init 57 = .ok (.putfield 28, 3) := by decide +kernel
theorem dX9_init_60 : decode cX9_init 60 = .ok (.aload_n 0, 1) := by decide +kernel
theorem dX9_init_61 : decode cX9_init 61 = .ok (.sipush 160, 3) := by decide +kernel
theorem dX9_init_64 : decode cX9_init 64 = .ok (.newarray .long, 2) := by decide +kernel
theorem dX9_init_66 : decode cX9_init 66 = .ok (.putfield 31, 3) := by decide +kernel
theorem dX9_init_69 : decode cX9_init 69 = .ok (.aload_n 0, 1) := by decide +kernel
theorem dX9_init_70 : decode cX9_init 70 = .ok (.bipush 40, 2) := by decide +kernel
theorem dX9_init_72 : decode cX9_init 72 = .ok (.newarray .long, 2) := by decide +kernel
theorem dX9_init_74 : decode cX9_init 74 = .ok (.putfield 35, 3) := by decide +kernel
theorem dX9_init_77 : decode cX9_init 77 = .ok (.aload_n 0, 1) := by decide +kernel
theorem dX9_init_78 : decode cX9_init 78 = .ok (.sipush 440, 3) := by decide +kernel
theorem dX9_init_81 : decode cX9_init 81 = .ok (.newarray .int, 2) := by decide +kernel
theorem dX9_init_83 : decode cX9_init 83 = .ok (.putfield 38, 3) := by decide +kernel
theorem dX9_init_86 : decode cX9_init 86 = .ok (.aload_n 0, 1) := by decide +kernel
theorem dX9_init_87 : decode cX9_init 87 = .ok (.sipush 440, 3) := by decide +kernel
theorem dX9_init_90 : decode cX9_init 90 = .ok (.newarray .int, 2) := by decide +kernel
theorem dX9_init_92 : decode cX9_init 92 = .ok (.putfield 41, 3) := by decide +kernel
theorem dX9_init_95 : decode cX9_init 95 = .ok (.aload_n 0, 1) := by decide +kernel
theorem dX9_init_96 : decode cX9_init 96 = .ok (.getfield 7, 3) := by decide +kernel
theorem dX9_init_99 : decode cX9_init 99 = .ok (.iconst 1, 1) := by decide +kernel
theorem dX9_init_100 : decode cX9_init 100 = .ok (.bipush 50, 2) := by decide +kernel
theorem dX9_init_102 : decode cX9_init 102 = .ok (.iastore, 1) := by decide +kernel
theorem dX9_init_103 : decode cX9_init 103 = .ok (.aload_n 0, 1) := by decide +kernel
theorem dX9_init_104 : decode cX9_init 104 = .ok (.getfield 7, 3) := by decide +kernel
theorem dX9_init_107 : decode cX9_init 107 = .ok (.iconst 2, 1) := by decide +kernel
theorem dX9_init_108 : decode cX9_init 108 = .ok (.iconst 2, 1) := by decide +kernel
theorem dX9_init_109 : decode cX9_init 109 = .ok (.iastore, 1) := by decide +kernel
theorem dX9_init_110 : decode cX9_init 110 = .ok (.iconst 0, 1) := by decide +kernel
theorem dX9_init_111 : decode cX9_init 111 = .ok (.istore_n 1, 1) := by decide +kernel
theorem dX9_init_112 : decode cX9_init 112 = .ok (.iload_n 1, 1) := by decide +kernel
theorem dX9_init_113 : decode cX9_init 113 = .ok (.iconst 4, 1) := by decide +kernel
theorem dX9_init_114 : decode cX9_init 114 = .ok (.if_icmp .ge 35, 3) := by decide +kernel
theorem dX9_init_117 : decode cX9_init 117 = .ok (.aload_n 0, 1) := by decide +kernel
theorem dX9_init_118 : decode cX9_init 118 = .ok (.iload_n 1, 1) := by decide +kernel
theorem dX9_init_119 : decode cX9_init 119 = .ok (.iconst 0, 1) := by decide +kernel
theorem dX9_init_120 : decode cX9_init 120 = .ok (.iload_n 1, 1) := by decide +kernel
theorem dX9_init_121 : decode cX9_init 121 = .ok (.iconst 3, 1) := by decide +kernel
theorem dX9_init_122 : decode cX9_init 122 = .ok (.idiv, 1) := by decide +kernel
theorem dX9_init_123 : decode cX9_init 123 = .ok (.invokevirtual 44, 3) := by decide +kernel
theorem dX9_init_126 : decode cX9_init 126 = .ok (.aload_n 0, 1) := by decide +kernel
theorem dX9_init_127 : decode cX9_init 127 = .ok (.iload_n 1, 1) := by decide +kernel
theorem dX9_init_128 : decode cX9_init 128 = .ok (.iconst 1, 1) := by decide +kernel
theorem dX9_init_129 : decode cX9_init 129 = .ok (.bipush 50, 2) := by decide +kernel
theorem dX9_init_131 : decode cX9_init 131 = .ok (.invokevirtual 44, 3) := by decide +kernel
theorem dX9_init_134 : decode cX9_init 134 = .ok (.aload_n 0, 1) := by decide +kernel
theorem dX9_init_135 : decode cX9_init 135 = .ok (.iload_n 1, 1) := by decide +kernel
theorem dX9_init_136 : decode cX9_init 136 = .ok (.iconst 2, 1) := by decide +kernel
theorem dX9_init_137 : decode cX9_init 137 = .ok (.sipush 2000, 3) := by decide +kernel
theorem dX9_init_140 : decode cX9_init 140 = .ok (.invokevirtual 44, 3) := by decide +kernel
theorem dX9_init_143 : decode cX9_init 143 = .ok (.iinc 1 1, 3) := by decide +kernel
theorem dX9_init_146 : decode cX9_init 146 = .ok (.goto (-34), 3) := by decide +kernel
theorem dX9_init_149 : decode cX9_init 149 = .ok (.return_, 1) := by decide +kernel
theorem dX9_in_0 : decode cX9_in 0 = .ok (.iload_n 0, 1) := by decide +kernel
theorem dX9_in_1 : decode cX9_in 1 = .ok (.iload_n 1, 1) := by decide +kernel
theorem dX9_in_2 : decode cX9_in 2 = .ok (.if_icmp .lt 12, 3) := by decide +kernel
theorem dX9_in_5 : decode cX9_in 5 = .ok (.iload_n 0, 1) := by decide +kernel
theorem dX9_in_6 : decode cX9_in 6 = .ok (.iload_n 2, 1) := by decide +kernel
theorem dX9_in_7 : decode cX9_in 7 = .ok (.if_icmp .gt 7, 3) := by decide +kernel
theorem dX9_in_10 : decode cX9_in 10 = .ok (.iconst 1, 1) := by decide +kernel
theorem dX9_in_11 : decode cX9_in 11 = .ok (.goto 4, 3) := by decide +kernel
theorem dX9_in_14 : decode cX9_in 14 = .ok (.iconst 0, 1) := by decide +kernel
theorem dX9_in_15 : decode cX9_in 15 = .ok (.ireturn, 1) := by decide +kernel
theorem dX9_finds_0 : decode cX9_finds 0 = .ok (.aload_n 0, 1) := by decide +kernel
theorem dX9_finds_1 : decode cX9_finds 1 = .ok (.getfield 13, 3) := by decide +kernel
theorem dX9_finds_4 : decode cX9_finds 4 = .ok (.ldc 48, 2) := by decide +kernel
theorem dX9_finds_6 : decode cX9_finds 6 = .ok (.iload_n 1, 1) := by decide +kernel
theorem dX9_finds_7 : decode cX9_finds 7 = .ok (.isub, 1) := by decide +kernel
theorem dX9_finds_8 : decode cX9_finds 8 = .ok (.dup2, 1) := by decide +kernel
theorem dX9_finds_9 : decode cX9_finds 9 = .ok (.iaload, 1) := by decide +kernel
theorem dX9_finds_10 : decode cX9_finds 10 = .ok (.iconst 1, 1) := by decide +kernel
theorem dX9_finds_11 : decode cX9_finds 11 = .ok (.iadd, 1) := by decide +kernel
theorem dX9_finds_12 : decode cX9_finds 12 = .ok (.iastore, 1) := by decide +kernel
theorem dX9_finds_13 : decode cX9_finds 13 = .ok (.iload_n 1, 1) := by decide +kernel
theorem dX9_finds_14 : decode cX9_finds 14 = .ok (.ireturn, 1) := by decide +kernel
set_option maxRecDepth 20000 in
theorem ggX9_isVat_X9_in : GoodIn wsX9_isVat wsX9_in := goodIn_r _ [4] (by decide +kernel) (by decide +kernel)
set_option maxRecDepth 20000 in
theorem gX9_isVat_X9_in : GoodIn wsX9_isVat (va_wsS RX9 49 yX9_in wsX9_in) := goodIn_app (goodIn_of _ (by decide +kernel)) ggX9_isVat_X9_in
theorem dX9_isVat_0 : decode cX9_isVat 0 = .ok (.iload_n 0, 1) := by decide +kernel
theorem dX9_isVat_1 : decode cX9_isVat 1 = .ok (.iconst 0, 1) := by decide +kernel
theorem dX9_isVat_2 : decode cX9_isVat 2 = .ok (.iconst 3, 1) := by decide +kernel
theorem dX9_isVat_3 : decode cX9_isVat 3 = .ok (.invokestatic 49, 3) := by decide +kernel
theorem dX9_isVat_6 : decode cX9_isVat 6 = .ok (.ireturn, 1) := by decide +kernel
set_option maxRecDepth 20000 in
theorem ggX9_isCandle_X9_in : GoodIn wsX9_isCandle wsX9_in := goodIn_r _ [5] (by decide +kernel) (by decide +kernel)
set_option maxRecDepth 20000 in
theorem gX9_isCandle_X9_in : GoodIn wsX9_isCandle (va_wsS RX9 49 yX9_in wsX9_in) := goodIn_app (goodIn_of _ (by decide +kernel)) ggX9_isCandle_X9_in
theorem dX9_isCandle_0 : decode cX9_isCandle 0 = .ok (.iload_n 1, 1) := by decide +kernel
theorem dX9_isCandle_1 : decode cX9_isCandle 1 = .ok (.iconst 0, 1) := by decide +kernel
theorem dX9_isCandle_2 : decode cX9_isCandle 2 = .ok (.aload_n 0, 1) := by decide +kernel
theorem dX9_isCandle_3 : decode cX9_isCandle 3 = .ok (.getfield 7, 3) := by decide +kernel
theorem dX9_isCandle_6 : decode cX9_isCandle 6 = .ok (.iconst 0, 1) := by decide +kernel
theorem dX9_isCandle_7 : decode cX9_isCandle 7 = .ok (.iaload, 1) := by decide +kernel
theorem dX9_isCandle_8 : decode cX9_isCandle 8 = .ok (.iconst 1, 1) := by decide +kernel
theorem dX9_isCandle_9 : decode cX9_isCandle 9 = .ok (.isub, 1) := by decide +kernel
theorem dX9_isCandle_10 : decode cX9_isCandle 10 = .ok (.invokestatic 49, 3) := by decide +kernel
theorem dX9_isCandle_13 : decode cX9_isCandle 13 = .ok (.ireturn, 1) := by decide +kernel
set_option maxRecDepth 20000 in
theorem ggX9_isKind_X9_in : GoodIn wsX9_isKind wsX9_in := goodIn_r _ [4] (by decide +kernel) (by decide +kernel)
set_option maxRecDepth 20000 in
theorem gX9_isKind_X9_in : GoodIn wsX9_isKind (va_wsS RX9 49 yX9_in wsX9_in) := goodIn_app (goodIn_of _ (by decide +kernel)) ggX9_isKind_X9_in
theorem dX9_isKind_0 : decode cX9_isKind 0 = .ok (.iload_n 0, 1) := by decide +kernel
theorem dX9_isKind_1 : decode cX9_isKind 1 = .ok (.iconst 0, 1) := by decide +kernel
theorem dX9_isKind_2 : decode cX9_isKind 2 = .ok (.iconst 5, 1) := by decide +kernel
theorem dX9_isKind_3 : decode cX9_isKind 3 = .ok (.invokestatic 49, 3) := by decide +kernel
theorem dX9_isKind_6 : decode cX9_isKind 6 = .ok (.ireturn, 1) := by decide +kernel
theorem dX9_its_0 : decode cX9_its 0 = .ok (.aload_n 0, 1) := by decide +kernel
theorem dX9_its_1 : decode cX9_its 1 = .ok (.getfield 7, 3) := by decide +kernel
theorem dX9_its_4 : decode cX9_its 4 = .ok (.iconst 4, 1) := by decide +kernel
theorem dX9_its_5 : decode cX9_its 5 = .ok (.iconst 4, 1) := by decide +kernel
theorem dX9_its_6 : decode cX9_its 6 = .ok (.iload_n 1, 1) := by decide +kernel
theorem dX9_its_7 : decode cX9_its 7 = .ok (.imul, 1) := by decide +kernel
theorem dX9_its_8 : decode cX9_its 8 = .ok (.iadd, 1) := by decide +kernel
theorem dX9_its_9 : decode cX9_its 9 = .ok (.iload_n 2, 1) := by decide +kernel
theorem dX9_its_10 : decode cX9_its 10 = .ok (.iadd, 1) := by decide +kernel
theorem dX9_its_11 : decode cX9_its 11 = .ok (.iaload, 1) := by decide +kernel
theorem dX9_its_12 : decode cX9_its 12 = .ok (.ireturn, 1) := by decide +kernel
theorem dX9_setVat_0 : decode cX9_setVat 0 = .ok (.aload_n 0, 1) := by decide +kernel
theorem dX9_setVat_1 : decode cX9_setVat 1 = .ok (.getfield 7, 3) := by decide +kernel
theorem dX9_setVat_4 : decode cX9_setVat 4 = .ok (.iconst 4, 1) := by decide +kernel
theorem dX9_setVat_5 : decode cX9_setVat 5 = .ok (.iconst 4, 1) := by decide +kernel
theorem dX9_setVat_6 : decode cX9_setVat 6 = .ok (.iload_n 1, 1) := by decide +kernel
theorem dX9_setVat_7 : decode cX9_setVat 7 = .ok (.imul, 1) := by decide +kernel
theorem dX9_setVat_8 : decode cX9_setVat 8 = .ok (.iadd, 1) := by decide +kernel
theorem dX9_setVat_9 : decode cX9_setVat 9 = .ok (.iload_n 2, 1) := by decide +kernel
theorem dX9_setVat_10 : decode cX9_setVat 10 = .ok (.iadd, 1) := by decide +kernel
theorem dX9_setVat_11 : decode cX9_setVat 11 = .ok (.iload_n 3, 1) := by decide +kernel
theorem dX9_setVat_12 : decode cX9_setVat 12 = .ok (.iastore, 1) := by decide +kernel
theorem dX9_setVat_13 : decode cX9_setVat 13 = .ok (.return_, 1) := by decide +kernel
theorem dX9_at_0 : decode cX9_at 0 = .ok (.bipush 20, 2) := by decide +kernel
theorem dX9_at_2 : decode cX9_at 2 = .ok (.bipush 42, 2) := by decide +kernel
theorem dX9_at_4 : decode cX9_at 4 = .ok (.iload_n 0, 1) := by decide +kernel
theorem dX9_at_5 : decode cX9_at 5 = .ok (.imul, 1) := by decide +kernel
theorem dX9_at_6 : decode cX9_at 6 = .ok (.iadd, 1) := by decide +kernel
theorem dX9_at_7 : decode cX9_at 7 = .ok (.iload_n 1, 1) := by decide +kernel
theorem dX9_at_8 : decode cX9_at 8 = .ok (.iadd, 1) := by decide +kernel
theorem dX9_at_9 : decode cX9_at 9 = .ok (.ireturn, 1) := by decide +kernel
set_option maxRecDepth 20000 in
theorem ggX9_kindOf_X9_at : GoodIn wsX9_kindOf wsX9_at := goodIn_r _ [5] (by decide +kernel) (by decide +kernel)
set_option maxRecDepth 20000 in
theorem gX9_kindOf_X9_at : GoodIn wsX9_kindOf (va_wsS RX9 53 yX9_at wsX9_at) := goodIn_app (goodIn_of _ (by decide +kernel)) ggX9_kindOf_X9_at
theorem dX9_kindOf_0 : decode cX9_kindOf 0 = .ok (.aload_n 0, 1) := by decide +kernel
theorem dX9_kindOf_1 : decode cX9_kindOf 1 = .ok (.getfield 7, 3) := by decide +kernel
theorem dX9_kindOf_4 : decode cX9_kindOf 4 = .ok (.iload_n 1, 1) := by decide +kernel
theorem dX9_kindOf_5 : decode cX9_kindOf 5 = .ok (.iconst 0, 1) := by decide +kernel
theorem dX9_kindOf_6 : decode cX9_kindOf 6 = .ok (.invokestatic 53, 3) := by decide +kernel
theorem dX9_kindOf_9 : decode cX9_kindOf 9 = .ok (.iaload, 1) := by decide +kernel
theorem dX9_kindOf_10 : decode cX9_kindOf 10 = .ok (.ireturn, 1) := by decide +kernel
set_option maxRecDepth 20000 in
theorem ggX9_many_X9_at : GoodIn wsX9_many wsX9_at := goodIn_r _ [5] (by decide +kernel) (by decide +kernel)
set_option maxRecDepth 20000 in
theorem gX9_many_X9_at : GoodIn wsX9_many (va_wsS RX9 53 yX9_at wsX9_at) := goodIn_app (goodIn_of _ (by decide +kernel)) ggX9_many_X9_at
theorem dX9_many_0 : decode cX9_many 0 = .ok (.aload_n 0, 1) := by decide +kernel
theorem dX9_many_1 : decode cX9_many 1 = .ok (.getfield 7, 3) := by decide +kernel
theorem dX9_many_4 : decode cX9_many 4 = .ok (.iload_n 1, 1) := by decide +kernel
theorem dX9_many_5 : decode cX9_many 5 = .ok (.iconst 1, 1) := by decide +kernel
theorem dX9_many_6 : decode cX9_many 6 = .ok (.invokestatic 53, 3) := by decide +kernel
theorem dX9_many_9 : decode cX9_many 9 = .ok (.iaload, 1) := by decide +kernel
theorem dX9_many_10 : decode cX9_many 10 = .ok (.ireturn, 1) := by decide +kernel
set_option maxRecDepth 20000 in
theorem ggX9_layerOf_X9_at : GoodIn wsX9_layerOf wsX9_at := goodIn_r _ [5] (by decide +kernel) (by decide +kernel)
set_option maxRecDepth 20000 in
theorem gX9_layerOf_X9_at : GoodIn wsX9_layerOf (va_wsS RX9 53 yX9_at wsX9_at) := goodIn_app (goodIn_of _ (by decide +kernel)) ggX9_layerOf_X9_at
theorem dX9_layerOf_0 : decode cX9_layerOf 0 = .ok (.aload_n 0, 1) := by decide +kernel
theorem dX9_layerOf_1 : decode cX9_layerOf 1 = .ok (.getfield 7, 3) := by decide +kernel
theorem dX9_layerOf_4 : decode cX9_layerOf 4 = .ok (.iload_n 1, 1) := by decide +kernel
theorem dX9_layerOf_5 : decode cX9_layerOf 5 = .ok (.iconst 2, 1) := by decide +kernel
theorem dX9_layerOf_6 : decode cX9_layerOf 6 = .ok (.iload_n 2, 1) := by decide +kernel
theorem dX9_layerOf_7 : decode cX9_layerOf 7 = .ok (.iadd, 1) := by decide +kernel
theorem dX9_layerOf_8 : decode cX9_layerOf 8 = .ok (.invokestatic 53, 3) := by decide +kernel
theorem dX9_layerOf_11 : decode cX9_layerOf 11 = .ok (.iaload, 1) := by decide +kernel
theorem dX9_layerOf_12 : decode cX9_layerOf 12 = .ok (.ireturn, 1) := by decide +kernel
set_option maxRecDepth 20000 in
theorem ggX9_vatOf_X9_isVat : GoodIn wsX9_vatOf wsX9_isVat := goodIn_r _ [5, 6, 7, 4, 8] (by decide +kernel) (by decide +kernel)
set_option maxRecDepth 20000 in
theorem gX9_vatOf_X9_isVat : GoodIn wsX9_vatOf (va_wsS RX9 57 yX9_isVat wsX9_isVat) := goodIn_app (goodIn_of _ (by decide +kernel)) ggX9_vatOf_X9_isVat
set_option maxRecDepth 20000 in
theorem ggX9_vatOf_X9_in : GoodIn wsX9_vatOf wsX9_in := goodIn_r _ [8] (by decide +kernel) (by decide +kernel)
set_option maxRecDepth 20000 in
theorem gX9_vatOf_X9_in : GoodIn wsX9_vatOf (va_wsS RX9 49 yX9_in wsX9_in) := goodIn_app (goodIn_of _ (by decide +kernel)) ggX9_vatOf_X9_in
set_option maxRecDepth 20000 in
theorem ggX9_vatOf_X9_its : GoodIn wsX9_vatOf wsX9_its := goodIn_r _ [12, 13, 19, 20, 21, 22, 23, 24, 25, 26, 27, 28, 29, 30, 31, 32, 33, 34, 35, 36, 37, 38] (by decide +kernel) (by decide +kernel)
set_option maxRecDepth 20000 in
theorem gX9_vatOf_X9_its : GoodIn wsX9_vatOf (wsV RX9 61 RX9 yX9_its wsX9_its) := goodIn_app (goodIn_of _ (by decide +kernel)) ggX9_vatOf_X9_its
set_option maxRecDepth 20000 in
theorem ggX9_vatOf_X9_finds : GoodIn wsX9_vatOf wsX9_finds := goodIn_r _ [17, 18, 1, 19, 20, 21, 22, 23, 24, 25, 26, 27, 28, 29, 30, 31, 32, 33, 34, 35, 36, 37, 38] (by decide +kernel) (by decide +kernel)
set_option maxRecDepth 20000 in
theorem gX9_vatOf_X9_finds : GoodIn wsX9_vatOf (wsV RX9 64 RX9 yX9_finds wsX9_finds) := goodIn_app (goodIn_of _ (by decide +kernel)) ggX9_vatOf_X9_finds
theorem dX9_vatOf_0 : decode cX9_vatOf 0 = .ok (.iload_n 1, 1) := by decide +kernel
theorem dX9_vatOf_1 : decode cX9_vatOf 1 = .ok (.invokestatic 57, 3) := by decide +kernel
theorem dX9_vatOf_4 : decode cX9_vatOf 4 = .ok (.ifCond .eq 21, 3) := by decide +kernel
theorem dX9_vatOf_7 : decode cX9_vatOf 7 = .ok (.iload_n 2, 1) := by decide +kernel
theorem dX9_vatOf_8 : decode cX9_vatOf 8 = .ok (.iconst 0, 1) := by decide +kernel
theorem dX9_vatOf_9 : decode cX9_vatOf 9 = .ok (.iconst 3, 1) := by decide +kernel
theorem dX9_vatOf_10 : decode cX9_vatOf 10 = .ok (.invokestatic 49, 3) := by decide +kernel
theorem dX9_vatOf_13 : decode cX9_vatOf 13 = .ok (.ifCond .eq 12, 3) := by decide +kernel
theorem dX9_vatOf_16 : decode cX9_vatOf 16 = .ok (.aload_n 0, 1) := by decide +kernel
theorem dX9_vatOf_17 : decode cX9_vatOf 17 = .ok (.iload_n 1, 1) := by decide +kernel
theorem dX9_vatOf_18 : decode cX9_vatOf 18 = .ok (.iload_n 2, 1) := by decide +kernel
theorem dX9_vatOf_19 : decode cX9_vatOf 19 = .ok (.invokevirtual 61, 3) := by decide +kernel
theorem dX9_vatOf_22 : decode cX9_vatOf 22 = .ok (.goto 9, 3) := by decide +kernel
theorem dX9_vatOf_25 : decode cX9_vatOf 25 = .ok (.aload_n 0, 1) := by decide +kernel
theorem dX9_vatOf_26 : decode cX9_vatOf 26 = .ok (.ldc 48, 2) := by decide +kernel
theorem dX9_vatOf_28 : decode cX9_vatOf 28 = .ok (.invokevirtual 64, 3) := by decide +kernel
theorem dX9_vatOf_31 : decode cX9_vatOf 31 = .ok (.ireturn, 1) := by decide +kernel
set_option maxRecDepth 20000 in
theorem ggX9_isTold_X9_in : GoodIn wsX9_isTold wsX9_in := goodIn_r _ [5] (by decide +kernel) (by decide +kernel)
set_option maxRecDepth 20000 in
theorem gX9_isTold_X9_in : GoodIn wsX9_isTold (va_wsS RX9 49 yX9_in wsX9_in) := goodIn_app (goodIn_of _ (by decide +kernel)) ggX9_isTold_X9_in
theorem dX9_isTold_0 : decode cX9_isTold 0 = .ok (.iload_n 0, 1) := by decide +kernel
theorem dX9_isTold_1 : decode cX9_isTold 1 = .ok (.tableswitch 54 0 3 #[31, 38, 46, 31], 31) := by decide +kernel
theorem dX9_isTold_32 : decode cX9_isTold 32 = .ok (.iload_n 1, 1) := by decide +kernel
theorem dX9_isTold_33 : decode cX9_isTold 33 = .ok (.iconst 0, 1) := by decide +kernel
theorem dX9_isTold_34 : decode cX9_isTold 34 = .ok (.iconst 1, 1) := by decide +kernel
theorem dX9_isTold_35 : decode cX9_isTold 35 = .ok (.invokestatic 49, 3) := by decide +kernel
theorem dX9_isTold_38 : decode cX9_isTold 38 = .ok (.ireturn, 1) := by decide +kernel
theorem dX9_isTold_39 : decode cX9_isTold 39 = .ok (.iload_n 1, 1) := by decide +kernel
theorem dX9_isTold_40 : decode cX9_isTold 40 = .ok (.iconst 0, 1) := by decide +kernel
theorem dX9_isTold_41 : decode cX9_isTold 41 = .ok (.bipush 99, 2) := by decide +kernel
theorem dX9_isTold_43 : decode cX9_isTold 43 = .ok (.invokestatic 49, 3) := by decide +kernel
theorem dX9_isTold_46 : decode cX9_isTold 46 = .ok (.ireturn, 1) := by decide +kernel
theorem dX9_isTold_47 : decode cX9_isTold 47 = .ok (.iload_n 1, 1) := by decide +kernel
theorem dX9_isTold_48 : decode cX9_isTold 48 = .ok (.iconst 0, 1) := by decide +kernel
theorem dX9_isTold_49 : decode cX9_isTold 49 = .ok (.ldc 68, 2) := by decide +kernel
theorem dX9_isTold_51 : decode cX9_isTold 51 = .ok (.invokestatic 49, 3) := by decide +kernel
theorem dX9_isTold_54 : decode cX9_isTold 54 = .ok (.ireturn, 1) := by decide +kernel
theorem dX9_isTold_55 : decode cX9_isTold 55 = .ok (.iconst 0, 1) := by decide +kernel
theorem dX9_isTold_56 : decode cX9_isTold 56 = .ok (.ireturn, 1) := by decide +kernel
set_option maxRecDepth 20000 in
theorem ggX9_vat_X9_isVat : GoodIn wsX9_vat wsX9_isVat := goodIn_r _ [5, 6, 7, 4, 8] (by decide +kernel) (by decide +kernel)
set_option maxRecDepth 20000 in
theorem gX9_vat_X9_isVat : GoodIn wsX9_vat (va_wsS RX9 57 yX9_isVat wsX9_isVat) := goodIn_app (goodIn_of _ (by decide +kernel)) ggX9_vat_X9_isVat
set_option maxRecDepth 20000 in
theorem ggX9_vat_X9_isTold : GoodIn wsX9_vat wsX9_isTold := goodIn_r _ [11, 12, 6, 7, 4, 8] (by decide +kernel) (by decide +kernel)
set_option maxRecDepth 20000 in
theorem gX9_vat_X9_isTold : GoodIn wsX9_vat (va_wsS RX9 69 yX9_isTold wsX9_isTold) := goodIn_app (goodIn_of _ (by decide +kernel)) ggX9_vat_X9_isTold
set_option maxRecDepth 20000 in
theorem ggX9_vat_X9_finds : GoodIn wsX9_vat wsX9_finds := goodIn_r _ [16, 17, 1, 27, 28, 29, 30, 31, 32, 33, 34, 35, 36, 37, 38, 39, 40, 41, 42, 43, 44, 45, 46] (by decide +kernel) (by decide +kernel)
set_option maxRecDepth 20000 in
theorem gX9_vat_X9_finds : GoodIn wsX9_vat (wsV RX9 64 RX9 yX9_finds wsX9_finds) := goodIn_app (goodIn_of _ (by decide +kernel)) ggX9_vat_X9_finds
set_option maxRecDepth 20000 in
theorem ggX9_vat_X9_its : GoodIn wsX9_vat wsX9_its := goodIn_r _ [21, 22, 27, 28, 29, 30, 31, 32, 33, 34, 35, 36, 37, 38, 39, 40, 41, 42, 43, 44, 45, 46] (by decide +kernel) (by decide +kernel)
set_option maxRecDepth 20000 in
theorem gX9_vat_X9_its : GoodIn wsX9_vat (wsV RX9 61 RX9 yX9_its wsX9_its) := goodIn_app (goodIn_of _ (by decide +kernel)) ggX9_vat_X9_its
set_option maxRecDepth 20000 in
theorem ggX9_vat_X9_setVat : GoodIn wsX9_vat wsX9_setVat := goodIn_r _ [26, 22, 27, 28, 29, 30, 31, 32, 33, 34, 35, 36, 37, 38, 39, 40, 41, 42, 43, 44, 45, 46] (by decide +kernel) (by decide +kernel)
set_option maxRecDepth 20000 in
theorem gX9_vat_X9_setVat : GoodIn wsX9_vat (wsV RX9 44 RX9 yX9_setVat wsX9_setVat) := goodIn_app (goodIn_of _ (by decide +kernel)) ggX9_vat_X9_setVat
theorem dX9_vat_0 : decode cX9_vat 0 = .ok (.iload_n 1, 1) := by decide +kernel
theorem dX9_vat_1 : decode cX9_vat 1 = .ok (.invokestatic 57, 3) := by decide +kernel
theorem dX9_vat_4 : decode cX9_vat 4 = .ok (.ifCond .eq 11, 3) := by decide +kernel
theorem dX9_vat_7 : decode cX9_vat 7 = .ok (.iload_n 2, 1) := by decide +kernel
theorem dX9_vat_8 : decode cX9_vat 8 = .ok (.iload_n 3, 1) := by decide +kernel
theorem dX9_vat_9 : decode cX9_vat 9 = .ok (.invokestatic 69, 3) := by decide +kernel
theorem dX9_vat_12 : decode cX9_vat 12 = .ok (.ifCond .ne 10, 3) := by decide +kernel
theorem dX9_vat_15 : decode cX9_vat 15 = .ok (.aload_n 0, 1) := by decide +kernel
theorem dX9_vat_16 : decode cX9_vat 16 = .ok (.ldc 48, 2) := by decide +kernel
theorem dX9_vat_18 : decode cX9_vat 18 = .ok (.invokevirtual 64, 3) := by decide +kernel
theorem dX9_vat_21 : decode cX9_vat 21 = .ok (.ireturn, 1) := by decide +kernel
theorem dX9_vat_22 : decode cX9_vat 22 = .ok (.aload_n 0, 1) := by decide +kernel
theorem dX9_vat_23 : decode cX9_vat 23 = .ok (.iload_n 1, 1) := by decide +kernel
theorem dX9_vat_24 : decode cX9_vat 24 = .ok (.iload_n 2, 1) := by decide +kernel
theorem dX9_vat_25 : decode cX9_vat 25 = .ok (.invokevirtual 61, 3) := by decide +kernel
theorem dX9_vat_28 : decode cX9_vat 28 = .ok (.istore 4, 2) := by decide +kernel
theorem dX9_vat_30 : decode cX9_vat 30 = .ok (.aload_n 0, 1) := by decide +kernel
theorem dX9_vat_31 : decode cX9_vat 31 = .ok (.iload_n 1, 1) := by decide +kernel
theorem dX9_vat_32 : decode cX9_vat 32 = .ok (.iload_n 2, 1) := by decide +kernel
theorem dX9_vat_33 : decode cX9_vat 33 = .ok (.iload_n 3, 1) := by decide +kernel
theorem dX9_vat_34 : decode cX9_vat 34 = .ok (.invokevirtual 44, 3) := by decide +kernel
theorem dX9_vat_37 : decode cX9_vat 37 = .ok (.iload 4, 2) := by decide +kernel
theorem dX9_vat_39 : decode cX9_vat 39 = .ok (.ireturn, 1) := by decide +kernel
set_option maxRecDepth 20000 in
theorem ggX9_let_X9_in : GoodIn wsX9_let wsX9_in := goodIn_r _ [6] (by decide +kernel) (by decide +kernel)
set_option maxRecDepth 20000 in
theorem gX9_let_X9_in : GoodIn wsX9_let (va_wsS RX9 49 yX9_in wsX9_in) := goodIn_app (goodIn_of _ (by decide +kernel)) ggX9_let_X9_in
set_option maxRecDepth 20000 in
theorem ggX9_let_X9_finds : GoodIn wsX9_let wsX9_finds := goodIn_r _ [10, 11, 1, 12, 13, 14, 15, 16, 17, 18, 19, 20, 21, 22, 23, 24, 25, 26, 27, 28, 29, 30, 31] (by decide +kernel) (by decide +kernel)
set_option maxRecDepth 20000 in
theorem gX9_let_X9_finds : GoodIn wsX9_let (wsV RX9 64 RX9 yX9_finds wsX9_finds) := goodIn_app (goodIn_of _ (by decide +kernel)) ggX9_let_X9_finds
theorem dX9_let_0 : decode cX9_let 0 = .ok (.iload_n 1, 1) := by decide +kernel
theorem dX9_let_1 : decode cX9_let 1 = .ok (.ifCond .ne 17, 3) := by decide +kernel
theorem dX9_let_4 : decode cX9_let 4 = .ok (.iload_n 2, 1) := by decide +kernel
theorem dX9_let_5 : decode cX9_let 5 = .ok (.iconst 0, 1) := by decide +kernel
theorem dX9_let_6 : decode cX9_let 6 = .ok (.sipush 9999, 3) := by decide +kernel
theorem dX9_let_9 : decode cX9_let 9 = .ok (.invokestatic 49, 3) := by decide +kernel
theorem dX9_let_12 : decode cX9_let 12 = .ok (.ifCond .ne 28, 3) := by decide +kernel
theorem dX9_let_15 : decode cX9_let 15 = .ok (.goto 18, 3) := by decide +kernel
theorem dX9_let_18 : decode cX9_let 18 = .ok (.iload_n 1, 1) := by decide +kernel
theorem dX9_let_19 : decode cX9_let 19 = .ok (.iconst 1, 1) := by decide +kernel
theorem dX9_let_20 : decode cX9_let 20 = .ok (.if_icmp .ne 13, 3) := by decide +kernel
theorem dX9_let_23 : decode cX9_let 23 = .ok (.iload_n 2, 1) := by decide +kernel
theorem dX9_let_24 : decode cX9_let 24 = .ok (.iconst 0, 1) := by decide +kernel
theorem dX9_let_25 : decode cX9_let 25 = .ok (.bipush 9, 2) := by decide +kernel
theorem dX9_let_27 : decode cX9_let 27 = .ok (.invokestatic 49, 3) := by decide +kernel
theorem dX9_let_30 : decode cX9_let 30 = .ok (.ifCond .ne 10, 3) := by decide +kernel
theorem dX9_let_33 : decode cX9_let 33 = .ok (.aload_n 0, 1) := by decide +kernel
theorem dX9_let_34 : decode cX9_let 34 = .ok (.ldc 48, 2) := by decide +kernel
theorem dX9_let_36 : decode cX9_let 36 = .ok (.invokevirtual 64, 3) := by decide +kernel
theorem dX9_let_39 : decode cX9_let 39 = .ok (.ireturn, 1) := by decide +kernel
theorem dX9_let_40 : decode cX9_let 40 = .ok (.aload_n 0, 1) := by decide +kernel
theorem dX9_let_41 : decode cX9_let 41 = .ok (.getfield 7, 3) := by decide +kernel
theorem dX9_let_44 : decode cX9_let 44 = .ok (.iconst 1, 1) := by decide +kernel
theorem dX9_let_45 : decode cX9_let 45 = .ok (.iload_n 1, 1) := by decide +kernel
theorem dX9_let_46 : decode cX9_let 46 = .ok (.iadd, 1) := by decide +kernel
theorem dX9_let_47 : decode cX9_let 47 = .ok (.iaload, 1) := by decide +kernel
theorem dX9_let_48 : decode cX9_let 48 = .ok (.istore_n 3, 1) := by decide +kernel
theorem dX9_let_49 : decode cX9_let 49 = .ok (.aload_n 0, 1) := by decide +kernel
theorem dX9_let_50 : decode cX9_let 50 = .ok (.getfield 7, 3) := by decide +kernel
theorem dX9_let_53 : decode cX9_let 53 = .ok (.iconst 1, 1) := by decide +kernel
theorem dX9_let_54 : decode cX9_let 54 = .ok (.iload_n 1, 1) := by decide +kernel
theorem dX9_let_55 : decode cX9_let 55 = .ok (.iadd, 1) := by decide +kernel
theorem dX9_let_56 : decode cX9_let 56 = .ok (.iload_n 2, 1) := by decide +kernel
theorem dX9_let_57 : decode cX9_let 57 = .ok (.iastore, 1) := by decide +kernel
theorem dX9_let_58 : decode cX9_let 58 = .ok (.iload_n 3, 1) := by decide +kernel
theorem dX9_let_59 : decode cX9_let 59 = .ok (.ireturn, 1) := by decide +kernel
set_option maxRecDepth 20000 in
theorem ggX9_addCandle_X9_at : GoodIn wsX9_addCandle wsX9_at := goodIn_r _ [5] (by decide +kernel) (by decide +kernel)
set_option maxRecDepth 20000 in
theorem gX9_addCandle_X9_at : GoodIn wsX9_addCandle (va_wsS RX9 53 yX9_at wsX9_at) := goodIn_app (goodIn_of _ (by decide +kernel)) ggX9_addCandle_X9_at
theorem dX9_addCandle_0 : decode cX9_addCandle 0 = .ok (.aload_n 0, 1) := by decide +kernel
theorem dX9_addCandle_1 : decode cX9_addCandle 1 = .ok (.getfield 7, 3) := by decide +kernel
theorem dX9_addCandle_4 : decode cX9_addCandle 4 = .ok (.iconst 0, 1) := by decide +kernel
theorem dX9_addCandle_5 : decode cX9_addCandle 5 = .ok (.iaload, 1) := by decide +kernel
theorem dX9_addCandle_6 : decode cX9_addCandle 6 = .ok (.istore_n 2, 1) := by decide +kernel
theorem dX9_addCandle_7 : decode cX9_addCandle 7 = .ok (.aload_n 0, 1) := by decide +kernel
theorem dX9_addCandle_8 : decode cX9_addCandle 8 = .ok (.getfield 7, 3) := by decide +kernel
theorem dX9_addCandle_11 : decode cX9_addCandle 11 = .ok (.iload_n 2, 1) := by decide +kernel
theorem dX9_addCandle_12 : decode cX9_addCandle 12 = .ok (.iconst 0, 1) := by decide +kernel
theorem dX9_addCandle_13 : decode cX9_addCandle 13 = .ok (.invokestatic 53, 3) := by decide +kernel
theorem dX9_addCandle_16 : decode cX9_addCandle 16 = .ok (.iload_n 1, 1) := by decide +kernel
theorem dX9_addCandle_17 : decode cX9_addCandle 17 = .ok (.iastore, 1) := by decide +kernel
theorem dX9_addCandle_18 : decode cX9_addCandle 18 = .ok (.aload_n 0, 1) := by decide +kernel
theorem dX9_addCandle_19 : decode cX9_addCandle 19 = .ok (.getfield 7, 3) := by decide +kernel
theorem dX9_addCandle_22 : decode cX9_addCandle 22 = .ok (.iload_n 2, 1) := by decide +kernel
theorem dX9_addCandle_23 : decode cX9_addCandle 23 = .ok (.iconst 1, 1) := by decide +kernel
theorem dX9_addCandle_24 : decode cX9_addCandle 24 = .ok (.invokestatic 53, 3) := by decide +kernel
theorem dX9_addCandle_27 : decode cX9_addCandle 27 = .ok (.iconst 0, 1) := by decide +kernel
theorem dX9_addCandle_28 : decode cX9_addCandle 28 = .ok (.iastore, 1) := by decide +kernel
theorem dX9_addCandle_29 : decode cX9_addCandle 29 = .ok (.aload_n 0, 1) := by decide +kernel
theorem dX9_addCandle_30 : decode cX9_addCandle 30 = .ok (.getfield 7, 3) := by decide +kernel
theorem dX9_addCandle_33 : decode cX9_addCandle 33 = .ok (.iconst 0, 1) := by decide +kernel
theorem dX9_addCandle_34 : decode cX9_addCandle 34 = .ok (.dup2, 1) := by decide +kernel
theorem dX9_addCandle_35 : decode cX9_addCandle 35 = .ok (.iaload, 1) := by decide +kernel
theorem dX9_addCandle_36 : decode cX9_addCandle 36 = .ok (.iconst 1, 1) := by decide +kernel
theorem dX9_addCandle_37 : decode cX9_addCandle 37 = .ok (.iadd, 1) := by decide +kernel
theorem dX9_addCandle_38 : decode cX9_addCandle 38 = .ok (.iastore, 1) := by decide +kernel
theorem dX9_addCandle_39 : decode cX9_addCandle 39 = .ok (.return_, 1) := by decide +kernel
set_option maxRecDepth 20000 in
theorem ggX9_candle_X9_isKind : GoodIn wsX9_candle wsX9_isKind := goodIn_r _ [7, 8, 9, 6, 10] (by decide +kernel) (by decide +kernel)
set_option maxRecDepth 20000 in
theorem gX9_candle_X9_isKind : GoodIn wsX9_candle (va_wsS RX9 73 yX9_isKind wsX9_isKind) := goodIn_app (goodIn_of _ (by decide +kernel)) ggX9_candle_X9_isKind
set_option maxRecDepth 20000 in
theorem ggX9_candle_X9_finds : GoodIn wsX9_candle wsX9_finds := goodIn_r _ [14, 15, 1, 23, 24, 25, 26, 27, 28, 29, 30, 31, 32, 33, 34, 35, 36, 37, 38, 39, 40, 41, 42] (by decide +kernel) (by decide +kernel)
set_option maxRecDepth 20000 in
theorem gX9_candle_X9_finds : GoodIn wsX9_candle (wsV RX9 64 RX9 yX9_finds wsX9_finds) := goodIn_app (goodIn_of _ (by decide +kernel)) ggX9_candle_X9_finds
set_option maxRecDepth 20000 in
theorem ggX9_candle_X9_addCandle : GoodIn wsX9_candle wsX9_addCandle := goodIn_r _ [19, 2, 20, 21, 6, 22, 23, 24, 25, 26, 27, 28, 29, 30, 31, 32, 33, 34, 35, 36, 37, 38, 39, 40, 41, 42] (by decide +kernel) (by decide +kernel)
set_option maxRecDepth 20000 in
theorem gX9_candle_X9_addCandle : GoodIn wsX9_candle (wsV RX9 77 RX9 yX9_addCandle wsX9_addCandle) := goodIn_app (goodIn_of _ (by decide +kernel)) ggX9_candle_X9_addCandle
theorem dX9_candle_0 : decode cX9_candle 0 = .ok (.iload_n 1, 1) := by decide +kernel
theorem dX9_candle_1 : decode cX9_candle 1 = .ok (.invokestatic 73, 3) := by decide +kernel
theorem dX9_candle_4 : decode cX9_candle 4 = .ok (.ifCond .ne 10, 3) := by decide +kernel
theorem dX9_candle_7 : decode cX9_candle 7 = .ok (.aload_n 0, 1) := by decide +kernel
theorem dX9_candle_8 : decode cX9_candle 8 = .ok (.ldc 48, 2) := by decide +kernel
theorem dX9_candle_10 : decode cX9_candle 10 = .ok (.invokevirtual 64, 3) := by decide +kernel
theorem dX9_candle_13 : decode cX9_candle 13 = .ok (.ireturn, 1) := by decide +kernel
theorem dX9_candle_14 : decode cX9_candle 14 = .ok (.aload_n 0, 1) := by decide +kernel
theorem dX9_candle_15 : decode cX9_candle 15 = .ok (.getfield 7, 3) := by decide +kernel
theorem dX9_candle_18 : decode cX9_candle 18 = .ok (.iconst 0, 1) := by decide +kernel
theorem dX9_candle_19 : decode cX9_candle 19 = .ok (.iaload, 1) := by decide +kernel
theorem dX9_candle_20 : decode cX9_candle 20 = .ok (.bipush 10, 2) := by decide +kernel
theorem dX9_candle_22 : decode cX9_candle 22 = .ok (.if_icmp .ne 10, 3) := by decide +kernel
theorem dX9_candle_25 : decode cX9_candle 25 = .ok (.aload_n 0, 1) := by decide +kernel
theorem dX9_candle_26 : decode cX9_candle 26 = .ok (.ldc 76, 2) := by decide +kernel
theorem dX9_candle_28 : decode cX9_candle 28 = .ok (.invokevirtual 64, 3) := by decide +kernel
theorem dX9_candle_31 : decode cX9_candle 31 = .ok (.ireturn, 1) := by decide +kernel
theorem dX9_candle_32 : decode cX9_candle 32 = .ok (.aload_n 0, 1) := by decide +kernel
theorem dX9_candle_33 : decode cX9_candle 33 = .ok (.iload_n 1, 1) := by decide +kernel
theorem dX9_candle_34 : decode cX9_candle 34 = .ok (.invokevirtual 77, 3) := by decide +kernel
theorem dX9_candle_37 : decode cX9_candle 37 = .ok (.aload_n 0, 1) := by decide +kernel
theorem dX9_candle_38 : decode cX9_candle 38 = .ok (.getfield 7, 3) := by decide +kernel
theorem dX9_candle_41 : decode cX9_candle 41 = .ok (.iconst 0, 1) := by decide +kernel
theorem dX9_candle_42 : decode cX9_candle 42 = .ok (.iaload, 1) := by decide +kernel
theorem dX9_candle_43 : decode cX9_candle 43 = .ok (.iconst 1, 1) := by decide +kernel
theorem dX9_candle_44 : decode cX9_candle 44 = .ok (.isub, 1) := by decide +kernel
theorem dX9_candle_45 : decode cX9_candle 45 = .ok (.ireturn, 1) := by decide +kernel
set_option maxRecDepth 20000 in
theorem ggX9_grams_X9_many : GoodIn wsX9_grams wsX9_many := goodIn_r _ [5, 6, 7, 8, 4, 9, 14, 15, 16, 17, 18, 19, 20, 21, 22, 23, 24, 25, 26, 27, 28, 29, 30, 31, 32, 33] (by decide +kernel) (by decide +kernel)
set_option maxRecDepth 20000 in
theorem gX9_grams_X9_many : GoodIn wsX9_grams (wsV RX9 81 RX9 yX9_many wsX9_many) := goodIn_app (goodIn_of _ (by decide +kernel)) ggX9_grams_X9_many
set_option maxRecDepth 20000 in
theorem ggX9_grams_X9_layerOf : GoodIn wsX9_grams wsX9_layerOf := goodIn_r _ [13, 6, 7, 8, 4, 9, 14, 15, 16, 17, 18, 19, 20, 21, 22, 23, 24, 25, 26, 27, 28, 29, 30, 31, 32, 33] (by decide +kernel) (by decide +kernel)
set_option maxRecDepth 20000 in
theorem gX9_grams_X9_layerOf : GoodIn wsX9_grams (wsV RX9 84 RX9 yX9_layerOf wsX9_layerOf) := goodIn_app (goodIn_of _ (by decide +kernel)) ggX9_grams_X9_layerOf
theorem dX9_grams_0 : decode cX9_grams 0 = .ok (.iconst 0, 1) := by decide +kernel
theorem dX9_grams_1 : decode cX9_grams 1 = .ok (.istore_n 3, 1) := by decide +kernel
theorem dX9_grams_2 : decode cX9_grams 2 = .ok (.iconst 0, 1) := by decide +kernel
theorem dX9_grams_3 : decode cX9_grams 3 = .ok (.istore 4, 2) := by decide +kernel
theorem dX9_grams_5 : decode cX9_grams 5 = .ok (.iload 4, 2) := by decide +kernel
theorem dX9_grams_7 : decode cX9_grams 7 = .ok (.aload_n 0, 1) := by decide +kernel
theorem dX9_grams_8 : decode cX9_grams 8 = .ok (.iload_n 1, 1) := by decide +kernel
theorem dX9_grams_9 : decode cX9_grams 9 = .ok (.invokevirtual 81, 3) := by decide +kernel
theorem dX9_grams_12 : decode cX9_grams 12 = .ok (.if_icmp .ge 42, 3) := by decide +kernel
theorem dX9_grams_15 : decode cX9_grams 15 = .ok (.aload_n 0, 1) := by decide +kernel
theorem dX9_grams_16 : decode cX9_grams 16 = .ok (.iload_n 1, 1) := by decide +kernel
theorem dX9_grams_17 : decode cX9_grams 17 = .ok (.iload 4, 2) := by decide +kernel
theorem dX9_grams_19 : decode cX9_grams 19 = .ok (.invokevirtual 84, 3) := by decide +kernel
theorem dX9_grams_22 : decode cX9_grams 22 = .ok (.istore 5, 2) := by decide +kernel
theorem dX9_grams_24 : decode cX9_grams 24 = .ok (.iload_n 3, 1) := by decide +kernel
theorem dX9_grams_25 : decode cX9_grams 25 = .ok (.iload 5, 2) := by decide +kernel
theorem dX9_grams_27 : decode cX9_grams 27 = .ok (.ifCond .ge 9, 3) := by decide +kernel
theorem dX9_grams_30 : decode cX9_grams 30 = .ok (.iload 5, 2) := by decide +kernel
theorem dX9_grams_32 : decode cX9_grams 32 = .ok (.ineg, 1) := by decide +kernel
theorem dX9_grams_33 : decode cX9_grams 33 = .ok (.goto 13, 3) := by decide +kernel
theorem dX9_grams_36 : decode cX9_grams 36 = .ok (.iload_n 2, 1) := by decide +kernel
theorem dX9_grams_37 : decode cX9_grams 37 = .ok (.ifCond .eq 7, 3) := by decide +kernel
theorem dX9_grams_40 : decode cX9_grams 40 = .ok (.iconst 0, 1) := by decide +kernel
theorem dX9_grams_41 : decode cX9_grams 41 = .ok (.goto 5, 3) := by decide +kernel
theorem dX9_grams_44 : decode cX9_grams 44 = .ok (.iload 5, 2) := by decide +kernel
theorem dX9_grams_46 : decode cX9_grams 46 = .ok (.iadd, 1) := by decide +kernel
theorem dX9_grams_47 : decode cX9_grams 47 = .ok (.istore_n 3, 1) := by decide +kernel
theorem dX9_grams_48 : decode cX9_grams 48 = .ok (.iinc 4 1, 3) := by decide +kernel
theorem dX9_grams_51 : decode cX9_grams 51 = .ok (.goto (-46), 3) := by decide +kernel
theorem dX9_grams_54 : decode cX9_grams 54 = .ok (.iload_n 3, 1) := by decide +kernel
theorem dX9_grams_55 : decode cX9_grams 55 = .ok (.ireturn, 1) := by decide +kernel
theorem dX9_burnsAs_0 : decode cX9_burnsAs 0 = .ok (.iload_n 0, 1) := by decide +kernel
theorem dX9_burnsAs_1 : decode cX9_burnsAs 1 = .ok (.tableswitch 69 1 5 #[35, 39, 56, 46, 35], 35) := by decide +kernel
theorem dX9_burnsAs_36 : decode cX9_burnsAs 36 = .ok (.iload_n 1, 1) := by decide +kernel
theorem dX9_burnsAs_37 : decode cX9_burnsAs 37 = .ok (.iconst 3, 1) := by decide +kernel
theorem dX9_burnsAs_38 : decode cX9_burnsAs 38 = .ok (.idiv, 1) := by decide +kernel
theorem dX9_burnsAs_39 : decode cX9_burnsAs 39 = .ok (.ireturn, 1) := by decide +kernel
theorem dX9_burnsAs_40 : decode cX9_burnsAs 40 = .ok (.iload_n 1, 1) := by decide +kernel
theorem dX9_burnsAs_41 : decode cX9_burnsAs 41 = .ok (.iload_n 1, 1) := by decide +kernel
theorem dX9_burnsAs_42 : decode cX9_burnsAs 42 = .ok (.bipush 10, 2) := by decide +kernel
theorem dX9_burnsAs_44 : decode cX9_burnsAs 44 = .ok (.idiv, 1) := by decide +kernel
theorem dX9_burnsAs_45 : decode cX9_burnsAs 45 = .ok (.iadd, 1) := by decide +kernel
theorem dX9_burnsAs_46 : decode cX9_burnsAs 46 = .ok (.ireturn, 1) := by decide +kernel
theorem dX9_burnsAs_47 : decode cX9_burnsAs 47 = .ok (.iload_n 1, 1) := by decide +kernel
theorem dX9_burnsAs_48 : decode cX9_burnsAs 48 = .ok (.iload_n 1, 1) := by decide +kernel
theorem dX9_burnsAs_49 : decode cX9_burnsAs 49 = .ok (.bipush 10, 2) := by decide +kernel
theorem dX9_burnsAs_51 : decode cX9_burnsAs 51 = .ok (.idiv, 1) := by decide +kernel
theorem dX9_burnsAs_52 : decode cX9_burnsAs 52 = .ok (.iadd, 1) := by decide +kernel
theorem dX9_burnsAs_53 : decode cX9_burnsAs 53 = .ok (.bipush 30, 2) := by decide +kernel
theorem dX9_burnsAs_55 : decode cX9_burnsAs 55 = .ok (.iadd, 1) := by decide +kernel
theorem dX9_burnsAs_56 : decode cX9_burnsAs 56 = .ok (.ireturn, 1) := by decide +kernel
theorem dX9_burnsAs_57 : decode cX9_burnsAs 57 = .ok (.iload_n 1, 1) := by decide +kernel
theorem dX9_burnsAs_58 : decode cX9_burnsAs 58 = .ok (.bipush 60, 2) := by decide +kernel
theorem dX9_burnsAs_60 : decode cX9_burnsAs 60 = .ok (.if_icmp .ge 7, 3) := by decide +kernel
theorem dX9_burnsAs_63 : decode cX9_burnsAs 63 = .ok (.iload_n 1, 1) := by decide +kernel
theorem dX9_burnsAs_64 : decode cX9_burnsAs 64 = .ok (.goto 5, 3) := by decide +kernel
theorem dX9_burnsAs_67 : decode cX9_burnsAs 67 = .ok (.bipush 60, 2) := by decide +kernel
theorem dX9_burnsAs_69 : decode cX9_burnsAs 69 = .ok (.ireturn, 1) := by decide +kernel
theorem dX9_burnsAs_70 : decode cX9_burnsAs 70 = .ok (.iload_n 1, 1) := by decide +kernel
theorem dX9_burnsAs_71 : decode cX9_burnsAs 71 = .ok (.ireturn, 1) := by decide +kernel
set_option maxRecDepth 20000 in
theorem ggX9_burnsOf_X9_grams : GoodIn wsX9_burnsOf wsX9_grams := goodIn_r _ [5, 6, 7, 8, 4, 9, 10, 11, 12, 13, 14, 15, 16, 17, 25, 26, 27, 28, 29, 30, 31, 32, 33, 34, 35, 36, 37, 38, 39, 40, 41, 42, 43, 44] (by decide +kernel) (by decide +kernel)
set_option maxRecDepth 20000 in
theorem gX9_burnsOf_X9_grams : GoodIn wsX9_burnsOf (wsV RX9 87 RX9 yX9_grams wsX9_grams) := goodIn_app (goodIn_of _ (by decide +kernel)) ggX9_burnsOf_X9_grams
set_option maxRecDepth 20000 in
theorem ggX9_burnsOf_X9_kindOf : GoodIn wsX9_burnsOf wsX9_kindOf := goodIn_r _ [21, 10, 11, 12, 4, 13, 25, 26, 27, 28, 29, 30, 31, 32, 33, 34, 35, 36, 37, 38, 39, 40, 41, 42, 43, 44] (by decide +kernel) (by decide +kernel)
set_option maxRecDepth 20000 in
theorem gX9_burnsOf_X9_kindOf : GoodIn wsX9_burnsOf (wsV RX9 91 RX9 yX9_kindOf wsX9_kindOf) := goodIn_app (goodIn_of _ (by decide +kernel)) ggX9_burnsOf_X9_kindOf
set_option maxRecDepth 20000 in
theorem ggX9_burnsOf_X9_burnsAs : GoodIn wsX9_burnsOf wsX9_burnsAs := goodIn_r _ [24] (by decide +kernel) (by decide +kernel)
set_option maxRecDepth 20000 in
theorem gX9_burnsOf_X9_burnsAs : GoodIn wsX9_burnsOf (va_wsS RX9 94 yX9_burnsAs wsX9_burnsAs) := goodIn_app (goodIn_of _ (by decide +kernel)) ggX9_burnsOf_X9_burnsAs
theorem dX9_burnsOf_0 : decode cX9_burnsOf 0 = .ok (.aload_n 0, 1) := by decide +kernel
theorem dX9_burnsOf_1 : decode cX9_burnsOf 1 = .ok (.iload_n 1, 1) := by decide +kernel
theorem dX9_burnsOf_2 : decode cX9_burnsOf 2 = .ok (.iconst 1, 1) := by decide +kernel
theorem dX9_burnsOf_3 : decode cX9_burnsOf 3 = .ok (.invokevirtual 87, 3) := by decide +kernel
theorem dX9_burnsOf_6 : decode cX9_burnsOf 6 = .ok (.istore_n 2, 1) := by decide +kernel
theorem dX9_burnsOf_7 : decode cX9_burnsOf 7 = .ok (.aload_n 0, 1) := by decide +kernel
theorem dX9_burnsOf_8 : decode cX9_burnsOf 8 = .ok (.iload_n 1, 1) := by decide +kernel
theorem dX9_burnsOf_9 : decode cX9_burnsOf 9 = .ok (.invokevirtual 91, 3) := by decide +kernel
theorem dX9_burnsOf_12 : decode cX9_burnsOf 12 = .ok (.iconst 3, 1) := by decide +kernel
theorem dX9_burnsOf_13 : decode cX9_burnsOf 13 = .ok (.aload_n 0, 1) := by decide +kernel
theorem dX9_burnsOf_14 : decode cX9_burnsOf 14 = .ok (.iload_n 1, 1) := by decide +kernel
theorem dX9_burnsOf_15 : decode cX9_burnsOf 15 = .ok (.iconst 0, 1) := by decide +kernel
theorem dX9_burnsOf_16 : decode cX9_burnsOf 16 = .ok (.invokevirtual 87, 3) := by decide +kernel
theorem dX9_burnsOf_19 : decode cX9_burnsOf 19 = .ok (.iload_n 2, 1) := by decide +kernel
theorem dX9_burnsOf_20 : decode cX9_burnsOf 20 = .ok (.isub, 1) := by decide +kernel
theorem dX9_burnsOf_21 : decode cX9_burnsOf 21 = .ok (.imul, 1) := by decide +kernel
theorem dX9_burnsOf_22 : decode cX9_burnsOf 22 = .ok (.iconst 5, 1) := by decide +kernel
theorem dX9_burnsOf_23 : decode cX9_burnsOf 23 = .ok (.iload_n 2, 1) := by decide +kernel
theorem dX9_burnsOf_24 : decode cX9_burnsOf 24 = .ok (.imul, 1) := by decide +kernel
theorem dX9_burnsOf_25 : decode cX9_burnsOf 25 = .ok (.iadd, 1) := by decide +kernel
theorem dX9_burnsOf_26 : decode cX9_burnsOf 26 = .ok (.invokestatic 94, 3) := by decide +kernel
theorem dX9_burnsOf_29 : decode cX9_burnsOf 29 = .ok (.ireturn, 1) := by decide +kernel
set_option maxRecDepth 20000 in
theorem ggX9_of_X9_isCandle : GoodIn wsX9_of wsX9_isCandle := goodIn_r _ [6, 7, 8, 9, 5, 10, 42, 43, 44, 45, 46, 47, 48, 49, 50, 51, 52, 53, 54, 55, 56, 57, 58, 59, 60, 61] (by decide +kernel) (by decide +kernel)
set_option maxRecDepth 20000 in
theorem gX9_of_X9_isCandle : GoodIn wsX9_of (wsV RX9 97 RX9 yX9_isCandle wsX9_isCandle) := goodIn_app (goodIn_of _ (by decide +kernel)) ggX9_of_X9_isCandle
set_option maxRecDepth 20000 in
theorem ggX9_of_X9_finds : GoodIn wsX9_of wsX9_finds := goodIn_r _ [14, 15, 1, 42, 43, 44, 45, 46, 47, 48, 49, 50, 51, 52, 53, 54, 55, 56, 57, 58, 59, 60, 61] (by decide +kernel) (by decide +kernel)
set_option maxRecDepth 20000 in
theorem gX9_of_X9_finds : GoodIn wsX9_of (wsV RX9 64 RX9 yX9_finds wsX9_finds) := goodIn_app (goodIn_of _ (by decide +kernel)) ggX9_of_X9_finds
set_option maxRecDepth 20000 in
theorem ggX9_of_X9_kindOf : GoodIn wsX9_of wsX9_kindOf := goodIn_r _ [19, 7, 20, 21, 5, 22, 42, 43, 44, 45, 46, 47, 48, 49, 50, 51, 52, 53, 54, 55, 56, 57, 58, 59, 60, 61] (by decide +kernel) (by decide +kernel)
set_option maxRecDepth 20000 in
theorem gX9_of_X9_kindOf : GoodIn wsX9_of (wsV RX9 91 RX9 yX9_kindOf wsX9_kindOf) := goodIn_app (goodIn_of _ (by decide +kernel)) ggX9_of_X9_kindOf
set_option maxRecDepth 20000 in
theorem ggX9_of_X9_many : GoodIn wsX9_of wsX9_many := goodIn_r _ [26, 7, 20, 21, 5, 22, 42, 43, 44, 45, 46, 47, 48, 49, 50, 51, 52, 53, 54, 55, 56, 57, 58, 59, 60, 61] (by decide +kernel) (by decide +kernel)
set_option maxRecDepth 20000 in
theorem gX9_of_X9_many : GoodIn wsX9_of (wsV RX9 81 RX9 yX9_many wsX9_many) := goodIn_app (goodIn_of _ (by decide +kernel)) ggX9_of_X9_many
set_option maxRecDepth 20000 in
theorem ggX9_of_X9_grams : GoodIn wsX9_of wsX9_grams := goodIn_r _ [30, 23, 24, 25, 5, 26, 7, 20, 21, 22, 31, 32, 33, 34, 42, 43, 44, 45, 46, 47, 48, 49, 50, 51, 52, 53, 54, 55, 56, 57, 58, 59, 60, 61] (by decide +kernel) (by decide +kernel)
set_option maxRecDepth 20000 in
theorem gX9_of_X9_grams : GoodIn wsX9_of (wsV RX9 87 RX9 yX9_grams wsX9_grams) := goodIn_app (goodIn_of _ (by decide +kernel)) ggX9_of_X9_grams
set_option maxRecDepth 20000 in
theorem ggX9_of_X9_burnsOf : GoodIn wsX9_of wsX9_burnsOf := goodIn_r _ [38, 27, 28, 29, 5, 30, 23, 24, 25, 26, 7, 20, 21, 22, 31, 32, 33, 34, 16, 17, 18, 19, 39, 40, 41, 42, 43, 44, 45, 46, 47, 48, 49, 50, 51, 52, 53, 54, 55, 56, 57, 58, 59, 60, 61] (by decide +kernel) (by decide +kernel)
set_option maxRecDepth 20000 in
theorem gX9_of_X9_burnsOf : GoodIn wsX9_of (wsV RX9 100 RX9 yX9_burnsOf wsX9_burnsOf) := goodIn_app (goodIn_of _ (by decide +kernel)) ggX9_of_X9_burnsOf
theorem dX9_of_0 : decode cX9_of 0 = .ok (.aload_n 0, 1) := by decide +kernel
theorem dX9_of_1 : decode cX9_of 1 = .ok (.iload_n 1, 1) := by decide +kernel
theorem dX9_of_2 : decode cX9_of 2 = .ok (.invokevirtual 97, 3) := by decide +kernel
theorem dX9_of_5 : decode cX9_of 5 = .ok (.ifCond .ne 10, 3) := by decide +kernel
theorem dX9_of_8 : decode cX9_of 8 = .ok (.aload_n 0, 1) := by decide +kernel
theorem dX9_of_9 : decode cX9_of 9 = .ok (.ldc 48, 2) := by decide +kernel
theorem dX9_of_11 : decode cX9_of 11 = .ok (.invokevirtual 64, 3) := by decide +kernel
theorem dX9_of_14 : decode cX9_of 14 = .ok (.ireturn, 1) := by decide +kernel
theorem dX9_of_15 : decode cX9_of 15 = .ok (.iload_n 2, 1) := by decide +kernel
theorem dX9_of_16 : decode cX9_of 16 = .ok (.tableswitch 68 0 4 #[36, 42, 48, 55, 62], 36) := by decide +kernel
theorem dX9_of_52 : decode cX9_of 52 = .ok (.aload_n 0, 1) := by decide +kernel
theorem dX9_of_53 : decode cX9_of 53 = .ok (.iload_n 1, 1) := by decide +kernel
theorem dX9_of_54 : decode cX9_of 54 = .ok (.invokevirtual 91, 3) := by decide +kernel
theorem dX9_of_57 : decode cX9_of 57 = .ok (.ireturn, 1) := by decide +kernel
theorem dX9_of_58 : decode cX9_of 58 = .ok (.aload_n 0, 1) := by decide +kernel
theorem dX9_of_59 : decode cX9_of 59 = .ok (.iload_n 1, 1) := by decide +kernel
theorem dX9_of_60 : decode cX9_of 60 = .ok (.invokevirtual 81, 3) := by decide +kernel
theorem dX9_of_63 : decode cX9_of 63 = .ok (.ireturn, 1) := by decide +kernel
theorem dX9_of_64 : decode cX9_of 64 = .ok (.aload_n 0, 1) := by decide +kernel
theorem dX9_of_65 : decode cX9_of 65 = .ok (.iload_n 1, 1) := by decide +kernel
theorem dX9_of_66 : decode cX9_of 66 = .ok (.iconst 0, 1) := by decide +kernel
theorem dX9_of_67 : decode cX9_of 67 = .ok (.invokevirtual 87, 3) := by decide +kernel
theorem dX9_of_70 : decode cX9_of 70 = .ok (.ireturn, 1) := by decide +kernel
theorem dX9_of_71 : decode cX9_of 71 = .ok (.aload_n 0, 1) := by decide +kernel
theorem dX9_of_72 : decode cX9_of 72 = .ok (.iload_n 1, 1) := by decide +kernel
theorem dX9_of_73 : decode cX9_of 73 = .ok (.iconst 1, 1) := by decide +kernel
theorem dX9_of_74 : decode cX9_of 74 = .ok (.invokevirtual 87, 3) := by decide +kernel
theorem dX9_of_77 : decode cX9_of 77 = .ok (.ireturn, 1) := by decide +kernel
theorem dX9_of_78 : decode cX9_of 78 = .ok (.aload_n 0, 1) := by decide +kernel
theorem dX9_of_79 : decode cX9_of 79 = .ok (.iload_n 1, 1) := by decide +kernel
theorem dX9_of_80 : decode cX9_of 80 = .ok (.invokevirtual 100, 3) := by decide +kernel
theorem dX9_of_83 : decode cX9_of 83 = .ok (.ireturn, 1) := by decide +kernel
theorem dX9_of_84 : decode cX9_of 84 = .ok (.aload_n 0, 1) := by decide +kernel
theorem dX9_of_85 : decode cX9_of 85 = .ok (.ldc 48, 2) := by decide +kernel
theorem dX9_of_87 : decode cX9_of 87 = .ok (.invokevirtual 64, 3) := by decide +kernel
theorem dX9_of_90 : decode cX9_of 90 = .ok (.ireturn, 1) := by decide +kernel
set_option maxRecDepth 20000 in
theorem ggX9_layer_X9_isCandle : GoodIn wsX9_layer wsX9_isCandle := goodIn_r _ [7, 8, 9, 10, 6, 11, 28, 29, 30, 31, 32, 33, 34, 35, 36, 37, 38, 39, 40, 41, 42, 43, 44, 45, 46, 47] (by decide +kernel) (by decide +kernel)
set_option maxRecDepth 20000 in
theorem gX9_layer_X9_isCandle : GoodIn wsX9_layer (wsV RX9 97 RX9 yX9_isCandle wsX9_isCandle) := goodIn_app (goodIn_of _ (by decide +kernel)) ggX9_layer_X9_isCandle
set_option maxRecDepth 20000 in
theorem ggX9_layer_X9_finds : GoodIn wsX9_layer wsX9_finds := goodIn_r _ [15, 16, 1, 28, 29, 30, 31, 32, 33, 34, 35, 36, 37, 38, 39, 40, 41, 42, 43, 44, 45, 46, 47] (by decide +kernel) (by decide +kernel)
set_option maxRecDepth 20000 in
theorem gX9_layer_X9_finds : GoodIn wsX9_layer (wsV RX9 64 RX9 yX9_finds wsX9_finds) := goodIn_app (goodIn_of _ (by decide +kernel)) ggX9_layer_X9_finds
set_option maxRecDepth 20000 in
theorem ggX9_layer_X9_many : GoodIn wsX9_layer wsX9_many := goodIn_r _ [20, 8, 21, 22, 6, 23, 28, 29, 30, 31, 32, 33, 34, 35, 36, 37, 38, 39, 40, 41, 42, 43, 44, 45, 46, 47] (by decide +kernel) (by decide +kernel)
set_option maxRecDepth 20000 in
theorem gX9_layer_X9_many : GoodIn wsX9_layer (wsV RX9 81 RX9 yX9_many wsX9_many) := goodIn_app (goodIn_of _ (by decide +kernel)) ggX9_layer_X9_many
set_option maxRecDepth 20000 in
theorem ggX9_layer_X9_layerOf : GoodIn wsX9_layer wsX9_layerOf := goodIn_r _ [27, 8, 21, 22, 6, 23, 28, 29, 30, 31, 32, 33, 34, 35, 36, 37, 38, 39, 40, 41, 42, 43, 44, 45, 46, 47] (by decide +kernel) (by decide +kernel)
set_option maxRecDepth 20000 in
theorem gX9_layer_X9_layerOf : GoodIn wsX9_layer (wsV RX9 84 RX9 yX9_layerOf wsX9_layerOf) := goodIn_app (goodIn_of _ (by decide +kernel)) ggX9_layer_X9_layerOf
theorem dX9_layer_0 : decode cX9_layer 0 = .ok (.aload_n 0, 1) := by decide +kernel
theorem dX9_layer_1 : decode cX9_layer 1 = .ok (.iload_n 1, 1) := by decide +kernel
theorem dX9_layer_2 : decode cX9_layer 2 = .ok (.invokevirtual 97, 3) := by decide +kernel
theorem dX9_layer_5 : decode cX9_layer 5 = .ok (.ifCond .eq 7, 3) := by decide +kernel
theorem dX9_layer_8 : decode cX9_layer 8 = .ok (.iload_n 2, 1) := by decide +kernel
theorem dX9_layer_9 : decode cX9_layer 9 = .ok (.ifCond .ge 10, 3) := by decide +kernel
theorem dX9_layer_12 : decode cX9_layer 12 = .ok (.aload_n 0, 1) := by decide +kernel
theorem dX9_layer_13 : decode cX9_layer 13 = .ok (.ldc 48, 2) := by decide +kernel
theorem dX9_layer_15 : decode cX9_layer 15 = .ok (.invokevirtual 64, 3) := by decide +kernel
theorem dX9_layer_18 : decode cX9_layer 18 = .ok (.ireturn, 1) := by decide +kernel
theorem dX9_layer_19 : decode cX9_layer 19 = .ok (.iload_n 2, 1) := by decide +kernel
theorem dX9_layer_20 : decode cX9_layer 20 = .ok (.aload_n 0, 1) := by decide +kernel
theorem dX9_layer_21 : decode cX9_layer 21 = .ok (.iload_n 1, 1) := by decide +kernel
theorem dX9_layer_22 : decode cX9_layer 22 = .ok (.invokevirtual 81, 3) := by decide +kernel
theorem dX9_layer_25 : decode cX9_layer 25 = .ok (.if_icmp .ge 12, 3) := by decide +kernel
theorem dX9_layer_28 : decode cX9_layer 28 = .ok (.aload_n 0, 1) := by decide +kernel
theorem dX9_layer_29 : decode cX9_layer 29 = .ok (.iload_n 1, 1) := by decide +kernel
theorem dX9_layer_30 : decode cX9_layer 30 = .ok (.iload_n 2, 1) := by decide +kernel
theorem dX9_layer_31 : decode cX9_layer 31 = .ok (.invokevirtual 84, 3) := by decide +kernel
theorem dX9_layer_34 : decode cX9_layer 34 = .ok (.goto 9, 3) := by decide +kernel
theorem dX9_layer_37 : decode cX9_layer 37 = .ok (.aload_n 0, 1) := by decide +kernel
theorem dX9_layer_38 : decode cX9_layer 38 = .ok (.ldc 103, 2) := by decide +kernel
theorem dX9_layer_40 : decode cX9_layer 40 = .ok (.invokevirtual 64, 3) := by decide +kernel
theorem dX9_layer_43 : decode cX9_layer 43 = .ok (.ireturn, 1) := by decide +kernel
set_option maxRecDepth 20000 in
theorem ggX9_turn_X9_isCandle : GoodIn wsX9_turn wsX9_isCandle := goodIn_r _ [7, 2, 8, 9, 6, 10, 26, 27, 28, 29, 30, 31, 32, 33, 34, 35, 36, 37, 38, 39, 40, 41, 42, 43, 44, 45] (by decide +kernel) (by decide +kernel)
set_option maxRecDepth 20000 in
theorem gX9_turn_X9_isCandle : GoodIn wsX9_turn (wsV RX9 97 RX9 yX9_isCandle wsX9_isCandle) := goodIn_app (goodIn_of _ (by decide +kernel)) ggX9_turn_X9_isCandle
set_option maxRecDepth 20000 in
theorem ggX9_turn_X9_isKind : GoodIn wsX9_turn wsX9_isKind := goodIn_r _ [13, 8, 9, 6, 10] (by decide +kernel) (by decide +kernel)
set_option maxRecDepth 20000 in
theorem gX9_turn_X9_isKind : GoodIn wsX9_turn (va_wsS RX9 73 yX9_isKind wsX9_isKind) := goodIn_app (goodIn_of _ (by decide +kernel)) ggX9_turn_X9_isKind
set_option maxRecDepth 20000 in
theorem ggX9_turn_X9_finds : GoodIn wsX9_turn wsX9_finds := goodIn_r _ [17, 18, 1, 26, 27, 28, 29, 30, 31, 32, 33, 34, 35, 36, 37, 38, 39, 40, 41, 42, 43, 44, 45] (by decide +kernel) (by decide +kernel)
set_option maxRecDepth 20000 in
theorem gX9_turn_X9_finds : GoodIn wsX9_turn (wsV RX9 64 RX9 yX9_finds wsX9_finds) := goodIn_app (goodIn_of _ (by decide +kernel)) ggX9_turn_X9_finds
set_option maxRecDepth 20000 in
theorem ggX9_turn_X9_kindOf : GoodIn wsX9_turn wsX9_kindOf := goodIn_r _ [22, 2, 23, 24, 6, 25, 26, 27, 28, 29, 30, 31, 32, 33, 34, 35, 36, 37, 38, 39, 40, 41, 42, 43, 44, 45] (by decide +kernel) (by decide +kernel)
set_option maxRecDepth 20000 in
theorem gX9_turn_X9_kindOf : GoodIn wsX9_turn (wsV RX9 91 RX9 yX9_kindOf wsX9_kindOf) := goodIn_app (goodIn_of _ (by decide +kernel)) ggX9_turn_X9_kindOf
set_option maxRecDepth 20000 in
theorem ggX9_turn_X9_at : GoodIn wsX9_turn wsX9_at := goodIn_r _ [25] (by decide +kernel) (by decide +kernel)
set_option maxRecDepth 20000 in
theorem gX9_turn_X9_at : GoodIn wsX9_turn (va_wsS RX9 53 yX9_at wsX9_at) := goodIn_app (goodIn_of _ (by decide +kernel)) ggX9_turn_X9_at
theorem dX9_turn_0 : decode cX9_turn 0 = .ok (.aload_n 0, 1) := by decide +kernel
theorem dX9_turn_1 : decode cX9_turn 1 = .ok (.iload_n 1, 1) := by decide +kernel
theorem dX9_turn_2 : decode cX9_turn 2 = .ok (.invokevirtual 97, 3) := by decide +kernel
theorem dX9_turn_5 : decode cX9_turn 5 = .ok (.ifCond .eq 10, 3) := by decide +kernel
theorem dX9_turn_8 : decode cX9_turn 8 = .ok (.iload_n 2, 1) := by decide +kernel
theorem dX9_turn_9 : decode cX9_turn 9 = .ok (.invokestatic 73, 3) := by decide +kernel
theorem dX9_turn_12 : decode cX9_turn 12 = .ok (.ifCond .ne 10, 3) := by decide +kernel
theorem dX9_turn_15 : decode cX9_turn 15 = .ok (.aload_n 0, 1) := by decide +kernel
theorem dX9_turn_16 : decode cX9_turn 16 = .ok (.ldc 48, 2) := by decide +kernel
theorem dX9_turn_18 : decode cX9_turn 18 = .ok (.invokevirtual 64, 3) := by decide +kernel
theorem dX9_turn_21 : decode cX9_turn 21 = .ok (.ireturn, 1) := by decide +kernel
theorem dX9_turn_22 : decode cX9_turn 22 = .ok (.aload_n 0, 1) := by decide +kernel
theorem dX9_turn_23 : decode cX9_turn 23 = .ok (.iload_n 1, 1) := by decide +kernel
theorem dX9_turn_24 : decode cX9_turn 24 = .ok (.invokevirtual 91, 3) := by decide +kernel
theorem dX9_turn_27 : decode cX9_turn 27 = .ok (.istore_n 3, 1) := by decide +kernel
theorem dX9_turn_28 : decode cX9_turn 28 = .ok (.aload_n 0, 1) := by decide +kernel
theorem dX9_turn_29 : decode cX9_turn 29 = .ok (.getfield 7, 3) := by decide +kernel
theorem dX9_turn_32 : decode cX9_turn 32 = .ok (.iload_n 1, 1) := by decide +kernel
theorem dX9_turn_33 : decode cX9_turn 33 = .ok (.iconst 0, 1) := by decide +kernel
theorem dX9_turn_34 : decode cX9_turn 34 = .ok (.invokestatic 53, 3) := by decide +kernel
theorem dX9_turn_37 : decode cX9_turn 37 = .ok (.iload_n 2, 1) := by decide +kernel
theorem dX9_turn_38 : decode cX9_turn 38 = .ok (.iastore, 1) := by decide +kernel
theorem dX9_turn_39 : decode cX9_turn 39 = .ok (.iload_n 3, 1) := by decide +kernel
theorem dX9_turn_40 : decode cX9_turn 40 = .ok (.ireturn, 1) := by decide +kernel
theorem dX9_isUnder_0 : decode cX9_isUnder 0 = .ok (.iload_n 1, 1) := by decide +kernel
theorem dX9_isUnder_1 : decode cX9_isUnder 1 = .ok (.ifCond .eq 28, 3) := by decide +kernel
theorem dX9_isUnder_4 : decode cX9_isUnder 4 = .ok (.iload_n 1, 1) := by decide +kernel
theorem dX9_isUnder_5 : decode cX9_isUnder 5 = .ok (.iload_n 0, 1) := by decide +kernel
theorem dX9_isUnder_6 : decode cX9_isUnder 6 = .ok (.if_icmp .eq 23, 3) := by decide +kernel
theorem dX9_isUnder_9 : decode cX9_isUnder 9 = .ok (.iload_n 1, 1) := by decide +kernel
theorem dX9_isUnder_10 : decode cX9_isUnder 10 = .ok (.iconst 2, 1) := by decide +kernel
theorem dX9_isUnder_11 : decode cX9_isUnder 11 = .ok (.if_icmp .ne 8, 3) := by decide +kernel
theorem dX9_isUnder_14 : decode cX9_isUnder 14 = .ok (.iload_n 0, 1) := by decide +kernel
theorem dX9_isUnder_15 : decode cX9_isUnder 15 = .ok (.iconst 4, 1) := by decide +kernel
theorem dX9_isUnder_16 : decode cX9_isUnder 16 = .ok (.if_icmp .eq 13, 3) := by decide +kernel
theorem dX9_isUnder_19 : decode cX9_isUnder 19 = .ok (.iload_n 1, 1) := by decide +kernel
theorem dX9_isUnder_20 : decode cX9_isUnder 20 = .ok (.iconst 1, 1) := by decide +kernel
theorem dX9_isUnder_21 : decode cX9_isUnder 21 = .ok (.if_icmp .ne 12, 3) := by decide +kernel
theorem dX9_isUnder_24 : decode cX9_isUnder 24 = .ok (.iload_n 0, 1) := by decide +kernel
theorem dX9_isUnder_25 : decode cX9_isUnder 25 = .ok (.iconst 5, 1) := by decide +kernel
theorem dX9_isUnder_26 : decode cX9_isUnder 26 = .ok (.if_icmp .ne 7, 3) := by decide +kernel
theorem dX9_isUnder_29 : decode cX9_isUnder 29 = .ok (.iconst 1, 1) := by decide +kernel
theorem dX9_isUnder_30 : decode cX9_isUnder 30 = .ok (.goto 4, 3) := by decide +kernel
theorem dX9_isUnder_33 : decode cX9_isUnder 33 = .ok (.iconst 0, 1) := by decide +kernel
theorem dX9_isUnder_34 : decode cX9_isUnder 34 = .ok (.ireturn, 1) := by decide +kernel
set_option maxRecDepth 20000 in
theorem ggX9_as_X9_isCandle : GoodIn wsX9_as wsX9_isCandle := goodIn_r _ [7, 8, 9, 10, 6, 11, 49, 50, 51, 52, 53, 54, 55, 56, 57, 58, 59, 60, 61, 62, 63, 64, 65, 66, 67, 68] (by decide +kernel) (by decide +kernel)
set_option maxRecDepth 20000 in
theorem gX9_as_X9_isCandle : GoodIn wsX9_as (wsV RX9 97 RX9 yX9_isCandle wsX9_isCandle) := goodIn_app (goodIn_of _ (by decide +kernel)) ggX9_as_X9_isCandle
set_option maxRecDepth 20000 in
theorem ggX9_as_X9_isKind : GoodIn wsX9_as wsX9_isKind := goodIn_r _ [14, 9, 10, 6, 11] (by decide +kernel) (by decide +kernel)
set_option maxRecDepth 20000 in
theorem gX9_as_X9_isKind : GoodIn wsX9_as (va_wsS RX9 73 yX9_isKind wsX9_isKind) := goodIn_app (goodIn_of _ (by decide +kernel)) ggX9_as_X9_isKind
set_option maxRecDepth 20000 in
theorem ggX9_as_X9_finds : GoodIn wsX9_as wsX9_finds := goodIn_r _ [18, 19, 1, 49, 50, 51, 52, 53, 54, 55, 56, 57, 58, 59, 60, 61, 62, 63, 64, 65, 66, 67, 68] (by decide +kernel) (by decide +kernel)
set_option maxRecDepth 20000 in
theorem gX9_as_X9_finds : GoodIn wsX9_as (wsV RX9 64 RX9 yX9_finds wsX9_finds) := goodIn_app (goodIn_of _ (by decide +kernel)) ggX9_as_X9_finds
set_option maxRecDepth 20000 in
theorem ggX9_as_X9_kindOf : GoodIn wsX9_as wsX9_kindOf := goodIn_r _ [23, 8, 24, 25, 6, 26, 49, 50, 51, 52, 53, 54, 55, 56, 57, 58, 59, 60, 61, 62, 63, 64, 65, 66, 67, 68] (by decide +kernel) (by decide +kernel)
set_option maxRecDepth 20000 in
theorem gX9_as_X9_kindOf : GoodIn wsX9_as (wsV RX9 91 RX9 yX9_kindOf wsX9_kindOf) := goodIn_app (goodIn_of _ (by decide +kernel)) ggX9_as_X9_kindOf
set_option maxRecDepth 20000 in
theorem ggX9_as_X9_isUnder : GoodIn wsX9_as wsX9_isUnder := goodIn_r _ [29] (by decide +kernel) (by decide +kernel)
set_option maxRecDepth 20000 in
theorem gX9_as_X9_isUnder : GoodIn wsX9_as (va_wsS RX9 104 yX9_isUnder wsX9_isUnder) := goodIn_app (goodIn_of _ (by decide +kernel)) ggX9_as_X9_isUnder
set_option maxRecDepth 20000 in
theorem ggX9_as_X9_burnsOf : GoodIn wsX9_as wsX9_burnsOf := goodIn_r _ [33, 34, 35, 36, 6, 37, 38, 39, 40, 41, 8, 24, 25, 26, 42, 43, 44, 45, 20, 21, 22, 23, 46, 47, 48, 49, 50, 51, 52, 53, 54, 55, 56, 57, 58, 59, 60, 61, 62, 63, 64, 65, 66, 67, 68] (by decide +kernel) (by decide +kernel)
set_option maxRecDepth 20000 in
theorem gX9_as_X9_burnsOf : GoodIn wsX9_as (wsV RX9 100 RX9 yX9_burnsOf wsX9_burnsOf) := goodIn_app (goodIn_of _ (by decide +kernel)) ggX9_as_X9_burnsOf
theorem dX9_as_0 : decode cX9_as 0 = .ok (.aload_n 0, 1) := by decide +kernel
theorem dX9_as_1 : decode cX9_as 1 = .ok (.iload_n 1, 1) := by decide +kernel
theorem dX9_as_2 : decode cX9_as 2 = .ok (.invokevirtual 97, 3) := by decide +kernel
theorem dX9_as_5 : decode cX9_as 5 = .ok (.ifCond .eq 10, 3) := by decide +kernel
theorem dX9_as_8 : decode cX9_as 8 = .ok (.iload_n 2, 1) := by decide +kernel
theorem dX9_as_9 : decode cX9_as 9 = .ok (.invokestatic 73, 3) := by decide +kernel
theorem dX9_as_12 : decode cX9_as 12 = .ok (.ifCond .ne 10, 3) := by decide +kernel
theorem dX9_as_15 : decode cX9_as 15 = .ok (.aload_n 0, 1) := by decide +kernel
theorem dX9_as_16 : decode cX9_as 16 = .ok (.ldc 48, 2) := by decide +kernel
theorem dX9_as_18 : decode cX9_as 18 = .ok (.invokevirtual 64, 3) := by decide +kernel
theorem dX9_as_21 : decode cX9_as 21 = .ok (.ireturn, 1) := by decide +kernel
theorem dX9_as_22 : decode cX9_as 22 = .ok (.aload_n 0, 1) := by decide +kernel
theorem dX9_as_23 : decode cX9_as 23 = .ok (.iload_n 1, 1) := by decide +kernel
theorem dX9_as_24 : decode cX9_as 24 = .ok (.invokevirtual 91, 3) := by decide +kernel
theorem dX9_as_27 : decode cX9_as 27 = .ok (.iload_n 2, 1) := by decide +kernel
theorem dX9_as_28 : decode cX9_as 28 = .ok (.invokestatic 104, 3) := by decide +kernel
theorem dX9_as_31 : decode cX9_as 31 = .ok (.ifCond .eq 11, 3) := by decide +kernel
theorem dX9_as_34 : decode cX9_as 34 = .ok (.aload_n 0, 1) := by decide +kernel
theorem dX9_as_35 : decode cX9_as 35 = .ok (.iload_n 1, 1) := by decide +kernel
theorem dX9_as_36 : decode cX9_as 36 = .ok (.invokevirtual 100, 3) := by decide +kernel
theorem dX9_as_39 : decode cX9_as 39 = .ok (.goto 9, 3) := by decide +kernel
theorem dX9_as_42 : decode cX9_as 42 = .ok (.aload_n 0, 1) := by decide +kernel
theorem dX9_as_43 : decode cX9_as 43 = .ok (.ldc 107, 2) := by decide +kernel
theorem dX9_as_45 : decode cX9_as 45 = .ok (.invokevirtual 64, 3) := by decide +kernel
theorem dX9_as_48 : decode cX9_as 48 = .ok (.ireturn, 1) := by decide +kernel
theorem dX9_plain_0 : decode cX9_plain 0 = .ok (.iload_n 0, 1) := by decide +kernel
theorem dX9_plain_1 : decode cX9_plain 1 = .ok (.bipush 30, 2) := by decide +kernel
theorem dX9_plain_3 : decode cX9_plain 3 = .ok (.if_icmp .ge 8, 3) := by decide +kernel
theorem dX9_plain_6 : decode cX9_plain 6 = .ok (.bipush 9, 2) := by decide +kernel
theorem dX9_plain_8 : decode cX9_plain 8 = .ok (.goto 26, 3) := by decide +kernel
theorem dX9_plain_11 : decode cX9_plain 11 = .ok (.iload_n 0, 1) := by decide +kernel
theorem dX9_plain_12 : decode cX9_plain 12 = .ok (.bipush 60, 2) := by decide +kernel
theorem dX9_plain_14 : decode cX9_plain 14 = .ok (.if_icmp .ge 8, 3) := by decide +kernel
theorem dX9_plain_17 : decode cX9_plain 17 = .ok (.bipush 6, 2) := by decide +kernel
theorem dX9_plain_19 : decode cX9_plain 19 = .ok (.goto 15, 3) := by decide +kernel
theorem dX9_plain_22 : decode cX9_plain 22 = .ok (.iload_n 0, 1) := by decide +kernel
theorem dX9_plain_23 : decode cX9_plain 23 = .ok (.bipush 80, 2) := by decide +kernel
theorem dX9_plain_25 : decode cX9_plain 25 = .ok (.if_icmp .ge 7, 3) := by decide +kernel
theorem dX9_plain_28 : decode cX9_plain 28 = .ok (.iconst 4, 1) := by decide +kernel
theorem dX9_plain_29 : decode cX9_plain 29 = .ok (.goto 5, 3) := by decide +kernel
theorem dX9_plain_32 : decode cX9_plain 32 = .ok (.bipush (-5), 2) := by decide +kernel
theorem dX9_plain_34 : decode cX9_plain 34 = .ok (.ireturn, 1) := by decide +kernel
set_option maxRecDepth 20000 in
theorem ggX9_takesAt_X9_plain : GoodIn wsX9_takesAt wsX9_plain := goodIn_r _ [4] (by decide +kernel) (by decide +kernel)
set_option maxRecDepth 20000 in
theorem gX9_takesAt_X9_plain : GoodIn wsX9_takesAt (va_wsS RX9 108 yX9_plain wsX9_plain) := goodIn_app (goodIn_of _ (by decide +kernel)) ggX9_takesAt_X9_plain
set_option maxRecDepth 20000 in
theorem ggX9_takesAt_X9_kindOf : GoodIn wsX9_takesAt wsX9_kindOf := goodIn_r _ [8, 9, 10, 11, 3, 12, 17, 18, 19, 20, 21, 22, 23, 24, 25, 26, 27, 28, 29, 30, 31, 32, 33, 34, 35, 36] (by decide +kernel) (by decide +kernel)
set_option maxRecDepth 20000 in
theorem gX9_takesAt_X9_kindOf : GoodIn wsX9_takesAt (wsV RX9 91 RX9 yX9_kindOf wsX9_kindOf) := goodIn_app (goodIn_of _ (by decide +kernel)) ggX9_takesAt_X9_kindOf
set_option maxRecDepth 20000 in
theorem ggX9_takesAt_X9_many : GoodIn wsX9_takesAt wsX9_many := goodIn_r _ [16, 9, 10, 11, 3, 12, 17, 18, 19, 20, 21, 22, 23, 24, 25, 26, 27, 28, 29, 30, 31, 32, 33, 34, 35, 36] (by decide +kernel) (by decide +kernel)
set_option maxRecDepth 20000 in
theorem gX9_takesAt_X9_many : GoodIn wsX9_takesAt (wsV RX9 81 RX9 yX9_many wsX9_many) := goodIn_app (goodIn_of _ (by decide +kernel)) ggX9_takesAt_X9_many
theorem dX9_takesAt_0 : decode cX9_takesAt 0 = .ok (.iload_n 2, 1) := by decide +kernel
theorem dX9_takesAt_1 : decode cX9_takesAt 1 = .ok (.invokestatic 108, 3) := by decide +kernel
theorem dX9_takesAt_4 : decode cX9_takesAt 4 = .ok (.istore_n 3, 1) := by decide +kernel
theorem dX9_takesAt_5 : decode cX9_takesAt 5 = .ok (.aload_n 0, 1) := by decide +kernel
theorem dX9_takesAt_6 : decode cX9_takesAt 6 = .ok (.iload_n 1, 1) := by decide +kernel
theorem dX9_takesAt_7 : decode cX9_takesAt 7 = .ok (.invokevirtual 91, 3) := by decide +kernel
theorem dX9_takesAt_10 : decode cX9_takesAt 10 = .ok (.tableswitch 100 1 5 #[34, 58, 84, 71, 38], 34) := by decide +kernel
theorem dX9_takesAt_44 : decode cX9_takesAt 44 = .ok (.iconst 3, 1) := by decide +kernel
theorem dX9_takesAt_45 : decode cX9_takesAt 45 = .ok (.iload_n 3, 1) := by decide +kernel
theorem dX9_takesAt_46 : decode cX9_takesAt 46 = .ok (.imul, 1) := by decide +kernel
theorem dX9_takesAt_47 : decode cX9_takesAt 47 = .ok (.ireturn, 1) := by decide +kernel
theorem dX9_takesAt_48 : decode cX9_takesAt 48 = .ok (.iload_n 3, 1) := by decide +kernel
theorem dX9_takesAt_49 : decode cX9_takesAt 49 = .ok (.ifCond .le 15, 3) := by decide +kernel
theorem dX9_takesAt_52 : decode cX9_takesAt 52 = .ok (.iconst 3, 1) := by decide +kernel
theorem dX9_takesAt_53 : decode cX9_takesAt 53 = .ok (.iload_n 3, 1) := by decide +kernel
theorem dX9_takesAt_54 : decode cX9_takesAt 54 = .ok (.imul, 1) := by decide +kernel
theorem dX9_takesAt_55 : decode cX9_takesAt 55 = .ok (.aload_n 0, 1) := by decide +kernel
theorem dX9_takesAt_56 : decode cX9_takesAt 56 = .ok (.iload_n 1, 1) := by decide +kernel
theorem dX9_takesAt_57 : decode cX9_takesAt 57 = .ok (.invokevirtual 81, 3) := by decide +kernel
theorem dX9_takesAt_60 : decode cX9_takesAt 60 = .ok (.iadd, 1) := by decide +kernel
theorem dX9_takesAt_61 : decode cX9_takesAt 61 = .ok (.goto 6, 3) := by decide +kernel
theorem dX9_takesAt_64 : decode cX9_takesAt 64 = .ok (.iconst 3, 1) := by decide +kernel
theorem dX9_takesAt_65 : decode cX9_takesAt 65 = .ok (.iload_n 3, 1) := by decide +kernel
theorem dX9_takesAt_66 : decode cX9_takesAt 66 = .ok (.imul, 1) := by decide +kernel
theorem dX9_takesAt_67 : decode cX9_takesAt 67 = .ok (.ireturn, 1) := by decide +kernel
theorem dX9_takesAt_68 : decode cX9_takesAt 68 = .ok (.iload_n 3, 1) := by decide +kernel
theorem dX9_takesAt_69 : decode cX9_takesAt 69 = .ok (.iconst 1, 1) := by decide +kernel
theorem dX9_takesAt_70 : decode cX9_takesAt 70 = .ok (.if_icmp .le 9, 3) := by decide +kernel
theorem dX9_takesAt_73 : decode cX9_takesAt 73 = .ok (.iload_n 3, 1) := by decide +kernel
theorem dX9_takesAt_74 : decode cX9_takesAt 74 = .ok (.iconst 1, 1) := by decide +kernel
theorem dX9_takesAt_75 : decode cX9_takesAt 75 = .ok (.isub, 1) := by decide +kernel
theorem dX9_takesAt_76 : decode cX9_takesAt 76 = .ok (.goto 4, 3) := by decide +kernel
theorem dX9_takesAt_79 : decode cX9_takesAt 79 = .ok (.iload_n 3, 1) := by decide +kernel
theorem dX9_takesAt_80 : decode cX9_takesAt 80 = .ok (.ireturn, 1) := by decide +kernel
theorem dX9_takesAt_81 : decode cX9_takesAt 81 = .ok (.iload_n 3, 1) := by decide +kernel
theorem dX9_takesAt_82 : decode cX9_takesAt 82 = .ok (.iconst 1, 1) := by decide +kernel
theorem dX9_takesAt_83 : decode cX9_takesAt 83 = .ok (.if_icmp .le 9, 3) := by decide +kernel
theorem dX9_takesAt_86 : decode cX9_takesAt 86 = .ok (.iload_n 3, 1) := by decide +kernel
theorem dX9_takesAt_87 : decode cX9_takesAt 87 = .ok (.iconst 4, 1) := by decide +kernel
theorem dX9_takesAt_88 : decode cX9_takesAt 88 = .ok (.iadd, 1) := by decide +kernel
theorem dX9_takesAt_89 : decode cX9_takesAt 89 = .ok (.goto 4, 3) := by decide +kernel
theorem dX9_takesAt_92 : decode cX9_takesAt 92 = .ok (.iload_n 3, 1) := by decide +kernel
theorem dX9_takesAt_93 : decode cX9_takesAt 93 = .ok (.ireturn, 1) := by decide +kernel
theorem dX9_takesAt_94 : decode cX9_takesAt 94 = .ok (.aload_n 0, 1) := by decide +kernel
theorem dX9_takesAt_95 : decode cX9_takesAt 95 = .ok (.iload_n 1, 1) := by decide +kernel
theorem dX9_takesAt_96 : decode cX9_takesAt 96 = .ok (.invokevirtual 81, 3) := by decide +kernel
theorem dX9_takesAt_99 : decode cX9_takesAt 99 = .ok (.ifCond .ne 7, 3) := by decide +kernel
theorem dX9_takesAt_102 : decode cX9_takesAt 102 = .ok (.iload_n 3, 1) := by decide +kernel
theorem dX9_takesAt_103 : decode cX9_takesAt 103 = .ok (.goto 6, 3) := by decide +kernel
theorem dX9_takesAt_106 : decode cX9_takesAt 106 = .ok (.iload_n 3, 1) := by decide +kernel
theorem dX9_takesAt_107 : decode cX9_takesAt 107 = .ok (.iconst 2, 1) := by decide +kernel
theorem dX9_takesAt_108 : decode cX9_takesAt 108 = .ok (.idiv, 1) := by decide +kernel
theorem dX9_takesAt_109 : decode cX9_takesAt 109 = .ok (.ireturn, 1) := by decide +kernel
theorem dX9_takesAt_110 : decode cX9_takesAt 110 = .ok (.iload_n 3, 1) := by decide +kernel
theorem dX9_takesAt_111 : decode cX9_takesAt 111 = .ok (.ireturn, 1) := by decide +kernel
set_option maxRecDepth 20000 in
theorem ggX9_takes_X9_isCandle : GoodIn wsX9_takes wsX9_isCandle := goodIn_r _ [6, 7, 8, 9, 5, 10, 41, 42, 43, 44, 45, 46, 47, 48, 49, 50, 51, 52, 53, 54, 55, 56, 57, 58, 59, 60] (by decide +kernel) (by decide +kernel)
set_option maxRecDepth 20000 in
theorem gX9_takes_X9_isCandle : GoodIn wsX9_takes (wsV RX9 97 RX9 yX9_isCandle wsX9_isCandle) := goodIn_app (goodIn_of _ (by decide +kernel)) ggX9_takes_X9_isCandle
set_option maxRecDepth 20000 in
theorem ggX9_takes_X9_isVat : GoodIn wsX9_takes wsX9_isVat := goodIn_r _ [13, 8, 9, 5, 10] (by decide +kernel) (by decide +kernel)
set_option maxRecDepth 20000 in
theorem gX9_takes_X9_isVat : GoodIn wsX9_takes (va_wsS RX9 57 yX9_isVat wsX9_isVat) := goodIn_app (goodIn_of _ (by decide +kernel)) ggX9_takes_X9_isVat
set_option maxRecDepth 20000 in
theorem ggX9_takes_X9_its : GoodIn wsX9_takes wsX9_its := goodIn_r _ [17, 7, 41, 42, 43, 44, 45, 46, 47, 48, 49, 50, 51, 52, 53, 54, 55, 56, 57, 58, 59, 60] (by decide +kernel) (by decide +kernel)
set_option maxRecDepth 20000 in
theorem gX9_takes_X9_its : GoodIn wsX9_takes (wsV RX9 61 RX9 yX9_its wsX9_its) := goodIn_app (goodIn_of _ (by decide +kernel)) ggX9_takes_X9_its
set_option maxRecDepth 20000 in
theorem ggX9_takes_X9_takesAt : GoodIn wsX9_takes wsX9_takesAt := goodIn_r _ [21, 22, 23, 5, 24, 25, 26, 27, 28, 7, 29, 30, 31, 32, 33, 34, 35, 41, 42, 43, 44, 45, 46, 47, 48, 49, 50, 51, 52, 53, 54, 55, 56, 57, 58, 59, 60] (by decide +kernel) (by decide +kernel)
set_option maxRecDepth 20000 in
theorem gX9_takes_X9_takesAt : GoodIn wsX9_takes (wsV RX9 111 RX9 yX9_takesAt wsX9_takesAt) := goodIn_app (goodIn_of _ (by decide +kernel)) ggX9_takes_X9_takesAt
set_option maxRecDepth 20000 in
theorem ggX9_takes_X9_finds : GoodIn wsX9_takes wsX9_finds := goodIn_r _ [39, 40, 1, 41, 42, 43, 44, 45, 46, 47, 48, 49, 50, 51, 52, 53, 54, 55, 56, 57, 58, 59, 60] (by decide +kernel) (by decide +kernel)
set_option maxRecDepth 20000 in
theorem gX9_takes_X9_finds : GoodIn wsX9_takes (wsV RX9 64 RX9 yX9_finds wsX9_finds) := goodIn_app (goodIn_of _ (by decide +kernel)) ggX9_takes_X9_finds
theorem dX9_takes_0 : decode cX9_takes 0 = .ok (.aload_n 0, 1) := by decide +kernel
theorem dX9_takes_1 : decode cX9_takes 1 = .ok (.iload_n 1, 1) := by decide +kernel
theorem dX9_takes_2 : decode cX9_takes 2 = .ok (.invokevirtual 97, 3) := by decide +kernel
theorem dX9_takes_5 : decode cX9_takes 5 = .ok (.ifCond .eq 24, 3) := by decide +kernel
theorem dX9_takes_8 : decode cX9_takes 8 = .ok (.iload_n 2, 1) := by decide +kernel
theorem dX9_takes_9 : decode cX9_takes 9 = .ok (.invokestatic 57, 3) := by decide +kernel
theorem dX9_takes_12 : decode cX9_takes 12 = .ok (.ifCond .eq 17, 3) := by decide +kernel
theorem dX9_takes_15 : decode cX9_takes 15 = .ok (.aload_n 0, 1) := by decide +kernel
theorem dX9_takes_16 : decode cX9_takes 16 = .ok (.iload_n 1, 1) := by decide +kernel
theorem dX9_takes_17 : decode cX9_takes 17 = .ok (.aload_n 0, 1) := by decide +kernel
theorem dX9_takes_18 : decode cX9_takes 18 = .ok (.iload_n 2, 1) := by decide +kernel
theorem dX9_takes_19 : decode cX9_takes 19 = .ok (.iconst 1, 1) := by decide +kernel
theorem dX9_takes_20 : decode cX9_takes 20 = .ok (.invokevirtual 61, 3) := by decide +kernel
theorem dX9_takes_23 : decode cX9_takes 23 = .ok (.invokevirtual 111, 3) := by decide +kernel
theorem dX9_takes_26 : decode cX9_takes 26 = .ok (.goto 9, 3) := by decide +kernel
theorem dX9_takes_29 : decode cX9_takes 29 = .ok (.aload_n 0, 1) := by decide +kernel
theorem dX9_takes_30 : decode cX9_takes 30 = .ok (.ldc 48, 2) := by decide +kernel
theorem dX9_takes_32 : decode cX9_takes 32 = .ok (.invokevirtual 64, 3) := by decide +kernel
theorem dX9_takes_35 : decode cX9_takes 35 = .ok (.ireturn, 1) := by decide +kernel
set_option maxRecDepth 20000 in
theorem ggX9_holdsMore_X9_its : GoodIn wsX9_holdsMore wsX9_its := goodIn_r _ [6, 7, 12, 13, 14, 15, 16, 17, 18, 19, 20, 21, 22, 23, 24, 25, 26, 27, 28, 29, 30, 31] (by decide +kernel) (by decide +kernel)
set_option maxRecDepth 20000 in
theorem gX9_holdsMore_X9_its : GoodIn wsX9_holdsMore (wsV RX9 61 RX9 yX9_its wsX9_its) := goodIn_app (goodIn_of _ (by decide +kernel)) ggX9_holdsMore_X9_its
set_option maxRecDepth 20000 in
theorem ggX9_holdsMore_X9_setVat : GoodIn wsX9_holdsMore wsX9_setVat := goodIn_r _ [11, 7, 12, 13, 14, 15, 16, 17, 18, 19, 20, 21, 22, 23, 24, 25, 26, 27, 28, 29, 30, 31] (by decide +kernel) (by decide +kernel)
set_option maxRecDepth 20000 in
theorem gX9_holdsMore_X9_setVat : GoodIn wsX9_holdsMore (wsV RX9 44 RX9 yX9_setVat wsX9_setVat) := goodIn_app (goodIn_of _ (by decide +kernel)) ggX9_holdsMore_X9_setVat
theorem dX9_holdsMore_0 : decode cX9_holdsMore 0 = .ok (.aload_n 0, 1) := by decide +kernel
theorem dX9_holdsMore_1 : decode cX9_holdsMore 1 = .ok (.iload_n 1, 1) := by decide +kernel
theorem dX9_holdsMore_2 : decode cX9_holdsMore 2 = .ok (.iconst 2, 1) := by decide +kernel
theorem dX9_holdsMore_3 : decode cX9_holdsMore 3 = .ok (.invokevirtual 61, 3) := by decide +kernel
theorem dX9_holdsMore_6 : decode cX9_holdsMore 6 = .ok (.iload_n 2, 1) := by decide +kernel
theorem dX9_holdsMore_7 : decode cX9_holdsMore 7 = .ok (.iadd, 1) := by decide +kernel
theorem dX9_holdsMore_8 : decode cX9_holdsMore 8 = .ok (.istore_n 3, 1) := by decide +kernel
theorem dX9_holdsMore_9 : decode cX9_holdsMore 9 = .ok (.aload_n 0, 1) := by decide +kernel
theorem dX9_holdsMore_10 : decode cX9_holdsMore 10 = .ok (.iload_n 1, 1) := by decide +kernel
theorem dX9_holdsMore_11 : decode cX9_holdsMore 11 = .ok (.iconst 2, 1) := by decide +kernel
theorem dX9_holdsMore_12 : decode cX9_holdsMore 12 = .ok (.iload_n 3, 1) := by decide +kernel
theorem dX9_holdsMore_13 : decode cX9_holdsMore 13 = .ok (.ldc 68, 2) := by decide +kernel
theorem dX9_holdsMore_15 : decode cX9_holdsMore 15 = .ok (.if_icmp .ge 7, 3) := by decide +kernel
theorem dX9_holdsMore_18 : decode cX9_holdsMore 18 = .ok (.iload_n 3, 1) := by decide +kernel
theorem dX9_holdsMore_19 : decode cX9_holdsMore 19 = .ok (.goto 5, 3) := by decide +kernel
theorem dX9_holdsMore_22 : decode cX9_holdsMore 22 = .ok (.ldc 68, 2) := by decide +kernel
theorem dX9_holdsMore_24 : decode cX9_holdsMore 24 = .ok (.invokevirtual 44, 3) := by decide +kernel
theorem dX9_holdsMore_27 : decode cX9_holdsMore 27 = .ok (.return_, 1) := by decide +kernel
set_option maxRecDepth 20000 in
theorem ggX9_comesOff_X9_many : GoodIn wsX9_comesOff wsX9_many := goodIn_r _ [6, 1, 7, 8, 5, 9, 14, 15, 16, 17, 18, 19, 20, 21, 22, 23, 24, 25, 26, 27, 28, 29, 30, 31, 32, 33] (by decide +kernel) (by decide +kernel)
set_option maxRecDepth 20000 in
theorem gX9_comesOff_X9_many : GoodIn wsX9_comesOff (wsV RX9 81 RX9 yX9_many wsX9_many) := goodIn_app (goodIn_of _ (by decide +kernel)) ggX9_comesOff_X9_many
set_option maxRecDepth 20000 in
theorem ggX9_comesOff_X9_layerOf : GoodIn wsX9_comesOff wsX9_layerOf := goodIn_r _ [13, 1, 7, 8, 5, 9, 14, 15, 16, 17, 18, 19, 20, 21, 22, 23, 24, 25, 26, 27, 28, 29, 30, 31, 32, 33] (by decide +kernel) (by decide +kernel)
set_option maxRecDepth 20000 in
theorem gX9_comesOff_X9_layerOf : GoodIn wsX9_comesOff (wsV RX9 84 RX9 yX9_layerOf wsX9_layerOf) := goodIn_app (goodIn_of _ (by decide +kernel)) ggX9_comesOff_X9_layerOf
set_option maxRecDepth 20000 in
theorem ggX9_comesOff_X9_at : GoodIn wsX9_comesOff wsX9_at := goodIn_r _ [9] (by decide +kernel) (by decide +kernel)
set_option maxRecDepth 20000 in
theorem gX9_comesOff_X9_at : GoodIn wsX9_comesOff (va_wsS RX9 53 yX9_at wsX9_at) := goodIn_app (goodIn_of _ (by decide +kernel)) ggX9_comesOff_X9_at
theorem dX9_comesOff_0 : decode cX9_comesOff 0 = .ok (.iload_n 2, 1) := by decide +kernel
theorem dX9_comesOff_1 : decode cX9_comesOff 1 = .ok (.istore_n 3, 1) := by decide +kernel
theorem dX9_comesOff_2 : decode cX9_comesOff 2 = .ok (.iload_n 3, 1) := by decide +kernel
theorem dX9_comesOff_3 : decode cX9_comesOff 3 = .ok (.ifCond .le 123, 3) := by decide +kernel
theorem dX9_comesOff_6 : decode cX9_comesOff 6 = .ok (.aload_n 0, 1) := by decide +kernel
theorem dX9_comesOff_7 : decode cX9_comesOff 7 = .ok (.iload_n 1, 1) := by decide +kernel
theorem dX9_comesOff_8 : decode cX9_comesOff 8 = .ok (.invokevirtual 81, 3) := by decide +kernel
theorem dX9_comesOff_11 : decode cX9_comesOff 11 = .ok (.ifCond .le 115, 3) := by decide +kernel
theorem dX9_comesOff_14 : decode cX9_comesOff 14 = .ok (.aload_n 0, 1) := by decide +kernel
theorem dX9_comesOff_15 : decode cX9_comesOff 15 = .ok (.iload_n 1, 1) := by decide +kernel
theorem dX9_comesOff_16 : decode cX9_comesOff 16 = .ok (.aload_n 0, 1) := by decide +kernel
theorem dX9_comesOff_17 : decode cX9_comesOff 17 = .ok (.iload_n 1, 1) := by decide +kernel
theorem dX9_comesOff_18 : decode cX9_comesOff 18 = .ok (.invokevirtual 81, 3) := by decide +kernel
theorem dX9_comesOff_21 : decode cX9_comesOff 21 = .ok (.iconst 1, 1) := by decide +kernel
theorem dX9_comesOff_22 : decode cX9_comesOff 22 = .ok (.isub, 1) := by decide +kernel
theorem dX9_comesOff_23 : decode cX9_comesOff 23 = .ok (.invokevirtual 84, 3) := by decide +kernel
theorem dX9_comesOff_26 : decode cX9_comesOff 26 = .ok (.istore 4, 2) := by decide +kernel
theorem dX9_comesOff_28 : decode cX9_comesOff 28 = .ok (.iload 4, 2) := by decide +kernel
theorem dX9_comesOff_30 : decode cX9_comesOff 30 = .ok (.ifCond .ge 9, 3) := by decide +kernel
theorem dX9_comesOff_33 : decode cX9_comesOff 33 = .ok (.iload 4, 2) := by decide +kernel
theorem dX9_comesOff_35 : decode cX9_comesOff 35 = .ok (.ineg, 1) := by decide +kernel
theorem dX9_comesOff_36 : decode cX9_comesOff 36 = .ok (.goto 5, 3) := by decide +kernel
theorem dX9_comesOff_39 : decode cX9_comesOff 39 = .ok (.iload 4, 2) := by decide +kernel
theorem dX9_comesOff_41 : decode cX9_comesOff 41 = .ok (.istore 5, 2) := by decide +kernel
theorem dX9_comesOff_43 : decode cX9_comesOff 43 = .ok (.iload_n 3, 1) := by decide +kernel
theorem dX9_comesOff_44 : decode cX9_comesOff 44 = .ok (.iload 5, 2) := by decide +kernel
theorem dX9_comesOff_46 : decode cX9_comesOff 46 = .ok (.if_icmp .ge 7, 3) := by decide +kernel
theorem dX9_comesOff_49 : decode cX9_comesOff 49 = .ok (.iload_n 3, 1) := by decide +kernel
theorem dX9_comesOff_50 : decode cX9_comesOff 50 = .ok (.goto 5, 3) := by decide +kernel
theorem dX9_comesOff_53 : decode cX9_comesOff 53 = .ok (.iload 5, 2) := by decide +kernel
theorem dX9_comesOff_55 : decode cX9_comesOff 55 = .ok (.istore 6, 2) := by decide +kernel
theorem dX9_comesOff_57 : decode cX9_comesOff 57 = .ok (.aload_n 0, 1) := by decide +kernel
theorem dX9_comesOff_58 : decode cX9_comesOff 58 = .ok (.getfield 7, 3) := by decide +kernel
theorem dX9_comesOff_61 : decode cX9_comesOff 61 = .ok (.iload_n 1, 1) := by decide +kernel
theorem dX9_comesOff_62 : decode cX9_comesOff 62 = .ok (.iconst 2, 1) := by decide +kernel
theorem dX9_comesOff_63 : decode cX9_comesOff 63 = .ok (.aload_n 0, 1) := by decide +kernel
theorem dX9_comesOff_64 : decode cX9_comesOff 64 = .ok (.iload_n 1, 1) := by decide +kernel
theorem dX9_comesOff_65 : decode cX9_comesOff 65 = .ok (.invokevirtual 81, 3) := by decide +kernel
theorem dX9_comesOff_68 : decode cX9_comesOff 68 = .ok (.iadd, 1) := by decide +kernel
theorem dX9_comesOff_69 : decode cX9_comesOff 69 = .ok (.iconst 1, 1) := by decide +kernel
theorem dX9_comesOff_70 : decode cX9_comesOff 70 = .ok (.isub, 1) := by decide +kernel
theorem dX9_comesOff_71 : decode cX9_comesOff 71 = .ok (.invokestatic 53, 3) := by decide +kernel
theorem dX9_comesOff_74 : decode cX9_comesOff 74 = .ok (.iload 4, 2) := by decide +kernel
theorem dX9_comesOff_76 : decode cX9_comesOff 76 = .ok (.ifCond .ge 11, 3) := by decide +kernel
theorem dX9_comesOff_79 : decode cX9_comesOff 79 = .ok (.iload 4, 2) := by decide +kernel
theorem dX9_comesOff_81 : decode cX9_comesOff 81 = .ok (.iload 6, 2) := by decide +kernel
theorem dX9_comesOff_83 : decode cX9_comesOff 83 = .ok (.iadd, 1) := by decide +kernel
theorem dX9_comesOff_84 : decode cX9_comesOff 84 = .ok (.goto 8, 3) := by decide +kernel
theorem dX9_comesOff_87 : decode cX9_comesOff 87 = .ok (.iload 4, 2) := by decide +kernel
theorem dX9_comesOff_89 : decode cX9_comesOff 89 = .ok (.iload 6, 2) := by decide +kernel
theorem dX9_comesOff_91 : decode cX9_comesOff 91 = .ok (.isub, 1) := by decide +kernel
theorem dX9_comesOff_92 : decode cX9_comesOff 92 = .ok (.iastore, 1) := by decide +kernel
theorem dX9_comesOff_93 : decode cX9_comesOff 93 = .ok (.aload_n 0, 1) := by decide +kernel
theorem dX9_comesOff_94 : decode cX9_comesOff 94 = .ok (.getfield 7, 3) := by decide +kernel
theorem dX9_comesOff_97 : decode cX9_comesOff 97 = .ok (.iload_n 1, 1) := by decide +kernel
theorem dX9_comesOff_98 : decode cX9_comesOff 98 = .ok (.iconst 1, 1) := by decide +kernel
theorem dX9_comesOff_99 : decode cX9_comesOff 99 = .ok (.invokestatic 53, 3) := by decide +kernel
theorem dX9_comesOff_102 : decode cX9_comesOff 102 = .ok (.dup2, 1) := by decide +kernel
theorem dX9_comesOff_103 : decode cX9_comesOff 103 = .ok (.iaload, 1) := by decide +kernel
theorem dX9_comesOff_104 : decode cX9_comesOff 104 = .ok (.iload 6, 2) := by decide +kernel
theorem dX9_comesOff_106 : decode cX9_comesOff 106 = .ok (.iload 5, 2) := by decide +kernel
theorem dX9_comesOff_108 : decode cX9_comesOff 108 = .ok (.if_icmp .ne 7, 3) := by decide +kernel
theorem dX9_comesOff_111 : decode cX9_comesOff 111 = .ok (.iconst 1, 1) := by decide +kernel
theorem dX9_comesOff_112 : decode cX9_comesOff 112 = .ok (.goto 4, 3) := by decide +kernel
theorem dX9_comesOff_115 : decode cX9_comesOff 115 = .ok (.iconst 0, 1) := by decide +kernel
theorem dX9_comesOff_116 : decode cX9_comesOff 116 = .ok (.isub, 1) := by decide +kernel
theorem dX9_comesOff_117 : decode cX9_comesOff 117 = .ok (.iastore, 1) := by decide +kernel
theorem dX9_comesOff_118 : decode cX9_comesOff 118 = .ok (.iload_n 3, 1) := by decide +kernel
theorem dX9_comesOff_119 : decode cX9_comesOff 119 = .ok (.iload 6, 2) := by decide +kernel
theorem dX9_comesOff_121 : decode cX9_comesOff 121 = .ok (.isub, 1) := by decide +kernel
theorem dX9_comesOff_122 : decode cX9_comesOff 122 = .ok (.istore_n 3, 1) := by decide +kernel
theorem dX9_comesOff_123 : decode cX9_comesOff 123 = .ok (.goto (-121), 3) := by decide +kernel
theorem dX9_comesOff_126 : decode cX9_comesOff 126 = .ok (.iload_n 2, 1) := by decide +kernel
theorem dX9_comesOff_127 : decode cX9_comesOff 127 = .ok (.iload_n 3, 1) := by decide +kernel
theorem dX9_comesOff_128 : decode cX9_comesOff 128 = .ok (.isub, 1) := by decide +kernel
theorem dX9_comesOff_129 : decode cX9_comesOff 129 = .ok (.ireturn, 1) := by decide +kernel
set_option maxRecDepth 20000 in
theorem ggX9_dips_X9_many : GoodIn wsX9_dips wsX9_many := goodIn_r _ [6, 1, 7, 8, 5, 9, 42, 43, 44, 45, 46, 47, 48, 49, 50, 51, 52, 53, 54, 55, 56, 57, 58, 59, 60, 61] (by decide +kernel) (by decide +kernel)
set_option maxRecDepth 20000 in
theorem gX9_dips_X9_many : GoodIn wsX9_dips (wsV RX9 81 RX9 yX9_many wsX9_many) := goodIn_app (goodIn_of _ (by decide +kernel)) ggX9_dips_X9_many
set_option maxRecDepth 20000 in
theorem ggX9_dips_X9_its : GoodIn wsX9_dips wsX9_its := goodIn_r _ [13, 1, 42, 43, 44, 45, 46, 47, 48, 49, 50, 51, 52, 53, 54, 55, 56, 57, 58, 59, 60, 61] (by decide +kernel) (by decide +kernel)
set_option maxRecDepth 20000 in
theorem gX9_dips_X9_its : GoodIn wsX9_dips (wsV RX9 61 RX9 yX9_its wsX9_its) := goodIn_app (goodIn_of _ (by decide +kernel)) ggX9_dips_X9_its
set_option maxRecDepth 20000 in
theorem ggX9_dips_X9_takesAt : GoodIn wsX9_dips wsX9_takesAt := goodIn_r _ [17, 18, 19, 5, 20, 21, 22, 23, 24, 1, 7, 8, 9, 2, 3, 4, 6, 42, 43, 44, 45, 46, 47, 48, 49, 50, 51, 52, 53, 54, 55, 56, 57, 58, 59, 60, 61] (by decide +kernel) (by decide +kernel)
set_option maxRecDepth 20000 in
theorem gX9_dips_X9_takesAt : GoodIn wsX9_dips (wsV RX9 111 RX9 yX9_takesAt wsX9_takesAt) := goodIn_app (goodIn_of _ (by decide +kernel)) ggX9_dips_X9_takesAt
set_option maxRecDepth 20000 in
theorem ggX9_dips_X9_setVat : GoodIn wsX9_dips wsX9_setVat := goodIn_r _ [28, 1, 42, 43, 44, 45, 46, 47, 48, 49, 50, 51, 52, 53, 54, 55, 56, 57, 58, 59, 60, 61] (by decide +kernel) (by decide +kernel)
set_option maxRecDepth 20000 in
theorem gX9_dips_X9_setVat : GoodIn wsX9_dips (wsV RX9 44 RX9 yX9_setVat wsX9_setVat) := goodIn_app (goodIn_of _ (by decide +kernel)) ggX9_dips_X9_setVat
set_option maxRecDepth 20000 in
theorem ggX9_dips_X9_at : GoodIn wsX9_dips wsX9_at := goodIn_r _ [9] (by decide +kernel) (by decide +kernel)
set_option maxRecDepth 20000 in
theorem gX9_dips_X9_at : GoodIn wsX9_dips (va_wsS RX9 53 yX9_at wsX9_at) := goodIn_app (goodIn_of _ (by decide +kernel)) ggX9_dips_X9_at
set_option maxRecDepth 20000 in
theorem ggX9_dips_X9_comesOff : GoodIn wsX9_dips wsX9_comesOff := goodIn_r _ [32, 1, 2, 3, 4, 5, 6, 7, 8, 9, 33, 34, 35, 36, 42, 43, 44, 45, 46, 47, 48, 49, 50, 51, 52, 53, 54, 55, 56, 57, 58, 59, 60, 61] (by decide +kernel) (by decide +kernel)
set_option maxRecDepth 20000 in
theorem gX9_dips_X9_comesOff : GoodIn wsX9_dips (wsV RX9 114 RX9 yX9_comesOff wsX9_comesOff) := goodIn_app (goodIn_of _ (by decide +kernel)) ggX9_dips_X9_comesOff
set_option maxRecDepth 20000 in
theorem ggX9_dips_X9_holdsMore : GoodIn wsX9_dips wsX9_holdsMore := goodIn_r _ [40, 41, 10, 11, 12, 5, 13, 1, 25, 26, 27, 28, 42, 43, 44, 45, 46, 47, 48, 49, 50, 51, 52, 53, 54, 55, 56, 57, 58, 59, 60, 61] (by decide +kernel) (by decide +kernel)
set_option maxRecDepth 20000 in
theorem gX9_dips_X9_holdsMore : GoodIn wsX9_dips (wsV RX9 117 RX9 yX9_holdsMore wsX9_holdsMore) := goodIn_app (goodIn_of _ (by decide +kernel)) ggX9_dips_X9_holdsMore
theorem dX9_dips_0 : decode cX9_dips 0 = .ok (.aload_n 0, 1) := by decide +kernel
theorem dX9_dips_1 : decode cX9_dips 1 = .ok (.iload_n 1, 1) := by decide +kernel
theorem dX9_dips_2 : decode cX9_dips 2 = .ok (.invokevirtual 81, 3) := by decide +kernel
theorem dX9_dips_5 : decode cX9_dips 5 = .ok (.bipush 40, 2) := by decide +kernel
theorem dX9_dips_7 : decode cX9_dips 7 = .ok (.if_icmp .ne 4, 3) := by decide +kernel
theorem dX9_dips_10 : decode cX9_dips 10 = .ok (.return_, 1) := by decide +kernel
theorem dX9_dips_11 : decode cX9_dips 11 = .ok (.aload_n 0, 1) := by decide +kernel
theorem dX9_dips_12 : decode cX9_dips 12 = .ok (.iload_n 1, 1) := by decide +kernel
theorem dX9_dips_13 : decode cX9_dips 13 = .ok (.aload_n 0, 1) := by decide +kernel
theorem dX9_dips_14 : decode cX9_dips 14 = .ok (.iload_n 2, 1) := by decide +kernel
theorem dX9_dips_15 : decode cX9_dips 15 = .ok (.iconst 1, 1) := by decide +kernel
theorem dX9_dips_16 : decode cX9_dips 16 = .ok (.invokevirtual 61, 3) := by decide +kernel
theorem dX9_dips_19 : decode cX9_dips 19 = .ok (.invokevirtual 111, 3) := by decide +kernel
theorem dX9_dips_22 : decode cX9_dips 22 = .ok (.istore_n 3, 1) := by decide +kernel
theorem dX9_dips_23 : decode cX9_dips 23 = .ok (.iload_n 3, 1) := by decide +kernel
theorem dX9_dips_24 : decode cX9_dips 24 = .ok (.ifCond .le 100, 3) := by decide +kernel
theorem dX9_dips_27 : decode cX9_dips 27 = .ok (.iload_n 3, 1) := by decide +kernel
theorem dX9_dips_28 : decode cX9_dips 28 = .ok (.aload_n 0, 1) := by decide +kernel
theorem dX9_dips_29 : decode cX9_dips 29 = .ok (.iload_n 2, 1) := by decide +kernel
theorem dX9_dips_30 : decode cX9_dips 30 = .ok (.iconst 2, 1) := by decide +kernel
theorem dX9_dips_31 : decode cX9_dips 31 = .ok (.invokevirtual 61, 3) := by decide +kernel
theorem dX9_dips_34 : decode cX9_dips 34 = .ok (.if_icmp .ge 7, 3) := by decide +kernel
theorem dX9_dips_37 : decode cX9_dips 37 = .ok (.iload_n 3, 1) := by decide +kernel
theorem dX9_dips_38 : decode cX9_dips 38 = .ok (.goto 9, 3) := by decide +kernel
theorem dX9_dips_41 : decode cX9_dips 41 = .ok (.aload_n 0, 1) := by decide +kernel
theorem dX9_dips_42 : decode cX9_dips 42 = .ok (.iload_n 2, 1) := by decide +kernel
theorem dX9_dips_43 : decode cX9_dips 43 = .ok (.iconst 2, 1) := by decide +kernel
theorem dX9_dips_44 : decode cX9_dips 44 = .ok (.invokevirtual 61, 3) := by decide +kernel
theorem dX9_dips_47 : decode cX9_dips 47 = .ok (.istore 4, 2) := by decide +kernel
theorem dX9_dips_49 : decode cX9_dips 49 = .ok (.aload_n 0, 1) := by decide +kernel
theorem dX9_dips_50 : decode cX9_dips 50 = .ok (.iload_n 2, 1) := by decide +kernel
theorem dX9_dips_51 : decode cX9_dips 51 = .ok (.iconst 2, 1) := by decide +kernel
theorem dX9_dips_52 : decode cX9_dips 52 = .ok (.aload_n 0, 1) := by decide +kernel
theorem dX9_dips_53 : decode cX9_dips 53 = .ok (.iload_n 2, 1) := by decide +kernel
theorem dX9_dips_54 : decode cX9_dips 54 = .ok (.iconst 2, 1) := by decide +kernel
theorem dX9_dips_55 : decode cX9_dips 55 = .ok (.invokevirtual 61, 3) := by decide +kernel
theorem dX9_dips_58 : decode cX9_dips 58 = .ok (.iload 4, 2) := by decide +kernel
theorem dX9_dips_60 : decode cX9_dips 60 = .ok (.isub, 1) := by decide +kernel
theorem dX9_dips_61 : decode cX9_dips 61 = .ok (.invokevirtual 44, 3) := by decide +kernel
theorem dX9_dips_64 : decode cX9_dips 64 = .ok (.aload_n 0, 1) := by decide +kernel
theorem dX9_dips_65 : decode cX9_dips 65 = .ok (.getfield 7, 3) := by decide +kernel
theorem dX9_dips_68 : decode cX9_dips 68 = .ok (.iload_n 1, 1) := by decide +kernel
theorem dX9_dips_69 : decode cX9_dips 69 = .ok (.iconst 2, 1) := by decide +kernel
theorem dX9_dips_70 : decode cX9_dips 70 = .ok (.aload_n 0, 1) := by decide +kernel
theorem dX9_dips_71 : decode cX9_dips 71 = .ok (.iload_n 1, 1) := by decide +kernel
theorem dX9_dips_72 : decode cX9_dips 72 = .ok (.invokevirtual 81, 3) := by decide +kernel
theorem dX9_dips_75 : decode cX9_dips 75 = .ok (.iadd, 1) := by decide +kernel
theorem dX9_dips_76 : decode cX9_dips 76 = .ok (.invokestatic 53, 3) := by decide +kernel
theorem dX9_dips_79 : decode cX9_dips 79 = .ok (.aload_n 0, 1) := by decide +kernel
theorem dX9_dips_80 : decode cX9_dips 80 = .ok (.iload_n 2, 1) := by decide +kernel
theorem dX9_dips_81 : decode cX9_dips 81 = .ok (.iconst 0, 1) := by decide +kernel
theorem dX9_dips_82 : decode cX9_dips 82 = .ok (.invokevirtual 61, 3) := by decide +kernel
theorem dX9_dips_85 : decode cX9_dips 85 = .ok (.iconst 1, 1) := by decide +kernel
theorem dX9_dips_86 : decode cX9_dips 86 = .ok (.if_icmp .ne 9, 3) := by decide +kernel
theorem dX9_dips_89 : decode cX9_dips 89 = .ok (.iload 4, 2) := by decide +kernel
theorem dX9_dips_91 : decode cX9_dips 91 = .ok (.ineg, 1) := by decide +kernel
theorem dX9_dips_92 : decode cX9_dips 92 = .ok (.goto 5, 3) := by decide +kernel
theorem dX9_dips_95 : decode cX9_dips 95 = .ok (.iload 4, 2) := by decide +kernel
theorem dX9_dips_97 : decode cX9_dips 97 = .ok (.iastore, 1) := by decide +kernel
theorem dX9_dips_98 : decode cX9_dips 98 = .ok (.aload_n 0, 1) := by decide +kernel
theorem dX9_dips_99 : decode cX9_dips 99 = .ok (.getfield 7, 3) := by decide +kernel
theorem dX9_dips_102 : decode cX9_dips 102 = .ok (.iload_n 1, 1) := by decide +kernel
theorem dX9_dips_103 : decode cX9_dips 103 = .ok (.iconst 1, 1) := by decide +kernel
theorem dX9_dips_104 : decode cX9_dips 104 = .ok (.invokestatic 53, 3) := by decide +kernel
theorem dX9_dips_107 : decode cX9_dips 107 = .ok (.dup2, 1) := by decide +kernel
theorem dX9_dips_108 : decode cX9_dips 108 = .ok (.iaload, 1) := by decide +kernel
theorem dX9_dips_109 : decode cX9_dips 109 = .ok (.iload 4, 2) := by decide +kernel
theorem dX9_dips_111 : decode cX9_dips 111 = .ok (.ifCond .le 7, 3) := by decide +kernel
theorem dX9_dips_114 : decode cX9_dips 114 = .ok (.iconst 1, 1) := by decide +kernel
theorem dX9_dips_115 : decode cX9_dips 115 = .ok (.goto 4, 3) := by decide +kernel
theorem dX9_dips_118 : decode cX9_dips 118 = .ok (.iconst 0, 1) := by decide +kernel
theorem dX9_dips_119 : decode cX9_dips 119 = .ok (.iadd, 1) := by decide +kernel
theorem dX9_dips_120 : decode cX9_dips 120 = .ok (.iastore, 1) := by decide +kernel
theorem dX9_dips_121 : decode cX9_dips 121 = .ok (.goto 19, 3) := by decide +kernel
theorem dX9_dips_124 : decode cX9_dips 124 = .ok (.aload_n 0, 1) := by decide +kernel
theorem dX9_dips_125 : decode cX9_dips 125 = .ok (.iload_n 1, 1) := by decide +kernel
theorem dX9_dips_126 : decode cX9_dips 126 = .ok (.iload_n 3, 1) := by decide +kernel
theorem dX9_dips_127 : decode cX9_dips 127 = .ok (.ineg, 1) := by decide +kernel
theorem dX9_dips_128 : decode cX9_dips 128 = .ok (.invokevirtual 114, 3) := by decide +kernel
theorem dX9_dips_131 : decode cX9_dips 131 = .ok (.istore 4, 2) := by decide +kernel
theorem dX9_dips_133 : decode cX9_dips 133 = .ok (.aload_n 0, 1) := by decide +kernel
theorem dX9_dips_134 : decode cX9_dips 134 = .ok (.iload_n 2, 1) := by decide +kernel
theorem dX9_dips_135 : decode cX9_dips 135 = .ok (.iload 4, 2) := by decide +kernel
theorem dX9_dips_137 : decode cX9_dips 137 = .ok (.invokevirtual 117, 3) := by decide +kernel
theorem dX9_dips_140 : decode cX9_dips 140 = .ok (.aload_n 0, 1) := by decide +kernel
theorem dX9_dips_141 : decode cX9_dips 141 = .ok (.iload_n 2, 1) := by decide +kernel
theorem dX9_dips_142 : decode cX9_dips 142 = .ok (.iconst 1, 1) := by decide +kernel
theorem dX9_dips_143 : decode cX9_dips 143 = .ok (.invokevirtual 61, 3) := by decide +kernel
theorem dX9_dips_146 : decode cX9_dips 146 = .ok (.istore 4, 2) := by decide +kernel
theorem dX9_dips_148 : decode cX9_dips 148 = .ok (.aload_n 0, 1) := by decide +kernel
theorem dX9_dips_149 : decode cX9_dips 149 = .ok (.iload_n 2, 1) := by decide +kernel
theorem dX9_dips_150 : decode cX9_dips 150 = .ok (.iconst 1, 1) := by decide +kernel
theorem dX9_dips_151 : decode cX9_dips 151 = .ok (.iload 4, 2) := by decide +kernel
theorem dX9_dips_153 : decode cX9_dips 153 = .ok (.iconst 2, 1) := by decide +kernel
theorem dX9_dips_154 : decode cX9_dips 154 = .ok (.if_icmp .le 10, 3) := by decide +kernel
theorem dX9_dips_157 : decode cX9_dips 157 = .ok (.iload 4, 2) := by decide +kernel
theorem dX9_dips_159 : decode cX9_dips 159 = .ok (.iconst 2, 1) := by decide +kernel
theorem dX9_dips_160 : decode cX9_dips 160 = .ok (.isub, 1) := by decide +kernel
theorem dX9_dips_161 : decode cX9_dips 161 = .ok (.goto 4, 3) := by decide +kernel
theorem dX9_dips_164 : decode cX9_dips 164 = .ok (.iconst 0, 1) := by decide +kernel
theorem dX9_dips_165 : decode cX9_dips 165 = .ok (.invokevirtual 44, 3) := by decide +kernel
theorem dX9_dips_168 : decode cX9_dips 168 = .ok (.return_, 1) := by decide +kernel
set_option maxRecDepth 20000 in
theorem ggX9_dip_X9_isCandle : GoodIn wsX9_dip wsX9_isCandle := goodIn_r _ [7, 8, 9, 10, 6, 11, 67, 68, 69, 70, 71, 72, 73, 74, 75, 76, 77, 78, 79, 80, 81, 82, 83, 84, 85, 86] (by decide +kernel) (by decide +kernel)
set_option maxRecDepth 20000 in
theorem gX9_dip_X9_isCandle : GoodIn wsX9_dip (wsV RX9 97 RX9 yX9_isCandle wsX9_isCandle) := goodIn_app (goodIn_of _ (by decide +kernel)) ggX9_dip_X9_isCandle
set_option maxRecDepth 20000 in
theorem ggX9_dip_X9_isVat : GoodIn wsX9_dip wsX9_isVat := goodIn_r _ [14, 9, 10, 6, 11] (by decide +kernel) (by decide +kernel)
set_option maxRecDepth 20000 in
theorem gX9_dip_X9_isVat : GoodIn wsX9_dip (va_wsS RX9 57 yX9_isVat wsX9_isVat) := goodIn_app (goodIn_of _ (by decide +kernel)) ggX9_dip_X9_isVat
set_option maxRecDepth 20000 in
theorem ggX9_dip_X9_finds : GoodIn wsX9_dip wsX9_finds := goodIn_r _ [18, 19, 1, 67, 68, 69, 70, 71, 72, 73, 74, 75, 76, 77, 78, 79, 80, 81, 82, 83, 84, 85, 86] (by decide +kernel) (by decide +kernel)
set_option maxRecDepth 20000 in
theorem gX9_dip_X9_finds : GoodIn wsX9_dip (wsV RX9 64 RX9 yX9_finds wsX9_finds) := goodIn_app (goodIn_of _ (by decide +kernel)) ggX9_dip_X9_finds
set_option maxRecDepth 20000 in
theorem ggX9_dip_X9_many : GoodIn wsX9_dip wsX9_many := goodIn_r _ [23, 8, 24, 25, 6, 26, 67, 68, 69, 70, 71, 72, 73, 74, 75, 76, 77, 78, 79, 80, 81, 82, 83, 84, 85, 86] (by decide +kernel) (by decide +kernel)
set_option maxRecDepth 20000 in
theorem gX9_dip_X9_many : GoodIn wsX9_dip (wsV RX9 81 RX9 yX9_many wsX9_many) := goodIn_app (goodIn_of _ (by decide +kernel)) ggX9_dip_X9_many
set_option maxRecDepth 20000 in
theorem ggX9_dip_X9_dips : GoodIn wsX9_dip wsX9_dips := goodIn_r _ [30, 8, 20, 21, 22, 6, 23, 24, 25, 26, 31, 32, 33, 34, 35, 36, 37, 38, 39, 40, 41, 42, 43, 44, 45, 46, 47, 48, 49, 50, 51, 52, 53, 54, 55, 56, 57, 58, 59, 60, 61, 62, 67, 68, 69, 70, 71, 72, 73, 74, 75, 76, 77, 78, 79, 80, 81, 82, 83, 84, 85, 86] (by decide +kernel) (by decide +kernel)
set_option maxRecDepth 20000 in
theorem gX9_dip_X9_dips : GoodIn wsX9_dip (wsV RX9 122 RX9 yX9_dips wsX9_dips) := goodIn_app (goodIn_of _ (by decide +kernel)) ggX9_dip_X9_dips
set_option maxRecDepth 20000 in
theorem ggX9_dip_X9_grams : GoodIn wsX9_dip wsX9_grams := goodIn_r _ [66, 20, 21, 22, 6, 23, 8, 24, 25, 26, 54, 55, 56, 57, 67, 68, 69, 70, 71, 72, 73, 74, 75, 76, 77, 78, 79, 80, 81, 82, 83, 84, 85, 86] (by decide +kernel) (by decide +kernel)
set_option maxRecDepth 20000 in
theorem gX9_dip_X9_grams : GoodIn wsX9_dip (wsV RX9 87 RX9 yX9_grams wsX9_grams) := goodIn_app (goodIn_of _ (by decide +kernel)) ggX9_dip_X9_grams
theorem dX9_dip_0 : decode cX9_dip 0 = .ok (.aload_n 0, 1) := by decide +kernel
theorem dX9_dip_1 : decode cX9_dip 1 = .ok (.iload_n 1, 1) := by decide +kernel
theorem dX9_dip_2 : decode cX9_dip 2 = .ok (.invokevirtual 97, 3) := by decide +kernel
theorem dX9_dip_5 : decode cX9_dip 5 = .ok (.ifCond .eq 10, 3) := by decide +kernel
theorem dX9_dip_8 : decode cX9_dip 8 = .ok (.iload_n 2, 1) := by decide +kernel
theorem dX9_dip_9 : decode cX9_dip 9 = .ok (.invokestatic 57, 3) := by decide +kernel
theorem dX9_dip_12 : decode cX9_dip 12 = .ok (.ifCond .ne 10, 3) := by decide +kernel
theorem dX9_dip_15 : decode cX9_dip 15 = .ok (.aload_n 0, 1) := by decide +kernel
theorem dX9_dip_16 : decode cX9_dip 16 = .ok (.ldc 48, 2) := by decide +kernel
theorem dX9_dip_18 : decode cX9_dip 18 = .ok (.invokevirtual 64, 3) := by decide +kernel
theorem dX9_dip_21 : decode cX9_dip 21 = .ok (.ireturn, 1) := by decide +kernel
theorem dX9_dip_22 : decode cX9_dip 22 = .ok (.aload_n 0, 1) := by decide +kernel
theorem dX9_dip_23 : decode cX9_dip 23 = .ok (.iload_n 1, 1) := by decide +kernel
theorem dX9_dip_24 : decode cX9_dip 24 = .ok (.invokevirtual 81, 3) := by decide +kernel
theorem dX9_dip_27 : decode cX9_dip 27 = .ok (.bipush 40, 2) := by decide +kernel
theorem dX9_dip_29 : decode cX9_dip 29 = .ok (.if_icmp .ne 10, 3) := by decide +kernel
theorem dX9_dip_32 : decode cX9_dip 32 = .ok (.aload_n 0, 1) := by decide +kernel
theorem dX9_dip_33 : decode cX9_dip 33 = .ok (.ldc 121, 2) := by decide +kernel
theorem dX9_dip_35 : decode cX9_dip 35 = .ok (.invokevirtual 64, 3) := by decide +kernel
theorem dX9_dip_38 : decode cX9_dip 38 = .ok (.ireturn, 1) := by decide +kernel
theorem dX9_dip_39 : decode cX9_dip 39 = .ok (.aload_n 0, 1) := by decide +kernel
theorem dX9_dip_40 : decode cX9_dip 40 = .ok (.iload_n 1, 1) := by decide +kernel
theorem dX9_dip_41 : decode cX9_dip 41 = .ok (.iload_n 2, 1) := by decide +kernel
theorem dX9_dip_42 : decode cX9_dip 42 = .ok (.invokevirtual 122, 3) := by decide +kernel
theorem dX9_dip_45 : decode cX9_dip 45 = .ok (.aload_n 0, 1) := by decide +kernel
theorem dX9_dip_46 : decode cX9_dip 46 = .ok (.iload_n 1, 1) := by decide +kernel
theorem dX9_dip_47 : decode cX9_dip 47 = .ok (.iconst 0, 1) := by decide +kernel
theorem dX9_dip_48 : decode cX9_dip 48 = .ok (.invokevirtual 87, 3) := by decide +kernel
theorem dX9_dip_51 : decode cX9_dip 51 = .ok (.ireturn, 1) := by decide +kernel
set_option maxRecDepth 20000 in
theorem ggX9_melt_X9_isCandle : GoodIn wsX9_melt wsX9_isCandle := goodIn_r _ [7, 2, 8, 9, 6, 10, 47, 48, 49, 50, 51, 52, 53, 54, 55, 56, 57, 58, 59, 60, 61, 62, 63, 64, 65, 66] (by decide +kernel) (by decide +kernel)
set_option maxRecDepth 20000 in
theorem gX9_melt_X9_isCandle : GoodIn wsX9_melt (wsV RX9 97 RX9 yX9_isCandle wsX9_isCandle) := goodIn_app (goodIn_of _ (by decide +kernel)) ggX9_melt_X9_isCandle
set_option maxRecDepth 20000 in
theorem ggX9_melt_X9_isVat : GoodIn wsX9_melt wsX9_isVat := goodIn_r _ [13, 8, 9, 6, 10] (by decide +kernel) (by decide +kernel)
set_option maxRecDepth 20000 in
theorem gX9_melt_X9_isVat : GoodIn wsX9_melt (va_wsS RX9 57 yX9_isVat wsX9_isVat) := goodIn_app (goodIn_of _ (by decide +kernel)) ggX9_melt_X9_isVat
set_option maxRecDepth 20000 in
theorem ggX9_melt_X9_finds : GoodIn wsX9_melt wsX9_finds := goodIn_r _ [17, 18, 1, 47, 48, 49, 50, 51, 52, 53, 54, 55, 56, 57, 58, 59, 60, 61, 62, 63, 64, 65, 66] (by decide +kernel) (by decide +kernel)
set_option maxRecDepth 20000 in
theorem gX9_melt_X9_finds : GoodIn wsX9_melt (wsV RX9 64 RX9 yX9_finds wsX9_finds) := goodIn_app (goodIn_of _ (by decide +kernel)) ggX9_melt_X9_finds
set_option maxRecDepth 20000 in
theorem ggX9_melt_X9_grams : GoodIn wsX9_melt wsX9_grams := goodIn_r _ [22, 23, 24, 25, 6, 26, 2, 27, 28, 29, 30, 31, 32, 33, 47, 48, 49, 50, 51, 52, 53, 54, 55, 56, 57, 58, 59, 60, 61, 62, 63, 64, 65, 66] (by decide +kernel) (by decide +kernel)
set_option maxRecDepth 20000 in
theorem gX9_melt_X9_grams : GoodIn wsX9_melt (wsV RX9 87 RX9 yX9_grams wsX9_grams) := goodIn_app (goodIn_of _ (by decide +kernel)) ggX9_melt_X9_grams
set_option maxRecDepth 20000 in
theorem ggX9_melt_X9_at : GoodIn wsX9_melt wsX9_at := goodIn_r _ [29] (by decide +kernel) (by decide +kernel)
set_option maxRecDepth 20000 in
theorem gX9_melt_X9_at : GoodIn wsX9_melt (va_wsS RX9 53 yX9_at wsX9_at) := goodIn_app (goodIn_of _ (by decide +kernel)) ggX9_melt_X9_at
set_option maxRecDepth 20000 in
theorem ggX9_melt_X9_holdsMore : GoodIn wsX9_melt wsX9_holdsMore := goodIn_r _ [37, 38, 39, 40, 41, 6, 42, 2, 43, 44, 45, 46, 47, 48, 49, 50, 51, 52, 53, 54, 55, 56, 57, 58, 59, 60, 61, 62, 63, 64, 65, 66] (by decide +kernel) (by decide +kernel)
set_option maxRecDepth 20000 in
theorem gX9_melt_X9_holdsMore : GoodIn wsX9_melt (wsV RX9 117 RX9 yX9_holdsMore wsX9_holdsMore) := goodIn_app (goodIn_of _ (by decide +kernel)) ggX9_melt_X9_holdsMore
theorem dX9_melt_0 : decode cX9_melt 0 = .ok (.aload_n 0, 1) := by decide +kernel
theorem dX9_melt_1 : decode cX9_melt 1 = .ok (.iload_n 1, 1) := by decide +kernel
theorem dX9_melt_2 : decode cX9_melt 2 = .ok (.invokevirtual 97, 3) := by decide +kernel
theorem dX9_melt_5 : decode cX9_melt 5 = .ok (.ifCond .eq 10, 3) := by decide +kernel
theorem dX9_melt_8 : decode cX9_melt 8 = .ok (.iload_n 2, 1) := by decide +kernel
theorem dX9_melt_9 : decode cX9_melt 9 = .ok (.invokestatic 57, 3) := by decide +kernel
theorem dX9_melt_12 : decode cX9_melt 12 = .ok (.ifCond .ne 10, 3) := by decide +kernel
theorem dX9_melt_15 : decode cX9_melt 15 = .ok (.aload_n 0, 1) := by decide +kernel
theorem dX9_melt_16 : decode cX9_melt 16 = .ok (.ldc 48, 2) := by decide +kernel
theorem dX9_melt_18 : decode cX9_melt 18 = .ok (.invokevirtual 64, 3) := by decide +kernel
theorem dX9_melt_21 : decode cX9_melt 21 = .ok (.ireturn, 1) := by decide +kernel
theorem dX9_melt_22 : decode cX9_melt 22 = .ok (.aload_n 0, 1) := by decide +kernel
theorem dX9_melt_23 : decode cX9_melt 23 = .ok (.iload_n 1, 1) := by decide +kernel
theorem dX9_melt_24 : decode cX9_melt 24 = .ok (.iconst 0, 1) := by decide +kernel
theorem dX9_melt_25 : decode cX9_melt 25 = .ok (.invokevirtual 87, 3) := by decide +kernel
theorem dX9_melt_28 : decode cX9_melt 28 = .ok (.istore_n 3, 1) := by decide +kernel
theorem dX9_melt_29 : decode cX9_melt 29 = .ok (.aload_n 0, 1) := by decide +kernel
theorem dX9_melt_30 : decode cX9_melt 30 = .ok (.getfield 7, 3) := by decide +kernel
theorem dX9_melt_33 : decode cX9_melt 33 = .ok (.iload_n 1, 1) := by decide +kernel
theorem dX9_melt_34 : decode cX9_melt 34 = .ok (.iconst 1, 1) := by decide +kernel
theorem dX9_melt_35 : decode cX9_melt 35 = .ok (.invokestatic 53, 3) := by decide +kernel
theorem dX9_melt_38 : decode cX9_melt 38 = .ok (.iconst 0, 1) := by decide +kernel
theorem dX9_melt_39 : decode cX9_melt 39 = .ok (.iastore, 1) := by decide +kernel
theorem dX9_melt_40 : decode cX9_melt 40 = .ok (.aload_n 0, 1) := by decide +kernel
theorem dX9_melt_41 : decode cX9_melt 41 = .ok (.iload_n 2, 1) := by decide +kernel
theorem dX9_melt_42 : decode cX9_melt 42 = .ok (.iload_n 3, 1) := by decide +kernel
theorem dX9_melt_43 : decode cX9_melt 43 = .ok (.invokevirtual 117, 3) := by decide +kernel
theorem dX9_melt_46 : decode cX9_melt 46 = .ok (.iload_n 3, 1) := by decide +kernel
theorem dX9_melt_47 : decode cX9_melt 47 = .ok (.ireturn, 1) := by decide +kernel
set_option maxRecDepth 20000 in
theorem ggX9_burn_X9_isCandle : GoodIn wsX9_burn wsX9_isCandle := goodIn_r _ [6, 7, 8, 9, 5, 10, 35, 36, 37, 38, 39, 40, 41, 42, 43, 44, 45, 46, 47, 48, 49, 50, 51, 52, 53, 54] (by decide +kernel) (by decide +kernel)
set_option maxRecDepth 20000 in
theorem gX9_burn_X9_isCandle : GoodIn wsX9_burn (wsV RX9 97 RX9 yX9_isCandle wsX9_isCandle) := goodIn_app (goodIn_of _ (by decide +kernel)) ggX9_burn_X9_isCandle
set_option maxRecDepth 20000 in
theorem ggX9_burn_X9_in : GoodIn wsX9_burn wsX9_in := goodIn_r _ [10] (by decide +kernel) (by decide +kernel)
set_option maxRecDepth 20000 in
theorem gX9_burn_X9_in : GoodIn wsX9_burn (va_wsS RX9 49 yX9_in wsX9_in) := goodIn_app (goodIn_of _ (by decide +kernel)) ggX9_burn_X9_in
set_option maxRecDepth 20000 in
theorem ggX9_burn_X9_finds : GoodIn wsX9_burn wsX9_finds := goodIn_r _ [14, 15, 1, 35, 36, 37, 38, 39, 40, 41, 42, 43, 44, 45, 46, 47, 48, 49, 50, 51, 52, 53, 54] (by decide +kernel) (by decide +kernel)
set_option maxRecDepth 20000 in
theorem gX9_burn_X9_finds : GoodIn wsX9_burn (wsV RX9 64 RX9 yX9_finds wsX9_finds) := goodIn_app (goodIn_of _ (by decide +kernel)) ggX9_burn_X9_finds
set_option maxRecDepth 20000 in
theorem ggX9_burn_X9_many : GoodIn wsX9_burn wsX9_many := goodIn_r _ [19, 7, 20, 21, 5, 22, 35, 36, 37, 38, 39, 40, 41, 42, 43, 44, 45, 46, 47, 48, 49, 50, 51, 52, 53, 54] (by decide +kernel) (by decide +kernel)
set_option maxRecDepth 20000 in
theorem gX9_burn_X9_many : GoodIn wsX9_burn (wsV RX9 81 RX9 yX9_many wsX9_many) := goodIn_app (goodIn_of _ (by decide +kernel)) ggX9_burn_X9_many
set_option maxRecDepth 20000 in
theorem ggX9_burn_X9_layerOf : GoodIn wsX9_burn wsX9_layerOf := goodIn_r _ [26, 7, 20, 21, 5, 22, 35, 36, 37, 38, 39, 40, 41, 42, 43, 44, 45, 46, 47, 48, 49, 50, 51, 52, 53, 54] (by decide +kernel) (by decide +kernel)
set_option maxRecDepth 20000 in
theorem gX9_burn_X9_layerOf : GoodIn wsX9_burn (wsV RX9 84 RX9 yX9_layerOf wsX9_layerOf) := goodIn_app (goodIn_of _ (by decide +kernel)) ggX9_burn_X9_layerOf
set_option maxRecDepth 20000 in
theorem ggX9_burn_X9_comesOff : GoodIn wsX9_burn wsX9_comesOff := goodIn_r _ [30, 7, 16, 17, 18, 5, 19, 20, 21, 22, 23, 24, 25, 26, 35, 36, 37, 38, 39, 40, 41, 42, 43, 44, 45, 46, 47, 48, 49, 50, 51, 52, 53, 54] (by decide +kernel) (by decide +kernel)
set_option maxRecDepth 20000 in
theorem gX9_burn_X9_comesOff : GoodIn wsX9_burn (wsV RX9 114 RX9 yX9_comesOff wsX9_comesOff) := goodIn_app (goodIn_of _ (by decide +kernel)) ggX9_burn_X9_comesOff
set_option maxRecDepth 20000 in
theorem ggX9_burn_X9_grams : GoodIn wsX9_burn wsX9_grams := goodIn_r _ [34, 16, 17, 18, 5, 19, 7, 20, 21, 22, 23, 24, 25, 26, 35, 36, 37, 38, 39, 40, 41, 42, 43, 44, 45, 46, 47, 48, 49, 50, 51, 52, 53, 54] (by decide +kernel) (by decide +kernel)
set_option maxRecDepth 20000 in
theorem gX9_burn_X9_grams : GoodIn wsX9_burn (wsV RX9 87 RX9 yX9_grams wsX9_grams) := goodIn_app (goodIn_of _ (by decide +kernel)) ggX9_burn_X9_grams
theorem dX9_burn_0 : decode cX9_burn 0 = .ok (.aload_n 0, 1) := by decide +kernel
theorem dX9_burn_1 : decode cX9_burn 1 = .ok (.iload_n 1, 1) := by decide +kernel
theorem dX9_burn_2 : decode cX9_burn 2 = .ok (.invokevirtual 97, 3) := by decide +kernel
theorem dX9_burn_5 : decode cX9_burn 5 = .ok (.ifCond .eq 14, 3) := by decide +kernel
theorem dX9_burn_8 : decode cX9_burn 8 = .ok (.iload_n 2, 1) := by decide +kernel
theorem dX9_burn_9 : decode cX9_burn 9 = .ok (.iconst 1, 1) := by decide +kernel
theorem dX9_burn_10 : decode cX9_burn 10 = .ok (.sipush 9999, 3) := by decide +kernel
theorem dX9_burn_13 : decode cX9_burn 13 = .ok (.invokestatic 49, 3) := by decide +kernel
theorem dX9_burn_16 : decode cX9_burn 16 = .ok (.ifCond .ne 10, 3) := by decide +kernel
theorem dX9_burn_19 : decode cX9_burn 19 = .ok (.aload_n 0, 1) := by decide +kernel
theorem dX9_burn_20 : decode cX9_burn 20 = .ok (.ldc 48, 2) := by decide +kernel
theorem dX9_burn_22 : decode cX9_burn 22 = .ok (.invokevirtual 64, 3) := by decide +kernel
theorem dX9_burn_25 : decode cX9_burn 25 = .ok (.ireturn, 1) := by decide +kernel
theorem dX9_burn_26 : decode cX9_burn 26 = .ok (.iload_n 2, 1) := by decide +kernel
theorem dX9_burn_27 : decode cX9_burn 27 = .ok (.istore_n 3, 1) := by decide +kernel
theorem dX9_burn_28 : decode cX9_burn 28 = .ok (.iconst 1, 1) := by decide +kernel
theorem dX9_burn_29 : decode cX9_burn 29 = .ok (.istore 4, 2) := by decide +kernel
theorem dX9_burn_31 : decode cX9_burn 31 = .ok (.iload 4, 2) := by decide +kernel
theorem dX9_burn_33 : decode cX9_burn 33 = .ok (.ifCond .eq 66, 3) := by decide +kernel
theorem dX9_burn_36 : decode cX9_burn 36 = .ok (.aload_n 0, 1) := by decide +kernel
theorem dX9_burn_37 : decode cX9_burn 37 = .ok (.iload_n 1, 1) := by decide +kernel
theorem dX9_burn_38 : decode cX9_burn 38 = .ok (.invokevirtual 81, 3) := by decide +kernel
theorem dX9_burn_41 : decode cX9_burn 41 = .ok (.ifCond .le 58, 3) := by decide +kernel
theorem dX9_burn_44 : decode cX9_burn 44 = .ok (.aload_n 0, 1) := by decide +kernel
theorem dX9_burn_45 : decode cX9_burn 45 = .ok (.iload_n 1, 1) := by decide +kernel
theorem dX9_burn_46 : decode cX9_burn 46 = .ok (.aload_n 0, 1) := by decide +kernel
theorem dX9_burn_47 : decode cX9_burn 47 = .ok (.iload_n 1, 1) := by decide +kernel
theorem dX9_burn_48 : decode cX9_burn 48 = .ok (.invokevirtual 81, 3) := by decide +kernel
theorem dX9_burn_51 : decode cX9_burn 51 = .ok (.iconst 1, 1) := by decide +kernel
theorem dX9_burn_52 : decode cX9_burn 52 = .ok (.isub, 1) := by decide +kernel
theorem dX9_burn_53 : decode cX9_burn 53 = .ok (.invokevirtual 84, 3) := by decide +kernel
theorem dX9_burn_56 : decode cX9_burn 56 = .ok (.ifCond .ge 7, 3) := by decide +kernel
theorem dX9_burn_59 : decode cX9_burn 59 = .ok (.iconst 5, 1) := by decide +kernel
theorem dX9_burn_60 : decode cX9_burn 60 = .ok (.goto 4, 3) := by decide +kernel
theorem dX9_burn_63 : decode cX9_burn 63 = .ok (.iconst 3, 1) := by decide +kernel
theorem dX9_burn_64 : decode cX9_burn 64 = .ok (.istore 5, 2) := by decide +kernel
theorem dX9_burn_66 : decode cX9_burn 66 = .ok (.iload_n 3, 1) := by decide +kernel
theorem dX9_burn_67 : decode cX9_burn 67 = .ok (.iload 5, 2) := by decide +kernel
theorem dX9_burn_69 : decode cX9_burn 69 = .ok (.if_icmp .lt 7, 3) := by decide +kernel
theorem dX9_burn_72 : decode cX9_burn 72 = .ok (.iconst 1, 1) := by decide +kernel
theorem dX9_burn_73 : decode cX9_burn 73 = .ok (.goto 4, 3) := by decide +kernel
theorem dX9_burn_76 : decode cX9_burn 76 = .ok (.iconst 0, 1) := by decide +kernel
theorem dX9_burn_77 : decode cX9_burn 77 = .ok (.istore 4, 2) := by decide +kernel
theorem dX9_burn_79 : decode cX9_burn 79 = .ok (.iload 4, 2) := by decide +kernel
theorem dX9_burn_81 : decode cX9_burn 81 = .ok (.ifCond .eq 15, 3) := by decide +kernel
theorem dX9_burn_84 : decode cX9_burn 84 = .ok (.iload_n 3, 1) := by decide +kernel
theorem dX9_burn_85 : decode cX9_burn 85 = .ok (.iload 5, 2) := by decide +kernel
theorem dX9_burn_87 : decode cX9_burn 87 = .ok (.aload_n 0, 1) := by decide +kernel
theorem dX9_burn_88 : decode cX9_burn 88 = .ok (.iload_n 1, 1) := by decide +kernel
theorem dX9_burn_89 : decode cX9_burn 89 = .ok (.iconst 1, 1) := by decide +kernel
theorem dX9_burn_90 : decode cX9_burn 90 = .ok (.invokevirtual 114, 3) := by decide +kernel
theorem dX9_burn_93 : decode cX9_burn 93 = .ok (.imul, 1) := by decide +kernel
theorem dX9_burn_94 : decode cX9_burn 94 = .ok (.isub, 1) := by decide +kernel
theorem dX9_burn_95 : decode cX9_burn 95 = .ok (.istore_n 3, 1) := by decide +kernel
theorem dX9_burn_96 : decode cX9_burn 96 = .ok (.goto (-65), 3) := by decide +kernel
theorem dX9_burn_99 : decode cX9_burn 99 = .ok (.aload_n 0, 1) := by decide +kernel
theorem dX9_burn_100 : decode cX9_burn 100 = .ok (.iload_n 1, 1) := by decide +kernel
theorem dX9_burn_101 : decode cX9_burn 101 = .ok (.iconst 0, 1) := by decide +kernel
theorem dX9_burn_102 : decode cX9_burn 102 = .ok (.invokevirtual 87, 3) := by decide +kernel
theorem dX9_burn_105 : decode cX9_burn 105 = .ok (.ireturn, 1) := by decide +kernel
set_option maxRecDepth 20000 in
theorem ggX9_anHour_X9_its : GoodIn wsX9_anHour wsX9_its := goodIn_r _ [6, 1, 11, 12, 13, 14, 15, 16, 17, 18, 19, 20, 21, 22, 23, 24, 25, 26, 27, 28, 29, 30] (by decide +kernel) (by decide +kernel)
set_option maxRecDepth 20000 in
theorem gX9_anHour_X9_its : GoodIn wsX9_anHour (wsV RX9 61 RX9 yX9_its wsX9_its) := goodIn_app (goodIn_of _ (by decide +kernel)) ggX9_anHour_X9_its
set_option maxRecDepth 20000 in
theorem ggX9_anHour_X9_setVat : GoodIn wsX9_anHour wsX9_setVat := goodIn_r _ [10, 1, 11, 12, 13, 14, 15, 16, 17, 18, 19, 20, 21, 22, 23, 24, 25, 26, 27, 28, 29, 30] (by decide +kernel) (by decide +kernel)
set_option maxRecDepth 20000 in
theorem gX9_anHour_X9_setVat : GoodIn wsX9_anHour (wsV RX9 44 RX9 yX9_setVat wsX9_setVat) := goodIn_app (goodIn_of _ (by decide +kernel)) ggX9_anHour_X9_setVat
theorem dX9_anHour_0 : decode cX9_anHour 0 = .ok (.iconst 0, 1) := by decide +kernel
theorem dX9_anHour_1 : decode cX9_anHour 1 = .ok (.istore_n 1, 1) := by decide +kernel
theorem dX9_anHour_2 : decode cX9_anHour 2 = .ok (.iload_n 1, 1) := by decide +kernel
theorem dX9_anHour_3 : decode cX9_anHour 3 = .ok (.iconst 4, 1) := by decide +kernel
theorem dX9_anHour_4 : decode cX9_anHour 4 = .ok (.if_icmp .ge 108, 3) := by decide +kernel
theorem dX9_anHour_7 : decode cX9_anHour 7 = .ok (.aload_n 0, 1) := by decide +kernel
theorem dX9_anHour_8 : decode cX9_anHour 8 = .ok (.iload_n 1, 1) := by decide +kernel
theorem dX9_anHour_9 : decode cX9_anHour 9 = .ok (.iconst 3, 1) := by decide +kernel
theorem dX9_anHour_10 : decode cX9_anHour 10 = .ok (.invokevirtual 61, 3) := by decide +kernel
theorem dX9_anHour_13 : decode cX9_anHour 13 = .ok (.iconst 1, 1) := by decide +kernel
theorem dX9_anHour_14 : decode cX9_anHour 14 = .ok (.if_icmp .ne 16, 3) := by decide +kernel
theorem dX9_anHour_17 : decode cX9_anHour 17 = .ok (.aload_n 0, 1) := by decide +kernel
theorem dX9_anHour_18 : decode cX9_anHour 18 = .ok (.getfield 7, 3) := by decide +kernel
theorem dX9_anHour_21 : decode cX9_anHour 21 = .ok (.iconst 1, 1) := by decide +kernel
theorem dX9_anHour_22 : decode cX9_anHour 22 = .ok (.iaload, 1) := by decide +kernel
theorem dX9_anHour_23 : decode cX9_anHour 23 = .ok (.ifCond .le 7, 3) := by decide +kernel
theorem dX9_anHour_26 : decode cX9_anHour 26 = .ok (.iconst 1, 1) := by decide +kernel
theorem dX9_anHour_27 : decode cX9_anHour 27 = .ok (.goto 4, 3) := by decide +kernel
theorem dX9_anHour_30 : decode cX9_anHour 30 = .ok (.iconst 0, 1) := by decide +kernel
theorem dX9_anHour_31 : decode cX9_anHour 31 = .ok (.istore_n 2, 1) := by decide +kernel
theorem dX9_anHour_32 : decode cX9_anHour 32 = .ok (.iload_n 2, 1) := by decide +kernel
theorem dX9_anHour_33 : decode cX9_anHour 33 = .ok (.ifCond .eq 15, 3) := by decide +kernel
theorem dX9_anHour_36 : decode cX9_anHour 36 = .ok (.aload_n 0, 1) := by decide +kernel
theorem dX9_anHour_37 : decode cX9_anHour 37 = .ok (.iload_n 1, 1) := by decide +kernel
theorem dX9_anHour_38 : decode cX9_anHour 38 = .ok (.iconst 1, 1) := by decide +kernel
theorem dX9_anHour_39 : decode cX9_anHour 39 = .ok (.invokevirtual 61, 3) := by decide +kernel
theorem dX9_anHour_42 : decode cX9_anHour 42 = .ok (.bipush 10, 2) := by decide +kernel
theorem dX9_anHour_44 : decode cX9_anHour 44 = .ok (.iadd, 1) := by decide +kernel
theorem dX9_anHour_45 : decode cX9_anHour 45 = .ok (.goto 16, 3) := by decide +kernel
theorem dX9_anHour_48 : decode cX9_anHour 48 = .ok (.aload_n 0, 1) := by decide +kernel
theorem dX9_anHour_49 : decode cX9_anHour 49 = .ok (.iload_n 1, 1) := by decide +kernel
theorem dX9_anHour_50 : decode cX9_anHour 50 = .ok (.iconst 1, 1) := by decide +kernel
theorem dX9_anHour_51 : decode cX9_anHour 51 = .ok (.invokevirtual 61, 3) := by decide +kernel
theorem dX9_anHour_54 : decode cX9_anHour 54 = .ok (.aload_n 0, 1) := by decide +kernel
theorem dX9_anHour_55 : decode cX9_anHour 55 = .ok (.getfield 7, 3) := by decide +kernel
theorem dX9_anHour_58 : decode cX9_anHour 58 = .ok (.iconst 2, 1) := by decide +kernel
theorem dX9_anHour_59 : decode cX9_anHour 59 = .ok (.iaload, 1) := by decide +kernel
theorem dX9_anHour_60 : decode cX9_anHour 60 = .ok (.isub, 1) := by decide +kernel
theorem dX9_anHour_61 : decode cX9_anHour 61 = .ok (.istore_n 3, 1) := by decide +kernel
theorem dX9_anHour_62 : decode cX9_anHour 62 = .ok (.aload_n 0, 1) := by decide +kernel
theorem dX9_anHour_63 : decode cX9_anHour 63 = .ok (.getfield 7, 3) := by decide +kernel
theorem dX9_anHour_66 : decode cX9_anHour 66 = .ok (.iconst 1, 1) := by decide +kernel
theorem dX9_anHour_67 : decode cX9_anHour 67 = .ok (.dup2, 1) := by decide +kernel
theorem dX9_anHour_68 : decode cX9_anHour 68 = .ok (.iaload, 1) := by decide +kernel
theorem dX9_anHour_69 : decode cX9_anHour 69 = .ok (.iload_n 2, 1) := by decide +kernel
theorem dX9_anHour_70 : decode cX9_anHour 70 = .ok (.ifCond .eq 7, 3) := by decide +kernel
theorem dX9_anHour_73 : decode cX9_anHour 73 = .ok (.iconst 1, 1) := by decide +kernel
theorem dX9_anHour_74 : decode cX9_anHour 74 = .ok (.goto 4, 3) := by decide +kernel
theorem dX9_anHour_77 : decode cX9_anHour 77 = .ok (.iconst 0, 1) := by decide +kernel
theorem dX9_anHour_78 : decode cX9_anHour 78 = .ok (.isub, 1) := by decide +kernel
theorem dX9_anHour_79 : decode cX9_anHour 79 = .ok (.iastore, 1) := by decide +kernel
theorem dX9_anHour_80 : decode cX9_anHour 80 = .ok (.aload_n 0, 1) := by decide +kernel
theorem dX9_anHour_81 : decode cX9_anHour 81 = .ok (.iload_n 1, 1) := by decide +kernel
theorem dX9_anHour_82 : decode cX9_anHour 82 = .ok (.iconst 1, 1) := by decide +kernel
theorem dX9_anHour_83 : decode cX9_anHour 83 = .ok (.iload_n 3, 1) := by decide +kernel
theorem dX9_anHour_84 : decode cX9_anHour 84 = .ok (.bipush 99, 2) := by decide +kernel
theorem dX9_anHour_86 : decode cX9_anHour 86 = .ok (.if_icmp .le 8, 3) := by decide +kernel
theorem dX9_anHour_89 : decode cX9_anHour 89 = .ok (.bipush 99, 2) := by decide +kernel
theorem dX9_anHour_91 : decode cX9_anHour 91 = .ok (.goto 12, 3) := by decide +kernel
theorem dX9_anHour_94 : decode cX9_anHour 94 = .ok (.iload_n 3, 1) := by decide +kernel
theorem dX9_anHour_95 : decode cX9_anHour 95 = .ok (.ifCond .ge 7, 3) := by decide +kernel
theorem dX9_anHour_98 : decode cX9_anHour 98 = .ok (.iconst 0, 1) := by decide +kernel
theorem dX9_anHour_99 : decode cX9_anHour 99 = .ok (.goto 4, 3) := by decide +kernel
theorem dX9_anHour_102 : decode cX9_anHour 102 = .ok (.iload_n 3, 1) := by decide +kernel
theorem dX9_anHour_103 : decode cX9_anHour 103 = .ok (.invokevirtual 44, 3) := by decide +kernel
theorem dX9_anHour_106 : decode cX9_anHour 106 = .ok (.iinc 1 1, 3) := by decide +kernel
theorem dX9_anHour_109 : decode cX9_anHour 109 = .ok (.goto (-107), 3) := by decide +kernel
theorem dX9_anHour_112 : decode cX9_anHour 112 = .ok (.aload_n 0, 1) := by decide +kernel
theorem dX9_anHour_113 : decode cX9_anHour 113 = .ok (.getfield 7, 3) := by decide +kernel
theorem dX9_anHour_116 : decode cX9_anHour 116 = .ok (.iconst 3, 1) := by decide +kernel
theorem dX9_anHour_117 : decode cX9_anHour 117 = .ok (.dup2, 1) := by decide +kernel
theorem dX9_anHour_118 : decode cX9_anHour 118 = .ok (.iaload, 1) := by decide +kernel
theorem dX9_anHour_119 : decode cX9_anHour 119 = .ok (.iconst 1, 1) := by decide +kernel
theorem dX9_anHour_120 : decode cX9_anHour 120 = .ok (.iadd, 1) := by decide +kernel
theorem dX9_anHour_121 : decode cX9_anHour 121 = .ok (.iastore, 1) := by decide +kernel
theorem dX9_anHour_122 : decode cX9_anHour 122 = .ok (.return_, 1) := by decide +kernel
set_option maxRecDepth 20000 in
theorem ggX9_go_X9_anHour : GoodIn wsX9_go wsX9_anHour := goodIn_r _ [5, 6, 7, 8, 9, 4, 10, 11, 12, 13, 14, 15, 16, 17, 18, 19, 20, 21, 22, 23, 24, 25, 26, 27, 28, 29, 30, 31, 32, 33, 34] (by decide +kernel) (by decide +kernel)
set_option maxRecDepth 20000 in
theorem gX9_go_X9_anHour : GoodIn wsX9_go (wsV RX9 125 RX9 yX9_anHour wsX9_anHour) := goodIn_app (goodIn_of _ (by decide +kernel)) ggX9_go_X9_anHour
theorem dX9_go_0 : decode cX9_go 0 = .ok (.iconst 0, 1) := by decide +kernel
theorem dX9_go_1 : decode cX9_go 1 = .ok (.istore_n 2, 1) := by decide +kernel
theorem dX9_go_2 : decode cX9_go 2 = .ok (.iload_n 2, 1) := by decide +kernel
theorem dX9_go_3 : decode cX9_go 3 = .ok (.iload_n 1, 1) := by decide +kernel
theorem dX9_go_4 : decode cX9_go 4 = .ok (.if_icmp .ge 13, 3) := by decide +kernel
theorem dX9_go_7 : decode cX9_go 7 = .ok (.aload_n 0, 1) := by decide +kernel
theorem dX9_go_8 : decode cX9_go 8 = .ok (.invokevirtual 125, 3) := by decide +kernel
theorem dX9_go_11 : decode cX9_go 11 = .ok (.iinc 2 1, 3) := by decide +kernel
theorem dX9_go_14 : decode cX9_go 14 = .ok (.goto (-12), 3) := by decide +kernel
theorem dX9_go_17 : decode cX9_go 17 = .ok (.return_, 1) := by decide +kernel
set_option maxRecDepth 20000 in
theorem ggX9_hours_X9_in : GoodIn wsX9_hours wsX9_in := goodIn_r _ [7] (by decide +kernel) (by decide +kernel)
set_option maxRecDepth 20000 in
theorem gX9_hours_X9_in : GoodIn wsX9_hours (va_wsS RX9 49 yX9_in wsX9_in) := goodIn_app (goodIn_of _ (by decide +kernel)) ggX9_hours_X9_in
set_option maxRecDepth 20000 in
theorem ggX9_hours_X9_finds : GoodIn wsX9_hours wsX9_finds := goodIn_r _ [11, 12, 1, 29, 30, 31, 32, 33, 34, 35, 36, 37, 38, 39, 40, 41, 42, 43, 44, 45, 46, 47, 48] (by decide +kernel) (by decide +kernel)
set_option maxRecDepth 20000 in
theorem gX9_hours_X9_finds : GoodIn wsX9_hours (wsV RX9 64 RX9 yX9_finds wsX9_finds) := goodIn_app (goodIn_of _ (by decide +kernel)) ggX9_hours_X9_finds
set_option maxRecDepth 20000 in
theorem ggX9_hours_X9_go : GoodIn wsX9_hours wsX9_go := goodIn_r _ [16, 17, 18, 19, 6, 20, 2, 21, 22, 23, 24, 25, 26, 27, 28, 29, 30, 31, 32, 33, 34, 35, 36, 37, 38, 39, 40, 41, 42, 43, 44, 45, 46, 47, 48] (by decide +kernel) (by decide +kernel)
set_option maxRecDepth 20000 in
theorem gX9_hours_X9_go : GoodIn wsX9_hours (wsV RX9 128 RX9 yX9_go wsX9_go) := goodIn_app (goodIn_of _ (by decide +kernel)) ggX9_hours_X9_go
theorem dX9_hours_0 : decode cX9_hours 0 = .ok (.iload_n 1, 1) := by decide +kernel
theorem dX9_hours_1 : decode cX9_hours 1 = .ok (.iconst 1, 1) := by decide +kernel
theorem dX9_hours_2 : decode cX9_hours 2 = .ok (.sipush 200, 3) := by decide +kernel
theorem dX9_hours_5 : decode cX9_hours 5 = .ok (.invokestatic 49, 3) := by decide +kernel
theorem dX9_hours_8 : decode cX9_hours 8 = .ok (.ifCond .ne 10, 3) := by decide +kernel
theorem dX9_hours_11 : decode cX9_hours 11 = .ok (.aload_n 0, 1) := by decide +kernel
theorem dX9_hours_12 : decode cX9_hours 12 = .ok (.ldc 48, 2) := by decide +kernel
theorem dX9_hours_14 : decode cX9_hours 14 = .ok (.invokevirtual 64, 3) := by decide +kernel
theorem dX9_hours_17 : decode cX9_hours 17 = .ok (.ireturn, 1) := by decide +kernel
theorem dX9_hours_18 : decode cX9_hours 18 = .ok (.aload_n 0, 1) := by decide +kernel
theorem dX9_hours_19 : decode cX9_hours 19 = .ok (.getfield 7, 3) := by decide +kernel
theorem dX9_hours_22 : decode cX9_hours 22 = .ok (.iconst 3, 1) := by decide +kernel
theorem dX9_hours_23 : decode cX9_hours 23 = .ok (.iaload, 1) := by decide +kernel
theorem dX9_hours_24 : decode cX9_hours 24 = .ok (.iload_n 1, 1) := by decide +kernel
theorem dX9_hours_25 : decode cX9_hours 25 = .ok (.iadd, 1) := by decide +kernel
theorem dX9_hours_26 : decode cX9_hours 26 = .ok (.sipush 9999, 3) := by decide +kernel
theorem dX9_hours_29 : decode cX9_hours 29 = .ok (.if_icmp .le 10, 3) := by decide +kernel
theorem dX9_hours_32 : decode cX9_hours 32 = .ok (.aload_n 0, 1) := by decide +kernel
theorem dX9_hours_33 : decode cX9_hours 33 = .ok (.ldc 121, 2) := by decide +kernel
theorem dX9_hours_35 : decode cX9_hours 35 = .ok (.invokevirtual 64, 3) := by decide +kernel
theorem dX9_hours_38 : decode cX9_hours 38 = .ok (.ireturn, 1) := by decide +kernel
theorem dX9_hours_39 : decode cX9_hours 39 = .ok (.aload_n 0, 1) := by decide +kernel
theorem dX9_hours_40 : decode cX9_hours 40 = .ok (.getfield 7, 3) := by decide +kernel
theorem dX9_hours_43 : decode cX9_hours 43 = .ok (.iconst 1, 1) := by decide +kernel
theorem dX9_hours_44 : decode cX9_hours 44 = .ok (.iaload, 1) := by decide +kernel
theorem dX9_hours_45 : decode cX9_hours 45 = .ok (.istore_n 2, 1) := by decide +kernel
theorem dX9_hours_46 : decode cX9_hours 46 = .ok (.aload_n 0, 1) := by decide +kernel
theorem dX9_hours_47 : decode cX9_hours 47 = .ok (.iload_n 1, 1) := by decide +kernel
theorem dX9_hours_48 : decode cX9_hours 48 = .ok (.invokevirtual 128, 3) := by decide +kernel
theorem dX9_hours_51 : decode cX9_hours 51 = .ok (.iload_n 2, 1) := by decide +kernel
theorem dX9_hours_52 : decode cX9_hours 52 = .ok (.aload_n 0, 1) := by decide +kernel
theorem dX9_hours_53 : decode cX9_hours 53 = .ok (.getfield 7, 3) := by decide +kernel
theorem dX9_hours_56 : decode cX9_hours 56 = .ok (.iconst 1, 1) := by decide +kernel
theorem dX9_hours_57 : decode cX9_hours 57 = .ok (.iaload, 1) := by decide +kernel
theorem dX9_hours_58 : decode cX9_hours 58 = .ok (.isub, 1) := by decide +kernel
theorem dX9_hours_59 : decode cX9_hours 59 = .ok (.ireturn, 1) := by decide +kernel
set_option maxRecDepth 20000 in
theorem ggX9_now_X9_its : GoodIn wsX9_now wsX9_its := goodIn_r _ [7, 1, 28, 29, 30, 31, 32, 33, 34, 35, 36, 37, 38, 39, 40, 41, 42, 43, 44, 45, 46, 47] (by decide +kernel) (by decide +kernel)
set_option maxRecDepth 20000 in
theorem gX9_now_X9_its : GoodIn wsX9_now (wsV RX9 61 RX9 yX9_its wsX9_its) := goodIn_app (goodIn_of _ (by decide +kernel)) ggX9_now_X9_its
set_option maxRecDepth 20000 in
theorem ggX9_now_X9_grams : GoodIn wsX9_now wsX9_grams := goodIn_r _ [11, 12, 13, 14, 6, 15, 1, 16, 17, 18, 19, 20, 21, 22, 28, 29, 30, 31, 32, 33, 34, 35, 36, 37, 38, 39, 40, 41, 42, 43, 44, 45, 46, 47] (by decide +kernel) (by decide +kernel)
set_option maxRecDepth 20000 in
theorem gX9_now_X9_grams : GoodIn wsX9_now (wsV RX9 87 RX9 yX9_grams wsX9_grams) := goodIn_app (goodIn_of _ (by decide +kernel)) ggX9_now_X9_grams
set_option maxRecDepth 20000 in
theorem ggX9_now_X9_finds : GoodIn wsX9_now wsX9_finds := goodIn_r _ [26, 27, 2, 28, 29, 30, 31, 32, 33, 34, 35, 36, 37, 38, 39, 40, 41, 42, 43, 44, 45, 46, 47] (by decide +kernel) (by decide +kernel)
set_option maxRecDepth 20000 in
theorem gX9_now_X9_finds : GoodIn wsX9_now (wsV RX9 64 RX9 yX9_finds wsX9_finds) := goodIn_app (goodIn_of _ (by decide +kernel)) ggX9_now_X9_finds
theorem dX9_now_0 : decode cX9_now 0 = .ok (.iconst 0, 1) := by decide +kernel
theorem dX9_now_1 : decode cX9_now 1 = .ok (.istore_n 2, 1) := by decide +kernel
theorem dX9_now_2 : decode cX9_now 2 = .ok (.iload_n 1, 1) := by decide +kernel
theorem dX9_now_3 : decode cX9_now 3 = .ok (.tableswitch 107 0 4 #[33, 40, 47, 54, 78], 33) := by decide +kernel
theorem dX9_now_36 : decode cX9_now 36 = .ok (.aload_n 0, 1) := by decide +kernel
theorem dX9_now_37 : decode cX9_now 37 = .ok (.getfield 7, 3) := by decide +kernel
theorem dX9_now_40 : decode cX9_now 40 = .ok (.iconst 3, 1) := by decide +kernel
theorem dX9_now_41 : decode cX9_now 41 = .ok (.iaload, 1) := by decide +kernel
theorem dX9_now_42 : decode cX9_now 42 = .ok (.ireturn, 1) := by decide +kernel
theorem dX9_now_43 : decode cX9_now 43 = .ok (.aload_n 0, 1) := by decide +kernel
theorem dX9_now_44 : decode cX9_now 44 = .ok (.getfield 7, 3) := by decide +kernel
theorem dX9_now_47 : decode cX9_now 47 = .ok (.iconst 1, 1) := by decide +kernel
theorem dX9_now_48 : decode cX9_now 48 = .ok (.iaload, 1) := by decide +kernel
theorem dX9_now_49 : decode cX9_now 49 = .ok (.ireturn, 1) := by decide +kernel
theorem dX9_now_50 : decode cX9_now 50 = .ok (.aload_n 0, 1) := by decide +kernel
theorem dX9_now_51 : decode cX9_now 51 = .ok (.getfield 7, 3) := by decide +kernel
theorem dX9_now_54 : decode cX9_now 54 = .ok (.iconst 2, 1) := by decide +kernel
theorem dX9_now_55 : decode cX9_now 55 = .ok (.iaload, 1) := by decide +kernel
theorem dX9_now_56 : decode cX9_now 56 = .ok (.ireturn, 1) := by decide +kernel
theorem dX9_now_57 : decode cX9_now 57 = .ok (.iconst 0, 1) := by decide +kernel
theorem dX9_now_58 : decode cX9_now 58 = .ok (.istore_n 3, 1) := by decide +kernel
theorem dX9_now_59 : decode cX9_now 59 = .ok (.iload_n 3, 1) := by decide +kernel
theorem dX9_now_60 : decode cX9_now 60 = .ok (.iconst 4, 1) := by decide +kernel
theorem dX9_now_61 : decode cX9_now 61 = .ok (.if_icmp .ge 18, 3) := by decide +kernel
theorem dX9_now_64 : decode cX9_now 64 = .ok (.iload_n 2, 1) := by decide +kernel
theorem dX9_now_65 : decode cX9_now 65 = .ok (.aload_n 0, 1) := by decide +kernel
theorem dX9_now_66 : decode cX9_now 66 = .ok (.iload_n 3, 1) := by decide +kernel
theorem dX9_now_67 : decode cX9_now 67 = .ok (.iconst 2, 1) := by decide +kernel
theorem dX9_now_68 : decode cX9_now 68 = .ok (.invokevirtual 61, 3) := by decide +kernel
theorem dX9_now_71 : decode cX9_now 71 = .ok (.iadd, 1) := by decide +kernel
theorem dX9_now_72 : decode cX9_now 72 = .ok (.istore_n 2, 1) := by decide +kernel
theorem dX9_now_73 : decode cX9_now 73 = .ok (.iinc 3 1, 3) := by decide +kernel
theorem dX9_now_76 : decode cX9_now 76 = .ok (.goto (-17), 3) := by decide +kernel
theorem dX9_now_79 : decode cX9_now 79 = .ok (.iload_n 2, 1) := by decide +kernel
theorem dX9_now_80 : decode cX9_now 80 = .ok (.ireturn, 1) := by decide +kernel
theorem dX9_now_81 : decode cX9_now 81 = .ok (.iconst 0, 1) := by decide +kernel
theorem dX9_now_82 : decode cX9_now 82 = .ok (.istore_n 3, 1) := by decide +kernel
theorem dX9_now_83 : decode cX9_now 83 = .ok (.iload_n 3, 1) := by decide +kernel
theorem dX9_now_84 : decode cX9_now 84 = .ok (.aload_n 0, 1) := by decide +kernel
theorem dX9_now_85 : decode cX9_now 85 = .ok (.getfield 7, 3) := by decide +kernel
theorem dX9_now_88 : decode cX9_now 88 = .ok (.iconst 0, 1) := by decide +kernel
theorem dX9_now_89 : decode cX9_now 89 = .ok (.iaload, 1) := by decide +kernel
theorem dX9_now_90 : decode cX9_now 90 = .ok (.if_icmp .ge 18, 3) := by decide +kernel
theorem dX9_now_93 : decode cX9_now 93 = .ok (.iload_n 2, 1) := by decide +kernel
theorem dX9_now_94 : decode cX9_now 94 = .ok (.aload_n 0, 1) := by decide +kernel
theorem dX9_now_95 : decode cX9_now 95 = .ok (.iload_n 3, 1) := by decide +kernel
theorem dX9_now_96 : decode cX9_now 96 = .ok (.iconst 0, 1) := by decide +kernel
theorem dX9_now_97 : decode cX9_now 97 = .ok (.invokevirtual 87, 3) := by decide +kernel
theorem dX9_now_100 : decode cX9_now 100 = .ok (.iadd, 1) := by decide +kernel
theorem dX9_now_101 : decode cX9_now 101 = .ok (.istore_n 2, 1) := by decide +kernel
theorem dX9_now_102 : decode cX9_now 102 = .ok (.iinc 3 1, 3) := by decide +kernel
theorem dX9_now_105 : decode cX9_now 105 = .ok (.goto (-22), 3) := by decide +kernel
theorem dX9_now_108 : decode cX9_now 108 = .ok (.iload_n 2, 1) := by decide +kernel
theorem dX9_now_109 : decode cX9_now 109 = .ok (.ireturn, 1) := by decide +kernel
theorem dX9_now_110 : decode cX9_now 110 = .ok (.aload_n 0, 1) := by decide +kernel
theorem dX9_now_111 : decode cX9_now 111 = .ok (.ldc 48, 2) := by decide +kernel
theorem dX9_now_113 : decode cX9_now 113 = .ok (.invokevirtual 64, 3) := by decide +kernel
theorem dX9_now_116 : decode cX9_now 116 = .ok (.ireturn, 1) := by decide +kernel
set_option maxRecDepth 20000 in
theorem ggX9_warm_X9_isVat : GoodIn wsX9_warm wsX9_isVat := goodIn_r _ [8, 9, 10, 7, 11] (by decide +kernel) (by decide +kernel)
set_option maxRecDepth 20000 in
theorem gX9_warm_X9_isVat : GoodIn wsX9_warm (va_wsS RX9 57 yX9_isVat wsX9_isVat) := goodIn_app (goodIn_of _ (by decide +kernel)) ggX9_warm_X9_isVat
set_option maxRecDepth 20000 in
theorem ggX9_warm_X9_in : GoodIn wsX9_warm wsX9_in := goodIn_r _ [11] (by decide +kernel) (by decide +kernel)
set_option maxRecDepth 20000 in
theorem gX9_warm_X9_in : GoodIn wsX9_warm (va_wsS RX9 49 yX9_in wsX9_in) := goodIn_app (goodIn_of _ (by decide +kernel)) ggX9_warm_X9_in
set_option maxRecDepth 20000 in
theorem ggX9_warm_X9_finds : GoodIn wsX9_warm wsX9_finds := goodIn_r _ [15, 16, 1, 37, 38, 39, 40, 41, 42, 43, 44, 45, 46, 47, 48, 49, 50, 51, 52, 53, 54, 55, 56] (by decide +kernel) (by decide +kernel)
set_option maxRecDepth 20000 in
theorem gX9_warm_X9_finds : GoodIn wsX9_warm (wsV RX9 64 RX9 yX9_finds wsX9_finds) := goodIn_app (goodIn_of _ (by decide +kernel)) ggX9_warm_X9_finds
set_option maxRecDepth 20000 in
theorem ggX9_warm_X9_moveAll : GoodIn wsX9_warm wsX9_moveAll := goodIn_r _ [20, 2, 37, 38, 39, 40, 41, 42, 43, 44, 45, 46, 47, 48, 49, 50, 51, 52, 53, 54, 55, 56] (by decide +kernel) (by decide +kernel)
set_option maxRecDepth 20000 in
theorem gX9_warm_X9_moveAll : GoodIn wsX9_warm (wsV RX9 131 RX9 yX9_moveAll wsX9_moveAll) := goodIn_app (goodIn_of _ (by decide +kernel)) ggX9_warm_X9_moveAll
set_option maxRecDepth 20000 in
theorem ggX9_warm_X9_go : GoodIn wsX9_warm wsX9_go := goodIn_r _ [24, 25, 26, 27, 7, 28, 2, 29, 30, 31, 32, 33, 34, 35, 36, 37, 38, 39, 40, 41, 42, 43, 44, 45, 46, 47, 48, 49, 50, 51, 52, 53, 54, 55, 56] (by decide +kernel) (by decide +kernel)
set_option maxRecDepth 20000 in
theorem gX9_warm_X9_go : GoodIn wsX9_warm (wsV RX9 128 RX9 yX9_go wsX9_go) := goodIn_app (goodIn_of _ (by decide +kernel)) ggX9_warm_X9_go
set_option maxRecDepth 20000 in
theorem ggX9_warm_X9_its : GoodIn wsX9_warm wsX9_its := goodIn_r _ [32, 2, 37, 38, 39, 40, 41, 42, 43, 44, 45, 46, 47, 48, 49, 50, 51, 52, 53, 54, 55, 56] (by decide +kernel) (by decide +kernel)
set_option maxRecDepth 20000 in
theorem gX9_warm_X9_its : GoodIn wsX9_warm (wsV RX9 61 RX9 yX9_its wsX9_its) := goodIn_app (goodIn_of _ (by decide +kernel)) ggX9_warm_X9_its
theorem dX9_warm_0 : decode cX9_warm 0 = .ok (.iload_n 1, 1) := by decide +kernel
theorem dX9_warm_1 : decode cX9_warm 1 = .ok (.invokestatic 57, 3) := by decide +kernel
theorem dX9_warm_4 : decode cX9_warm 4 = .ok (.ifCond .eq 14, 3) := by decide +kernel
theorem dX9_warm_7 : decode cX9_warm 7 = .ok (.iload_n 2, 1) := by decide +kernel
theorem dX9_warm_8 : decode cX9_warm 8 = .ok (.iconst 0, 1) := by decide +kernel
theorem dX9_warm_9 : decode cX9_warm 9 = .ok (.sipush 200, 3) := by decide +kernel
theorem dX9_warm_12 : decode cX9_warm 12 = .ok (.invokestatic 49, 3) := by decide +kernel
theorem dX9_warm_15 : decode cX9_warm 15 = .ok (.ifCond .ne 10, 3) := by decide +kernel
theorem dX9_warm_18 : decode cX9_warm 18 = .ok (.aload_n 0, 1) := by decide +kernel
theorem dX9_warm_19 : decode cX9_warm 19 = .ok (.ldc 48, 2) := by decide +kernel
theorem dX9_warm_21 : decode cX9_warm 21 = .ok (.invokevirtual 64, 3) := by decide +kernel
theorem dX9_warm_24 : decode cX9_warm 24 = .ok (.ireturn, 1) := by decide +kernel
theorem dX9_warm_25 : decode cX9_warm 25 = .ok (.aload_n 0, 1) := by decide +kernel
theorem dX9_warm_26 : decode cX9_warm 26 = .ok (.getfield 7, 3) := by decide +kernel
theorem dX9_warm_29 : decode cX9_warm 29 = .ok (.iconst 3, 1) := by decide +kernel
theorem dX9_warm_30 : decode cX9_warm 30 = .ok (.iaload, 1) := by decide +kernel
theorem dX9_warm_31 : decode cX9_warm 31 = .ok (.iload_n 2, 1) := by decide +kernel
theorem dX9_warm_32 : decode cX9_warm 32 = .ok (.iadd, 1) := by decide +kernel
theorem dX9_warm_33 : decode cX9_warm 33 = .ok (.sipush 9999, 3) := by decide +kernel
theorem dX9_warm_36 : decode cX9_warm 36 = .ok (.if_icmp .le 10, 3) := by decide +kernel
theorem dX9_warm_39 : decode cX9_warm 39 = .ok (.aload_n 0, 1) := by decide +kernel
theorem dX9_warm_40 : decode cX9_warm 40 = .ok (.ldc 121, 2) := by decide +kernel
theorem dX9_warm_42 : decode cX9_warm 42 = .ok (.invokevirtual 64, 3) := by decide +kernel
theorem dX9_warm_45 : decode cX9_warm 45 = .ok (.ireturn, 1) := by decide +kernel
theorem dX9_warm_46 : decode cX9_warm 46 = .ok (.aload_n 0, 1) := by decide +kernel
theorem dX9_warm_47 : decode cX9_warm 47 = .ok (.iconst 1, 1) := by decide +kernel
theorem dX9_warm_48 : decode cX9_warm 48 = .ok (.aload_n 0, 1) := by decide +kernel
theorem dX9_warm_49 : decode cX9_warm 49 = .ok (.getfield 16, 3) := by decide +kernel
theorem dX9_warm_52 : decode cX9_warm 52 = .ok (.invokevirtual 131, 3) := by decide +kernel
theorem dX9_warm_55 : decode cX9_warm 55 = .ok (.aload_n 0, 1) := by decide +kernel
theorem dX9_warm_56 : decode cX9_warm 56 = .ok (.iload_n 2, 1) := by decide +kernel
theorem dX9_warm_57 : decode cX9_warm 57 = .ok (.invokevirtual 128, 3) := by decide +kernel
theorem dX9_warm_60 : decode cX9_warm 60 = .ok (.aload_n 0, 1) := by decide +kernel
theorem dX9_warm_61 : decode cX9_warm 61 = .ok (.iload_n 1, 1) := by decide +kernel
theorem dX9_warm_62 : decode cX9_warm 62 = .ok (.iconst 1, 1) := by decide +kernel
theorem dX9_warm_63 : decode cX9_warm 63 = .ok (.invokevirtual 61, 3) := by decide +kernel
theorem dX9_warm_66 : decode cX9_warm 66 = .ok (.istore_n 3, 1) := by decide +kernel
theorem dX9_warm_67 : decode cX9_warm 67 = .ok (.aload_n 0, 1) := by decide +kernel
theorem dX9_warm_68 : decode cX9_warm 68 = .ok (.iconst 0, 1) := by decide +kernel
theorem dX9_warm_69 : decode cX9_warm 69 = .ok (.aload_n 0, 1) := by decide +kernel
theorem dX9_warm_70 : decode cX9_warm 70 = .ok (.getfield 16, 3) := by decide +kernel
theorem dX9_warm_73 : decode cX9_warm 73 = .ok (.invokevirtual 131, 3) := by decide +kernel
theorem dX9_warm_76 : decode cX9_warm 76 = .ok (.iload_n 3, 1) := by decide +kernel
theorem dX9_warm_77 : decode cX9_warm 77 = .ok (.ireturn, 1) := by decide +kernel
set_option maxRecDepth 20000 in
theorem ggX9_when_X9_isVat : GoodIn wsX9_when wsX9_isVat := goodIn_r _ [9, 10, 11, 8, 12] (by decide +kernel) (by decide +kernel)
set_option maxRecDepth 20000 in
theorem gX9_when_X9_isVat : GoodIn wsX9_when (va_wsS RX9 57 yX9_isVat wsX9_isVat) := goodIn_app (goodIn_of _ (by decide +kernel)) ggX9_when_X9_isVat
set_option maxRecDepth 20000 in
theorem ggX9_when_X9_in : GoodIn wsX9_when wsX9_in := goodIn_r _ [12] (by decide +kernel) (by decide +kernel)
set_option maxRecDepth 20000 in
theorem gX9_when_X9_in : GoodIn wsX9_when (va_wsS RX9 49 yX9_in wsX9_in) := goodIn_app (goodIn_of _ (by decide +kernel)) ggX9_when_X9_in
set_option maxRecDepth 20000 in
theorem ggX9_when_X9_finds : GoodIn wsX9_when wsX9_finds := goodIn_r _ [16, 17, 1, 34, 35, 36, 37, 38, 39, 40, 41, 42, 43, 44, 45, 46, 47, 48, 49, 50, 51, 52, 53] (by decide +kernel) (by decide +kernel)
set_option maxRecDepth 20000 in
theorem gX9_when_X9_finds : GoodIn wsX9_when (wsV RX9 64 RX9 yX9_finds wsX9_finds) := goodIn_app (goodIn_of _ (by decide +kernel)) ggX9_when_X9_finds
set_option maxRecDepth 20000 in
theorem ggX9_when_X9_moveAll : GoodIn wsX9_when wsX9_moveAll := goodIn_r _ [21, 2, 34, 35, 36, 37, 38, 39, 40, 41, 42, 43, 44, 45, 46, 47, 48, 49, 50, 51, 52, 53] (by decide +kernel) (by decide +kernel)
set_option maxRecDepth 20000 in
theorem gX9_when_X9_moveAll : GoodIn wsX9_when (wsV RX9 131 RX9 yX9_moveAll wsX9_moveAll) := goodIn_app (goodIn_of _ (by decide +kernel)) ggX9_when_X9_moveAll
set_option maxRecDepth 20000 in
theorem ggX9_when_X9_its : GoodIn wsX9_when wsX9_its := goodIn_r _ [25, 2, 34, 35, 36, 37, 38, 39, 40, 41, 42, 43, 44, 45, 46, 47, 48, 49, 50, 51, 52, 53] (by decide +kernel) (by decide +kernel)
set_option maxRecDepth 20000 in
theorem gX9_when_X9_its : GoodIn wsX9_when (wsV RX9 61 RX9 yX9_its wsX9_its) := goodIn_app (goodIn_of _ (by decide +kernel)) ggX9_when_X9_its
set_option maxRecDepth 20000 in
theorem ggX9_when_X9_anHour : GoodIn wsX9_when wsX9_anHour := goodIn_r _ [29, 2, 22, 23, 24, 8, 25, 30, 31, 32, 33, 34, 35, 36, 37, 38, 39, 40, 41, 42, 43, 44, 45, 46, 47, 48, 49, 50, 51, 52, 53] (by decide +kernel) (by decide +kernel)
set_option maxRecDepth 20000 in
theorem gX9_when_X9_anHour : GoodIn wsX9_when (wsV RX9 125 RX9 yX9_anHour wsX9_anHour) := goodIn_app (goodIn_of _ (by decide +kernel)) ggX9_when_X9_anHour
theorem dX9_when_0 : decode cX9_when 0 = .ok (.iload_n 1, 1) := by decide +kernel
theorem dX9_when_1 : decode cX9_when 1 = .ok (.invokestatic 57, 3) := by decide +kernel
theorem dX9_when_4 : decode cX9_when 4 = .ok (.ifCond .eq 13, 3) := by decide +kernel
theorem dX9_when_7 : decode cX9_when 7 = .ok (.iload_n 2, 1) := by decide +kernel
theorem dX9_when_8 : decode cX9_when 8 = .ok (.iconst 0, 1) := by decide +kernel
theorem dX9_when_9 : decode cX9_when 9 = .ok (.bipush 99, 2) := by decide +kernel
theorem dX9_when_11 : decode cX9_when 11 = .ok (.invokestatic 49, 3) := by decide +kernel
theorem dX9_when_14 : decode cX9_when 14 = .ok (.ifCond .ne 10, 3) := by decide +kernel
theorem dX9_when_17 : decode cX9_when 17 = .ok (.aload_n 0, 1) := by decide +kernel
theorem dX9_when_18 : decode cX9_when 18 = .ok (.ldc 48, 2) := by decide +kernel
theorem dX9_when_20 : decode cX9_when 20 = .ok (.invokevirtual 64, 3) := by decide +kernel
theorem dX9_when_23 : decode cX9_when 23 = .ok (.ireturn, 1) := by decide +kernel
theorem dX9_when_24 : decode cX9_when 24 = .ok (.aload_n 0, 1) := by decide +kernel
theorem dX9_when_25 : decode cX9_when 25 = .ok (.getfield 7, 3) := by decide +kernel
theorem dX9_when_28 : decode cX9_when 28 = .ok (.iconst 3, 1) := by decide +kernel
theorem dX9_when_29 : decode cX9_when 29 = .ok (.iaload, 1) := by decide +kernel
theorem dX9_when_30 : decode cX9_when 30 = .ok (.sipush 9799, 3) := by decide +kernel
theorem dX9_when_33 : decode cX9_when 33 = .ok (.if_icmp .le 10, 3) := by decide +kernel
theorem dX9_when_36 : decode cX9_when 36 = .ok (.aload_n 0, 1) := by decide +kernel
theorem dX9_when_37 : decode cX9_when 37 = .ok (.ldc 121, 2) := by decide +kernel
theorem dX9_when_39 : decode cX9_when 39 = .ok (.invokevirtual 64, 3) := by decide +kernel
theorem dX9_when_42 : decode cX9_when 42 = .ok (.ireturn, 1) := by decide +kernel
theorem dX9_when_43 : decode cX9_when 43 = .ok (.aload_n 0, 1) := by decide +kernel
theorem dX9_when_44 : decode cX9_when 44 = .ok (.iconst 1, 1) := by decide +kernel
theorem dX9_when_45 : decode cX9_when 45 = .ok (.aload_n 0, 1) := by decide +kernel
theorem dX9_when_46 : decode cX9_when 46 = .ok (.getfield 16, 3) := by decide +kernel
theorem dX9_when_49 : decode cX9_when 49 = .ok (.invokevirtual 131, 3) := by decide +kernel
theorem dX9_when_52 : decode cX9_when 52 = .ok (.iconst 0, 1) := by decide +kernel
theorem dX9_when_53 : decode cX9_when 53 = .ok (.istore_n 3, 1) := by decide +kernel
theorem dX9_when_54 : decode cX9_when 54 = .ok (.iload_n 3, 1) := by decide +kernel
theorem dX9_when_55 : decode cX9_when 55 = .ok (.sipush 200, 3) := by decide +kernel
theorem dX9_when_58 : decode cX9_when 58 = .ok (.if_icmp .gt 23, 3) := by decide +kernel
theorem dX9_when_61 : decode cX9_when 61 = .ok (.aload_n 0, 1) := by decide +kernel
theorem dX9_when_62 : decode cX9_when 62 = .ok (.iload_n 1, 1) := by decide +kernel
theorem dX9_when_63 : decode cX9_when 63 = .ok (.iconst 1, 1) := by decide +kernel
theorem dX9_when_64 : decode cX9_when 64 = .ok (.invokevirtual 61, 3) := by decide +kernel
theorem dX9_when_67 : decode cX9_when 67 = .ok (.iload_n 2, 1) := by decide +kernel
theorem dX9_when_68 : decode cX9_when 68 = .ok (.if_icmp .ge 13, 3) := by decide +kernel
theorem dX9_when_71 : decode cX9_when 71 = .ok (.aload_n 0, 1) := by decide +kernel
theorem dX9_when_72 : decode cX9_when 72 = .ok (.invokevirtual 125, 3) := by decide +kernel
theorem dX9_when_75 : decode cX9_when 75 = .ok (.iinc 3 1, 3) := by decide +kernel
theorem dX9_when_78 : decode cX9_when 78 = .ok (.goto (-24), 3) := by decide +kernel
theorem dX9_when_81 : decode cX9_when 81 = .ok (.aload_n 0, 1) := by decide +kernel
theorem dX9_when_82 : decode cX9_when 82 = .ok (.iconst 0, 1) := by decide +kernel
theorem dX9_when_83 : decode cX9_when 83 = .ok (.aload_n 0, 1) := by decide +kernel
theorem dX9_when_84 : decode cX9_when 84 = .ok (.getfield 16, 3) := by decide +kernel
theorem dX9_when_87 : decode cX9_when 87 = .ok (.invokevirtual 131, 3) := by decide +kernel
theorem dX9_when_90 : decode cX9_when 90 = .ok (.iload_n 3, 1) := by decide +kernel
theorem dX9_when_91 : decode cX9_when 91 = .ok (.sipush 200, 3) := by decide +kernel
theorem dX9_when_94 : decode cX9_when 94 = .ok (.if_icmp .gt 7, 3) := by decide +kernel
theorem dX9_when_97 : decode cX9_when 97 = .ok (.iload_n 3, 1) := by decide +kernel
theorem dX9_when_98 : decode cX9_when 98 = .ok (.goto 9, 3) := by decide +kernel
theorem dX9_when_101 : decode cX9_when 101 = .ok (.aload_n 0, 1) := by decide +kernel
theorem dX9_when_102 : decode cX9_when 102 = .ok (.ldc 103, 2) := by decide +kernel
theorem dX9_when_104 : decode cX9_when 104 = .ok (.invokevirtual 64, 3) := by decide +kernel
theorem dX9_when_107 : decode cX9_when 107 = .ok (.ireturn, 1) := by decide +kernel
set_option maxRecDepth 20000 in
theorem ggX9_takesIn_X9_isCandle : GoodIn wsX9_takesIn wsX9_isCandle := goodIn_r _ [10, 2, 11, 12, 9, 13, 56, 57, 58, 59, 60, 61, 62, 63, 64, 65, 66, 67, 68, 69, 70, 71, 72, 73, 74, 75] (by decide +kernel) (by decide +kernel)
set_option maxRecDepth 20000 in
theorem gX9_takesIn_X9_isCandle : GoodIn wsX9_takesIn (wsV RX9 97 RX9 yX9_isCandle wsX9_isCandle) := goodIn_app (goodIn_of _ (by decide +kernel)) ggX9_takesIn_X9_isCandle
set_option maxRecDepth 20000 in
theorem ggX9_takesIn_X9_isVat : GoodIn wsX9_takesIn wsX9_isVat := goodIn_r _ [16, 11, 12, 9, 13] (by decide +kernel) (by decide +kernel)
set_option maxRecDepth 20000 in
theorem gX9_takesIn_X9_isVat : GoodIn wsX9_takesIn (va_wsS RX9 57 yX9_isVat wsX9_isVat) := goodIn_app (goodIn_of _ (by decide +kernel)) ggX9_takesIn_X9_isVat
set_option maxRecDepth 20000 in
theorem ggX9_takesIn_X9_in : GoodIn wsX9_takesIn wsX9_in := goodIn_r _ [13] (by decide +kernel) (by decide +kernel)
set_option maxRecDepth 20000 in
theorem gX9_takesIn_X9_in : GoodIn wsX9_takesIn (va_wsS RX9 49 yX9_in wsX9_in) := goodIn_app (goodIn_of _ (by decide +kernel)) ggX9_takesIn_X9_in
set_option maxRecDepth 20000 in
theorem ggX9_takesIn_X9_finds : GoodIn wsX9_takesIn wsX9_finds := goodIn_r _ [20, 21, 1, 56, 57, 58, 59, 60, 61, 62, 63, 64, 65, 66, 67, 68, 69, 70, 71, 72, 73, 74, 75] (by decide +kernel) (by decide +kernel)
set_option maxRecDepth 20000 in
theorem gX9_takesIn_X9_finds : GoodIn wsX9_takesIn (wsV RX9 64 RX9 yX9_finds wsX9_finds) := goodIn_app (goodIn_of _ (by decide +kernel)) ggX9_takesIn_X9_finds
set_option maxRecDepth 20000 in
theorem ggX9_takesIn_X9_moveAll : GoodIn wsX9_takesIn wsX9_moveAll := goodIn_r _ [25, 2, 56, 57, 58, 59, 60, 61, 62, 63, 64, 65, 66, 67, 68, 69, 70, 71, 72, 73, 74, 75] (by decide +kernel) (by decide +kernel)
set_option maxRecDepth 20000 in
theorem gX9_takesIn_X9_moveAll : GoodIn wsX9_takesIn (wsV RX9 131 RX9 yX9_moveAll wsX9_moveAll) := goodIn_app (goodIn_of _ (by decide +kernel)) ggX9_takesIn_X9_moveAll
set_option maxRecDepth 20000 in
theorem ggX9_takesIn_X9_its : GoodIn wsX9_takesIn wsX9_its := goodIn_r _ [29, 2, 56, 57, 58, 59, 60, 61, 62, 63, 64, 65, 66, 67, 68, 69, 70, 71, 72, 73, 74, 75] (by decide +kernel) (by decide +kernel)
set_option maxRecDepth 20000 in
theorem gX9_takesIn_X9_its : GoodIn wsX9_takesIn (wsV RX9 61 RX9 yX9_its wsX9_its) := goodIn_app (goodIn_of _ (by decide +kernel)) ggX9_takesIn_X9_its
set_option maxRecDepth 20000 in
theorem ggX9_takesIn_X9_takesAt : GoodIn wsX9_takesIn wsX9_takesAt := goodIn_r _ [33, 34, 35, 9, 36, 37, 38, 39, 40, 2, 41, 42, 43, 44, 45, 46, 47, 56, 57, 58, 59, 60, 61, 62, 63, 64, 65, 66, 67, 68, 69, 70, 71, 72, 73, 74, 75] (by decide +kernel) (by decide +kernel)
set_option maxRecDepth 20000 in
theorem gX9_takesIn_X9_takesAt : GoodIn wsX9_takesIn (wsV RX9 111 RX9 yX9_takesAt wsX9_takesAt) := goodIn_app (goodIn_of _ (by decide +kernel)) ggX9_takesIn_X9_takesAt
set_option maxRecDepth 20000 in
theorem ggX9_takesIn_X9_anHour : GoodIn wsX9_takesIn wsX9_anHour := goodIn_r _ [51, 2, 26, 27, 28, 9, 29, 52, 53, 54, 55, 56, 57, 58, 59, 60, 61, 62, 63, 64, 65, 66, 67, 68, 69, 70, 71, 72, 73, 74, 75] (by decide +kernel) (by decide +kernel)
set_option maxRecDepth 20000 in
theorem gX9_takesIn_X9_anHour : GoodIn wsX9_takesIn (wsV RX9 125 RX9 yX9_anHour wsX9_anHour) := goodIn_app (goodIn_of _ (by decide +kernel)) ggX9_takesIn_X9_anHour
theorem dX9_takesIn_0 : decode cX9_takesIn 0 = .ok (.aload_n 0, 1) := by decide +kernel
theorem dX9_takesIn_1 : decode cX9_takesIn 1 = .ok (.iload_n 1, 1) := by decide +kernel
theorem dX9_takesIn_2 : decode cX9_takesIn 2 = .ok (.invokevirtual 97, 3) := by decide +kernel
theorem dX9_takesIn_5 : decode cX9_takesIn 5 = .ok (.ifCond .eq 20, 3) := by decide +kernel
theorem dX9_takesIn_8 : decode cX9_takesIn 8 = .ok (.iload_n 2, 1) := by decide +kernel
theorem dX9_takesIn_9 : decode cX9_takesIn 9 = .ok (.invokestatic 57, 3) := by decide +kernel
theorem dX9_takesIn_12 : decode cX9_takesIn 12 = .ok (.ifCond .eq 13, 3) := by decide +kernel
theorem dX9_takesIn_15 : decode cX9_takesIn 15 = .ok (.iload_n 3, 1) := by decide +kernel
theorem dX9_takesIn_16 : decode cX9_takesIn 16 = .ok (.iconst 1, 1) := by decide +kernel
theorem dX9_takesIn_17 : decode cX9_takesIn 17 = .ok (.bipush 99, 2) := by decide +kernel
theorem dX9_takesIn_19 : decode cX9_takesIn 19 = .ok (.invokestatic 49, 3) := by decide +kernel
theorem dX9_takesIn_22 : decode cX9_takesIn 22 = .ok (.ifCond .ne 10, 3) := by decide +kernel
theorem dX9_takesIn_25 : decode cX9_takesIn 25 = .ok (.aload_n 0, 1) := by decide +kernel
theorem dX9_takesIn_26 : decode cX9_takesIn 26 = .ok (.ldc 48, 2) := by decide +kernel
theorem dX9_takesIn_28 : decode cX9_takesIn 28 = .ok (.invokevirtual 64, 3) := by decide +kernel
theorem dX9_takesIn_31 : decode cX9_takesIn 31 = .ok (.ireturn, 1) := by decide +kernel
theorem dX9_takesIn_32 : decode cX9_takesIn 32 = .ok (.aload_n 0, 1) := by decide +kernel
theorem dX9_takesIn_33 : decode cX9_takesIn 33 = .ok (.getfield 7, 3) := by decide +kernel
theorem dX9_takesIn_36 : decode cX9_takesIn 36 = .ok (.iconst 3, 1) := by decide +kernel
theorem dX9_takesIn_37 : decode cX9_takesIn 37 = .ok (.iaload, 1) := by decide +kernel
theorem dX9_takesIn_38 : decode cX9_takesIn 38 = .ok (.sipush 9799, 3) := by decide +kernel
theorem dX9_takesIn_41 : decode cX9_takesIn 41 = .ok (.if_icmp .le 10, 3) := by decide +kernel
theorem dX9_takesIn_44 : decode cX9_takesIn 44 = .ok (.aload_n 0, 1) := by decide +kernel
theorem dX9_takesIn_45 : decode cX9_takesIn 45 = .ok (.ldc 121, 2) := by decide +kernel
theorem dX9_takesIn_47 : decode cX9_takesIn 47 = .ok (.invokevirtual 64, 3) := by decide +kernel
theorem dX9_takesIn_50 : decode cX9_takesIn 50 = .ok (.ireturn, 1) := by decide +kernel
theorem dX9_takesIn_51 : decode cX9_takesIn 51 = .ok (.aload_n 0, 1) := by decide +kernel
theorem dX9_takesIn_52 : decode cX9_takesIn 52 = .ok (.iconst 1, 1) := by decide +kernel
theorem dX9_takesIn_53 : decode cX9_takesIn 53 = .ok (.aload_n 0, 1) := by decide +kernel
theorem dX9_takesIn_54 : decode cX9_takesIn 54 = .ok (.getfield 16, 3) := by decide +kernel
theorem dX9_takesIn_57 : decode cX9_takesIn 57 = .ok (.invokevirtual 131, 3) := by decide +kernel
theorem dX9_takesIn_60 : decode cX9_takesIn 60 = .ok (.iconst 0, 1) := by decide +kernel
theorem dX9_takesIn_61 : decode cX9_takesIn 61 = .ok (.istore 4, 2) := by decide +kernel
theorem dX9_takesIn_63 : decode cX9_takesIn 63 = .ok (.iload 4, 2) := by decide +kernel
theorem dX9_takesIn_65 : decode cX9_takesIn 65 = .ok (.sipush 200, 3) := by decide +kernel
theorem dX9_takesIn_68 : decode cX9_takesIn 68 = .ok (.if_icmp .gt 28, 3) := by decide +kernel
theorem dX9_takesIn_71 : decode cX9_takesIn 71 = .ok (.aload_n 0, 1) := by decide +kernel
theorem dX9_takesIn_72 : decode cX9_takesIn 72 = .ok (.iload_n 1, 1) := by decide +kernel
theorem dX9_takesIn_73 : decode cX9_takesIn 73 = .ok (.aload_n 0, 1) := by decide +kernel
theorem dX9_takesIn_74 : decode cX9_takesIn 74 = .ok (.iload_n 2, 1) := by decide +kernel
theorem dX9_takesIn_75 : decode cX9_takesIn 75 = .ok (.iconst 1, 1) := by decide +kernel
theorem dX9_takesIn_76 : decode cX9_takesIn 76 = .ok (.invokevirtual 61, 3) := by decide +kernel
theorem dX9_takesIn_79 : decode cX9_takesIn 79 = .ok (.invokevirtual 111, 3) := by decide +kernel
theorem dX9_takesIn_82 : decode cX9_takesIn 82 = .ok (.iload_n 3, 1) := by decide +kernel
theorem dX9_takesIn_83 : decode cX9_takesIn 83 = .ok (.if_icmp .ge 13, 3) := by decide +kernel
theorem dX9_takesIn_86 : decode cX9_takesIn 86 = .ok (.aload_n 0, 1) := by decide +kernel
theorem dX9_takesIn_87 : decode cX9_takesIn 87 = .ok (.invokevirtual 125, 3) := by decide +kernel
theorem dX9_takesIn_90 : decode cX9_takesIn 90 = .ok (.iinc 4 1, 3) := by decide +kernel
theorem dX9_takesIn_93 : decode cX9_takesIn 93 = .ok (.goto (-30), 3) := by decide +kernel
theorem dX9_takesIn_96 : decode cX9_takesIn 96 = .ok (.aload_n 0, 1) := by decide +kernel
theorem dX9_takesIn_97 : decode cX9_takesIn 97 = .ok (.iconst 0, 1) := by decide +kernel
theorem dX9_takesIn_98 : decode cX9_takesIn 98 = .ok (.aload_n 0, 1) := by decide +kernel
theorem dX9_takesIn_99 : decode cX9_takesIn 99 = .ok (.getfield 16, 3) := by decide +kernel
theorem dX9_takesIn_102 : decode cX9_takesIn 102 = .ok (.invokevirtual 131, 3) := by decide +kernel
theorem dX9_takesIn_105 : decode cX9_takesIn 105 = .ok (.iload 4, 2) := by decide +kernel
theorem dX9_takesIn_107 : decode cX9_takesIn 107 = .ok (.sipush 200, 3) := by decide +kernel
theorem dX9_takesIn_110 : decode cX9_takesIn 110 = .ok (.if_icmp .gt 8, 3) := by decide +kernel
theorem dX9_takesIn_113 : decode cX9_takesIn 113 = .ok (.iload 4, 2) := by decide +kernel
theorem dX9_takesIn_115 : decode cX9_takesIn 115 = .ok (.goto 9, 3) := by decide +kernel
theorem dX9_takesIn_118 : decode cX9_takesIn 118 = .ok (.aload_n 0, 1) := by decide +kernel
theorem dX9_takesIn_119 : decode cX9_takesIn 119 = .ok (.ldc 103, 2) := by decide +kernel
theorem dX9_takesIn_121 : decode cX9_takesIn 121 = .ok (.invokevirtual 64, 3) := by decide +kernel
theorem dX9_takesIn_124 : decode cX9_takesIn 124 = .ok (.ireturn, 1) := by decide +kernel
set_option maxRecDepth 20000 in
theorem ggX9_keeps_X9_at : GoodIn wsX9_keeps wsX9_at := goodIn_r _ [6] (by decide +kernel) (by decide +kernel)
set_option maxRecDepth 20000 in
theorem gX9_keeps_X9_at : GoodIn wsX9_keeps (va_wsS RX9 53 yX9_at wsX9_at) := goodIn_app (goodIn_of _ (by decide +kernel)) ggX9_keeps_X9_at
theorem dX9_keeps_0 : decode cX9_keeps 0 = .ok (.iconst 0, 1) := by decide +kernel
theorem dX9_keeps_1 : decode cX9_keeps 1 = .ok (.istore_n 2, 1) := by decide +kernel
theorem dX9_keeps_2 : decode cX9_keeps 2 = .ok (.iload_n 2, 1) := by decide +kernel
theorem dX9_keeps_3 : decode cX9_keeps 3 = .ok (.bipush 16, 2) := by decide +kernel
theorem dX9_keeps_5 : decode cX9_keeps 5 = .ok (.if_icmp .ge 23, 3) := by decide +kernel
theorem dX9_keeps_8 : decode cX9_keeps 8 = .ok (.aload_n 0, 1) := by decide +kernel
theorem dX9_keeps_9 : decode cX9_keeps 9 = .ok (.getfield 19, 3) := by decide +kernel
theorem dX9_keeps_12 : decode cX9_keeps 12 = .ok (.iload_n 2, 1) := by decide +kernel
theorem dX9_keeps_13 : decode cX9_keeps 13 = .ok (.aload_n 0, 1) := by decide +kernel
theorem dX9_keeps_14 : decode cX9_keeps 14 = .ok (.getfield 7, 3) := by decide +kernel
theorem dX9_keeps_17 : decode cX9_keeps 17 = .ok (.iconst 4, 1) := by decide +kernel
theorem dX9_keeps_18 : decode cX9_keeps 18 = .ok (.iload_n 2, 1) := by decide +kernel
theorem dX9_keeps_19 : decode cX9_keeps 19 = .ok (.iadd, 1) := by decide +kernel
theorem dX9_keeps_20 : decode cX9_keeps 20 = .ok (.iaload, 1) := by decide +kernel
theorem dX9_keeps_21 : decode cX9_keeps 21 = .ok (.iastore, 1) := by decide +kernel
theorem dX9_keeps_22 : decode cX9_keeps 22 = .ok (.iinc 2 1, 3) := by decide +kernel
theorem dX9_keeps_25 : decode cX9_keeps 25 = .ok (.goto (-23), 3) := by decide +kernel
theorem dX9_keeps_28 : decode cX9_keeps 28 = .ok (.iconst 0, 1) := by decide +kernel
theorem dX9_keeps_29 : decode cX9_keeps 29 = .ok (.istore_n 2, 1) := by decide +kernel
theorem dX9_keeps_30 : decode cX9_keeps 30 = .ok (.iload_n 2, 1) := by decide +kernel
theorem dX9_keeps_31 : decode cX9_keeps 31 = .ok (.bipush 42, 2) := by decide +kernel
theorem dX9_keeps_33 : decode cX9_keeps 33 = .ok (.if_icmp .ge 28, 3) := by decide +kernel
theorem dX9_keeps_36 : decode cX9_keeps 36 = .ok (.aload_n 0, 1) := by decide +kernel
theorem dX9_keeps_37 : decode cX9_keeps 37 = .ok (.getfield 19, 3) := by decide +kernel
theorem dX9_keeps_40 : decode cX9_keeps 40 = .ok (.bipush 16, 2) := by decide +kernel
theorem dX9_keeps_42 : decode cX9_keeps 42 = .ok (.iload_n 2, 1) := by decide +kernel
theorem dX9_keeps_43 : decode cX9_keeps 43 = .ok (.iadd, 1) := by decide +kernel
theorem dX9_keeps_44 : decode cX9_keeps 44 = .ok (.aload_n 0, 1) := by decide +kernel
theorem dX9_keeps_45 : decode cX9_keeps 45 = .ok (.getfield 7, 3) := by decide +kernel
theorem dX9_keeps_48 : decode cX9_keeps 48 = .ok (.iload_n 1, 1) := by decide +kernel
theorem dX9_keeps_49 : decode cX9_keeps 49 = .ok (.iload_n 2, 1) := by decide +kernel
theorem dX9_keeps_50 : decode cX9_keeps 50 = .ok (.invokestatic 53, 3) := by decide +kernel
theorem dX9_keeps_53 : decode cX9_keeps 53 = .ok (.iaload, 1) := by decide +kernel
theorem dX9_keeps_54 : decode cX9_keeps 54 = .ok (.iastore, 1) := by decide +kernel
theorem dX9_keeps_55 : decode cX9_keeps 55 = .ok (.iinc 2 1, 3) := by decide +kernel
theorem dX9_keeps_58 : decode cX9_keeps 58 = .ok (.goto (-28), 3) := by decide +kernel
theorem dX9_keeps_61 : decode cX9_keeps 61 = .ok (.return_, 1) := by decide +kernel
set_option maxRecDepth 20000 in
theorem ggX9_putsBack_X9_at : GoodIn wsX9_putsBack wsX9_at := goodIn_r _ [6] (by decide +kernel) (by decide +kernel)
set_option maxRecDepth 20000 in
theorem gX9_putsBack_X9_at : GoodIn wsX9_putsBack (va_wsS RX9 53 yX9_at wsX9_at) := goodIn_app (goodIn_of _ (by decide +kernel)) ggX9_putsBack_X9_at
theorem dX9_putsBack_0 : decode cX9_putsBack 0 = .ok (.iconst 0, 1) := by decide +kernel
theorem dX9_putsBack_1 : decode cX9_putsBack 1 = .ok (.istore_n 2, 1) := by decide +kernel
theorem dX9_putsBack_2 : decode cX9_putsBack 2 = .ok (.iload_n 2, 1) := by decide +kernel
theorem dX9_putsBack_3 : decode cX9_putsBack 3 = .ok (.bipush 16, 2) := by decide +kernel
theorem dX9_putsBack_5 : decode cX9_putsBack 5 = .ok (.if_icmp .ge 23, 3) := by decide +kernel
theorem dX9_putsBack_8 : decode cX9_putsBack 8 = .ok (.aload_n 0, 1) := by decide +kernel
theorem dX9_putsBack_9 : decode cX9_putsBack 9 = .ok (.getfield 7, 3) := by decide +kernel
theorem dX9_putsBack_12 : decode cX9_putsBack 12 = .ok (.iconst 4, 1) := by decide +kernel
theorem dX9_putsBack_13 : decode cX9_putsBack 13 = .ok (.iload_n 2, 1) := by decide +kernel
theorem dX9_putsBack_14 : decode cX9_putsBack 14 = .ok (.iadd, 1) := by decide +kernel
theorem dX9_putsBack_15 : decode cX9_putsBack 15 = .ok (.aload_n 0, 1) := by decide +kernel
theorem dX9_putsBack_16 : decode cX9_putsBack 16 = .ok (.getfield 19, 3) := by decide +kernel
theorem dX9_putsBack_19 : decode cX9_putsBack 19 = .ok (.iload_n 2, 1) := by decide +kernel
theorem dX9_putsBack_20 : decode cX9_putsBack 20 = .ok (.iaload, 1) := by decide +kernel
theorem dX9_putsBack_21 : decode cX9_putsBack 21 = .ok (.iastore, 1) := by decide +kernel
theorem dX9_putsBack_22 : decode cX9_putsBack 22 = .ok (.iinc 2 1, 3) := by decide +kernel
theorem dX9_putsBack_25 : decode cX9_putsBack 25 = .ok (.goto (-23), 3) := by decide +kernel
theorem dX9_putsBack_28 : decode cX9_putsBack 28 = .ok (.iconst 0, 1) := by decide +kernel
theorem dX9_putsBack_29 : decode cX9_putsBack 29 = .ok (.istore_n 2, 1) := by decide +kernel
theorem dX9_putsBack_30 : decode cX9_putsBack 30 = .ok (.iload_n 2, 1) := by decide +kernel
theorem dX9_putsBack_31 : decode cX9_putsBack 31 = .ok (.bipush 42, 2) := by decide +kernel
theorem dX9_putsBack_33 : decode cX9_putsBack 33 = .ok (.if_icmp .ge 28, 3) := by decide +kernel
theorem dX9_putsBack_36 : decode cX9_putsBack 36 = .ok (.aload_n 0, 1) := by decide +kernel
theorem dX9_putsBack_37 : decode cX9_putsBack 37 = .ok (.getfield 7, 3) := by decide +kernel
theorem dX9_putsBack_40 : decode cX9_putsBack 40 = .ok (.iload_n 1, 1) := by decide +kernel
theorem dX9_putsBack_41 : decode cX9_putsBack 41 = .ok (.iload_n 2, 1) := by decide +kernel
theorem dX9_putsBack_42 : decode cX9_putsBack 42 = .ok (.invokestatic 53, 3) := by decide +kernel
theorem dX9_putsBack_45 : decode cX9_putsBack 45 = .ok (.aload_n 0, 1) := by decide +kernel
theorem dX9_putsBack_46 : decode cX9_putsBack 46 = .ok (.getfield 19, 3) := by decide +kernel
theorem dX9_putsBack_49 : decode cX9_putsBack 49 = .ok (.bipush 16, 2) := by decide +kernel
theorem dX9_putsBack_51 : decode cX9_putsBack 51 = .ok (.iload_n 2, 1) := by decide +kernel
theorem dX9_putsBack_52 : decode cX9_putsBack 52 = .ok (.iadd, 1) := by decide +kernel
theorem dX9_putsBack_53 : decode cX9_putsBack 53 = .ok (.iaload, 1) := by decide +kernel
theorem dX9_putsBack_54 : decode cX9_putsBack 54 = .ok (.iastore, 1) := by decide +kernel
theorem dX9_putsBack_55 : decode cX9_putsBack 55 = .ok (.iinc 2 1, 3) := by decide +kernel
theorem dX9_putsBack_58 : decode cX9_putsBack 58 = .ok (.goto (-28), 3) := by decide +kernel
theorem dX9_putsBack_61 : decode cX9_putsBack 61 = .ok (.return_, 1) := by decide +kernel
set_option maxRecDepth 20000 in
theorem ggX9_burnsBehind_X9_dips : GoodIn wsX9_burnsBehind wsX9_dips := goodIn_r _ [5, 6, 7, 8, 9, 4, 10, 11, 12, 13, 14, 15, 16, 17, 18, 19, 20, 21, 22, 23, 24, 25, 26, 27, 28, 29, 30, 31, 32, 33, 34, 35, 36, 37, 38, 39, 40, 41, 42, 43, 44, 45, 57, 58, 59, 60, 61, 62, 63, 64, 65, 66, 67, 68, 69, 70, 71, 72, 73, 74, 75, 76] (by decide +kernel) (by decide +kernel)
set_option maxRecDepth 20000 in
theorem gX9_burnsBehind_X9_dips : GoodIn wsX9_burnsBehind (wsV RX9 122 RX9 yX9_dips wsX9_dips) := goodIn_app (goodIn_of _ (by decide +kernel)) ggX9_burnsBehind_X9_dips
set_option maxRecDepth 20000 in
theorem ggX9_burnsBehind_X9_burnsOf : GoodIn wsX9_burnsBehind wsX9_burnsOf := goodIn_r _ [49, 50, 51, 52, 4, 53, 7, 8, 9, 10, 6, 11, 12, 13, 37, 38, 39, 40, 25, 26, 27, 28, 54, 55, 56, 57, 58, 59, 60, 61, 62, 63, 64, 65, 66, 67, 68, 69, 70, 71, 72, 73, 74, 75, 76] (by decide +kernel) (by decide +kernel)
set_option maxRecDepth 20000 in
theorem gX9_burnsBehind_X9_burnsOf : GoodIn wsX9_burnsBehind (wsV RX9 100 RX9 yX9_burnsOf wsX9_burnsOf) := goodIn_app (goodIn_of _ (by decide +kernel)) ggX9_burnsBehind_X9_burnsOf
theorem dX9_burnsBehind_0 : decode cX9_burnsBehind 0 = .ok (.iconst 0, 1) := by decide +kernel
theorem dX9_burnsBehind_1 : decode cX9_burnsBehind 1 = .ok (.istore 4, 2) := by decide +kernel
theorem dX9_burnsBehind_3 : decode cX9_burnsBehind 3 = .ok (.iload 4, 2) := by decide +kernel
theorem dX9_burnsBehind_5 : decode cX9_burnsBehind 5 = .ok (.iload_n 3, 1) := by decide +kernel
theorem dX9_burnsBehind_6 : decode cX9_burnsBehind 6 = .ok (.if_icmp .ge 15, 3) := by decide +kernel
theorem dX9_burnsBehind_9 : decode cX9_burnsBehind 9 = .ok (.aload_n 0, 1) := by decide +kernel
theorem dX9_burnsBehind_10 : decode cX9_burnsBehind 10 = .ok (.iload_n 1, 1) := by decide +kernel
theorem dX9_burnsBehind_11 : decode cX9_burnsBehind 11 = .ok (.iload_n 2, 1) := by decide +kernel
theorem dX9_burnsBehind_12 : decode cX9_burnsBehind 12 = .ok (.invokevirtual 122, 3) := by decide +kernel
theorem dX9_burnsBehind_15 : decode cX9_burnsBehind 15 = .ok (.iinc 4 1, 3) := by decide +kernel
theorem dX9_burnsBehind_18 : decode cX9_burnsBehind 18 = .ok (.goto (-15), 3) := by decide +kernel
theorem dX9_burnsBehind_21 : decode cX9_burnsBehind 21 = .ok (.aload_n 0, 1) := by decide +kernel
theorem dX9_burnsBehind_22 : decode cX9_burnsBehind 22 = .ok (.iload_n 1, 1) := by decide +kernel
theorem dX9_burnsBehind_23 : decode cX9_burnsBehind 23 = .ok (.invokevirtual 100, 3) := by decide +kernel
theorem dX9_burnsBehind_26 : decode cX9_burnsBehind 26 = .ok (.ireturn, 1) := by decide +kernel
set_option maxRecDepth 20000 in
theorem ggX9_burns_X9_isCandle : GoodIn wsX9_burns wsX9_isCandle := goodIn_r _ [6, 7, 8, 9, 5, 10, 86, 87, 88, 89, 90, 91, 92, 93, 94, 95, 96, 97, 98, 99, 100, 101, 102, 103, 104, 105] (by decide +kernel) (by decide +kernel)
set_option maxRecDepth 20000 in
theorem gX9_burns_X9_isCandle : GoodIn wsX9_burns (wsV RX9 97 RX9 yX9_isCandle wsX9_isCandle) := goodIn_app (goodIn_of _ (by decide +kernel)) ggX9_burns_X9_isCandle
set_option maxRecDepth 20000 in
theorem ggX9_burns_X9_isVat : GoodIn wsX9_burns wsX9_isVat := goodIn_r _ [13, 8, 9, 5, 10] (by decide +kernel) (by decide +kernel)
set_option maxRecDepth 20000 in
theorem gX9_burns_X9_isVat : GoodIn wsX9_burns (va_wsS RX9 57 yX9_isVat wsX9_isVat) := goodIn_app (goodIn_of _ (by decide +kernel)) ggX9_burns_X9_isVat
set_option maxRecDepth 20000 in
theorem ggX9_burns_X9_in : GoodIn wsX9_burns wsX9_in := goodIn_r _ [10] (by decide +kernel) (by decide +kernel)
set_option maxRecDepth 20000 in
theorem gX9_burns_X9_in : GoodIn wsX9_burns (va_wsS RX9 49 yX9_in wsX9_in) := goodIn_app (goodIn_of _ (by decide +kernel)) ggX9_burns_X9_in
set_option maxRecDepth 20000 in
theorem ggX9_burns_X9_finds : GoodIn wsX9_burns wsX9_finds := goodIn_r _ [17, 18, 1, 86, 87, 88, 89, 90, 91, 92, 93, 94, 95, 96, 97, 98, 99, 100, 101, 102, 103, 104, 105] (by decide +kernel) (by decide +kernel)
set_option maxRecDepth 20000 in
theorem gX9_burns_X9_finds : GoodIn wsX9_burns (wsV RX9 64 RX9 yX9_finds wsX9_finds) := goodIn_app (goodIn_of _ (by decide +kernel)) ggX9_burns_X9_finds
set_option maxRecDepth 20000 in
theorem ggX9_burns_X9_keeps : GoodIn wsX9_burns wsX9_keeps := goodIn_r _ [22, 23, 7, 24, 25, 5, 26, 86, 87, 88, 89, 90, 91, 92, 93, 94, 95, 96, 97, 98, 99, 100, 101, 102, 103, 104, 105] (by decide +kernel) (by decide +kernel)
set_option maxRecDepth 20000 in
theorem gX9_burns_X9_keeps : GoodIn wsX9_burns (wsV RX9 135 RX9 yX9_keeps wsX9_keeps) := goodIn_app (goodIn_of _ (by decide +kernel)) ggX9_burns_X9_keeps
set_option maxRecDepth 20000 in
theorem ggX9_burns_X9_burnsBehind : GoodIn wsX9_burns wsX9_burnsBehind := goodIn_r _ [30, 31, 32, 33, 5, 34, 7, 35, 36, 37, 38, 24, 25, 26, 39, 40, 41, 42, 43, 44, 45, 46, 47, 48, 49, 50, 51, 52, 53, 54, 55, 56, 57, 58, 59, 60, 61, 62, 63, 64, 65, 66, 67, 68, 69, 70, 71, 72, 73, 74, 75, 76, 77, 78, 79, 80, 81, 86, 87, 88, 89, 90, 91, 92, 93, 94, 95, 96, 97, 98, 99, 100, 101, 102, 103, 104, 105] (by decide +kernel) (by decide +kernel)
set_option maxRecDepth 20000 in
theorem gX9_burns_X9_burnsBehind : GoodIn wsX9_burns (wsV RX9 138 RX9 yX9_burnsBehind wsX9_burnsBehind) := goodIn_app (goodIn_of _ (by decide +kernel)) ggX9_burns_X9_burnsBehind
set_option maxRecDepth 20000 in
theorem ggX9_burns_X9_putsBack : GoodIn wsX9_burns wsX9_putsBack := goodIn_r _ [85, 7, 23, 24, 25, 5, 26, 86, 87, 88, 89, 90, 91, 92, 93, 94, 95, 96, 97, 98, 99, 100, 101, 102, 103, 104, 105] (by decide +kernel) (by decide +kernel)
set_option maxRecDepth 20000 in
theorem gX9_burns_X9_putsBack : GoodIn wsX9_burns (wsV RX9 142 RX9 yX9_putsBack wsX9_putsBack) := goodIn_app (goodIn_of _ (by decide +kernel)) ggX9_burns_X9_putsBack
theorem dX9_burns_0 : decode cX9_burns 0 = .ok (.aload_n 0, 1) := by decide +kernel
theorem dX9_burns_1 : decode cX9_burns 1 = .ok (.iload_n 1, 1) := by decide +kernel
theorem dX9_burns_2 : decode cX9_burns 2 = .ok (.invokevirtual 97, 3) := by decide +kernel
theorem dX9_burns_5 : decode cX9_burns 5 = .ok (.ifCond .eq 20, 3) := by decide +kernel
theorem dX9_burns_8 : decode cX9_burns 8 = .ok (.iload_n 2, 1) := by decide +kernel
theorem dX9_burns_9 : decode cX9_burns 9 = .ok (.invokestatic 57, 3) := by decide +kernel
theorem dX9_burns_12 : decode cX9_burns 12 = .ok (.ifCond .eq 13, 3) := by decide +kernel
theorem dX9_burns_15 : decode cX9_burns 15 = .ok (.iload_n 3, 1) := by decide +kernel
theorem dX9_burns_16 : decode cX9_burns 16 = .ok (.iconst 0, 1) := by decide +kernel
theorem dX9_burns_17 : decode cX9_burns 17 = .ok (.bipush 40, 2) := by decide +kernel
theorem dX9_burns_19 : decode cX9_burns 19 = .ok (.invokestatic 49, 3) := by decide +kernel
theorem dX9_burns_22 : decode cX9_burns 22 = .ok (.ifCond .ne 10, 3) := by decide +kernel
theorem dX9_burns_25 : decode cX9_burns 25 = .ok (.aload_n 0, 1) := by decide +kernel
theorem dX9_burns_26 : decode cX9_burns 26 = .ok (.ldc 48, 2) := by decide +kernel
theorem dX9_burns_28 : decode cX9_burns 28 = .ok (.invokevirtual 64, 3) := by decide +kernel
theorem dX9_burns_31 : decode cX9_burns 31 = .ok (.ireturn, 1) := by decide +kernel
theorem dX9_burns_32 : decode cX9_burns 32 = .ok (.aload_n 0, 1) := by decide +kernel
theorem dX9_burns_33 : decode cX9_burns 33 = .ok (.iload_n 1, 1) := by decide +kernel
theorem dX9_burns_34 : decode cX9_burns 34 = .ok (.invokevirtual 135, 3) := by decide +kernel
theorem dX9_burns_37 : decode cX9_burns 37 = .ok (.aload_n 0, 1) := by decide +kernel
theorem dX9_burns_38 : decode cX9_burns 38 = .ok (.iload_n 1, 1) := by decide +kernel
theorem dX9_burns_39 : decode cX9_burns 39 = .ok (.iload_n 2, 1) := by decide +kernel
theorem dX9_burns_40 : decode cX9_burns 40 = .ok (.iload_n 3, 1) := by decide +kernel
theorem dX9_burns_41 : decode cX9_burns 41 = .ok (.invokevirtual 138, 3) := by decide +kernel
theorem dX9_burns_44 : decode cX9_burns 44 = .ok (.istore 4, 2) := by decide +kernel
theorem dX9_burns_46 : decode cX9_burns 46 = .ok (.aload_n 0, 1) := by decide +kernel
theorem dX9_burns_47 : decode cX9_burns 47 = .ok (.iload_n 1, 1) := by decide +kernel
theorem dX9_burns_48 : decode cX9_burns 48 = .ok (.invokevirtual 142, 3) := by decide +kernel
theorem dX9_burns_51 : decode cX9_burns 51 = .ok (.iload 4, 2) := by decide +kernel
theorem dX9_burns_53 : decode cX9_burns 53 = .ok (.ireturn, 1) := by decide +kernel
set_option maxRecDepth 20000 in
theorem ggX9_dipRow_X9_dips : GoodIn wsX9_dipRow wsX9_dips := goodIn_r _ [5, 6, 7, 8, 9, 4, 10, 11, 12, 13, 14, 15, 16, 17, 18, 19, 20, 21, 22, 23, 24, 25, 26, 27, 28, 29, 30, 31, 32, 33, 34, 35, 36, 37, 38, 39, 40, 41, 42, 43, 44, 45, 46, 47, 48, 49, 50, 51, 52, 53, 54, 55, 56, 57, 58, 59, 60, 61, 62, 63, 64, 65] (by decide +kernel) (by decide +kernel)
set_option maxRecDepth 20000 in
theorem gX9_dipRow_X9_dips : GoodIn wsX9_dipRow (wsV RX9 122 RX9 yX9_dips wsX9_dips) := goodIn_app (goodIn_of _ (by decide +kernel)) ggX9_dipRow_X9_dips
theorem dX9_dipRow_0 : decode cX9_dipRow 0 = .ok (.iload_n 3, 1) := by decide +kernel
theorem dX9_dipRow_1 : decode cX9_dipRow 1 = .ok (.iconst 1, 1) := by decide +kernel
theorem dX9_dipRow_2 : decode cX9_dipRow 2 = .ok (.isub, 1) := by decide +kernel
theorem dX9_dipRow_3 : decode cX9_dipRow 3 = .ok (.istore 4, 2) := by decide +kernel
theorem dX9_dipRow_5 : decode cX9_dipRow 5 = .ok (.iload 4, 2) := by decide +kernel
theorem dX9_dipRow_7 : decode cX9_dipRow 7 = .ok (.ifCond .lt 22, 3) := by decide +kernel
theorem dX9_dipRow_10 : decode cX9_dipRow 10 = .ok (.aload_n 0, 1) := by decide +kernel
theorem dX9_dipRow_11 : decode cX9_dipRow 11 = .ok (.iload_n 1, 1) := by decide +kernel
theorem dX9_dipRow_12 : decode cX9_dipRow 12 = .ok (.iload_n 2, 1) := by decide +kernel
theorem dX9_dipRow_13 : decode cX9_dipRow 13 = .ok (.iconst 2, 1) := by decide +kernel
theorem dX9_dipRow_14 : decode cX9_dipRow 14 = .ok (.iload 4, 2) := by decide +kernel
theorem dX9_dipRow_16 : decode cX9_dipRow 16 = .ok (.imul, 1) := by decide +kernel
theorem dX9_dipRow_17 : decode cX9_dipRow 17 = .ok (.ishr, 1) := by decide +kernel
theorem dX9_dipRow_18 : decode cX9_dipRow 18 = .ok (.iconst 3, 1) := by decide +kernel
theorem dX9_dipRow_19 : decode cX9_dipRow 19 = .ok (.iand, 1) := by decide +kernel
theorem dX9_dipRow_20 : decode cX9_dipRow 20 = .ok (.invokevirtual 122, 3) := by decide +kernel
theorem dX9_dipRow_23 : decode cX9_dipRow 23 = .ok (.iinc 4 (-1), 3) := by decide +kernel
theorem dX9_dipRow_26 : decode cX9_dipRow 26 = .ok (.goto (-21), 3) := by decide +kernel
theorem dX9_dipRow_29 : decode cX9_dipRow 29 = .ok (.return_, 1) := by decide +kernel
set_option maxRecDepth 20000 in
theorem ggX9_firstRow_X9_dipRow : GoodIn wsX9_firstRow wsX9_dipRow := goodIn_r _ [5, 6, 7, 8, 4, 9, 10, 11, 12, 13, 14, 15, 16, 17, 18, 19, 20, 21, 22, 23, 24, 25, 26, 27, 28, 29, 30, 31, 32, 33, 34, 35, 36, 37, 38, 39, 40, 41, 42, 43, 44, 45, 46, 47, 48, 49, 66, 67, 68, 69, 70, 71, 72, 73, 74, 75, 76, 77, 78, 79, 80, 81, 82, 83, 84, 85] (by decide +kernel) (by decide +kernel)
set_option maxRecDepth 20000 in
theorem gX9_firstRow_X9_dipRow : GoodIn wsX9_firstRow (wsV RX9 145 RX9 yX9_dipRow wsX9_dipRow) := goodIn_app (goodIn_of _ (by decide +kernel)) ggX9_firstRow_X9_dipRow
set_option maxRecDepth 20000 in
theorem ggX9_firstRow_X9_burnsOf : GoodIn wsX9_firstRow wsX9_burnsOf := goodIn_r _ [53, 54, 55, 56, 4, 57, 11, 12, 13, 14, 10, 15, 16, 17, 41, 42, 43, 44, 29, 30, 31, 32, 58, 59, 60, 66, 67, 68, 69, 70, 71, 72, 73, 74, 75, 76, 77, 78, 79, 80, 81, 82, 83, 84, 85] (by decide +kernel) (by decide +kernel)
set_option maxRecDepth 20000 in
theorem gX9_firstRow_X9_burnsOf : GoodIn wsX9_firstRow (wsV RX9 100 RX9 yX9_burnsOf wsX9_burnsOf) := goodIn_app (goodIn_of _ (by decide +kernel)) ggX9_firstRow_X9_burnsOf
set_option maxRecDepth 20000 in
theorem ggX9_firstRow_X9_putsBack : GoodIn wsX9_firstRow wsX9_putsBack := goodIn_r _ [64, 10, 65, 15, 16, 4, 17, 66, 67, 68, 69, 70, 71, 72, 73, 74, 75, 76, 77, 78, 79, 80, 81, 82, 83, 84, 85] (by decide +kernel) (by decide +kernel)
set_option maxRecDepth 20000 in
theorem gX9_firstRow_X9_putsBack : GoodIn wsX9_firstRow (wsV RX9 142 RX9 yX9_putsBack wsX9_putsBack) := goodIn_app (goodIn_of _ (by decide +kernel)) ggX9_firstRow_X9_putsBack
theorem dX9_firstRow_0 : decode cX9_firstRow 0 = .ok (.iconst (-1), 1) := by decide +kernel
theorem dX9_firstRow_1 : decode cX9_firstRow 1 = .ok (.istore 4, 2) := by decide +kernel
theorem dX9_firstRow_3 : decode cX9_firstRow 3 = .ok (.iconst 0, 1) := by decide +kernel
theorem dX9_firstRow_4 : decode cX9_firstRow 4 = .ok (.istore 5, 2) := by decide +kernel
theorem dX9_firstRow_6 : decode cX9_firstRow 6 = .ok (.iload 5, 2) := by decide +kernel
theorem dX9_firstRow_8 : decode cX9_firstRow 8 = .ok (.iconst 1, 1) := by decide +kernel
theorem dX9_firstRow_9 : decode cX9_firstRow 9 = .ok (.iconst 2, 1) := by decide +kernel
theorem dX9_firstRow_10 : decode cX9_firstRow 10 = .ok (.iload_n 3, 1) := by decide +kernel
theorem dX9_firstRow_11 : decode cX9_firstRow 11 = .ok (.imul, 1) := by decide +kernel
theorem dX9_firstRow_12 : decode cX9_firstRow 12 = .ok (.ishl, 1) := by decide +kernel
theorem dX9_firstRow_13 : decode cX9_firstRow 13 = .ok (.if_icmp .ge 44, 3) := by decide +kernel
theorem dX9_firstRow_16 : decode cX9_firstRow 16 = .ok (.iload 4, 2) := by decide +kernel
theorem dX9_firstRow_18 : decode cX9_firstRow 18 = .ok (.ifCond .ge 39, 3) := by decide +kernel
theorem dX9_firstRow_21 : decode cX9_firstRow 21 = .ok (.aload_n 0, 1) := by decide +kernel
theorem dX9_firstRow_22 : decode cX9_firstRow 22 = .ok (.iload_n 1, 1) := by decide +kernel
theorem dX9_firstRow_23 : decode cX9_firstRow 23 = .ok (.iload 5, 2) := by decide +kernel
theorem dX9_firstRow_25 : decode cX9_firstRow 25 = .ok (.iload_n 3, 1) := by decide +kernel
theorem dX9_firstRow_26 : decode cX9_firstRow 26 = .ok (.invokevirtual 145, 3) := by decide +kernel
theorem dX9_firstRow_29 : decode cX9_firstRow 29 = .ok (.aload_n 0, 1) := by decide +kernel
theorem dX9_firstRow_30 : decode cX9_firstRow 30 = .ok (.iload_n 1, 1) := by decide +kernel
theorem dX9_firstRow_31 : decode cX9_firstRow 31 = .ok (.invokevirtual 100, 3) := by decide +kernel
theorem dX9_firstRow_34 : decode cX9_firstRow 34 = .ok (.iload_n 2, 1) := by decide +kernel
theorem dX9_firstRow_35 : decode cX9_firstRow 35 = .ok (.if_icmp .lt 8, 3) := by decide +kernel
theorem dX9_firstRow_38 : decode cX9_firstRow 38 = .ok (.iload 5, 2) := by decide +kernel
theorem dX9_firstRow_40 : decode cX9_firstRow 40 = .ok (.goto 4, 3) := by decide +kernel
theorem dX9_firstRow_43 : decode cX9_firstRow 43 = .ok (.iconst (-1), 1) := by decide +kernel
theorem dX9_firstRow_44 : decode cX9_firstRow 44 = .ok (.istore 4, 2) := by decide +kernel
theorem dX9_firstRow_46 : decode cX9_firstRow 46 = .ok (.aload_n 0, 1) := by decide +kernel
theorem dX9_firstRow_47 : decode cX9_firstRow 47 = .ok (.iload_n 1, 1) := by decide +kernel
theorem dX9_firstRow_48 : decode cX9_firstRow 48 = .ok (.invokevirtual 142, 3) := by decide +kernel
theorem dX9_firstRow_51 : decode cX9_firstRow 51 = .ok (.iinc 5 1, 3) := by decide +kernel
theorem dX9_firstRow_54 : decode cX9_firstRow 54 = .ok (.goto (-48), 3) := by decide +kernel
theorem dX9_firstRow_57 : decode cX9_firstRow 57 = .ok (.iload 4, 2) := by decide +kernel
theorem dX9_firstRow_59 : decode cX9_firstRow 59 = .ok (.ireturn, 1) := by decide +kernel
set_option maxRecDepth 20000 in
theorem ggX9_fewestOf_X9_keeps : GoodIn wsX9_fewestOf wsX9_keeps := goodIn_r _ [6, 7, 8, 9, 10, 5, 11, 75, 76, 77, 78, 79, 80, 81, 82, 83, 84, 85, 86, 87, 88, 89, 90, 91, 92, 93, 94] (by decide +kernel) (by decide +kernel)
set_option maxRecDepth 20000 in
theorem gX9_fewestOf_X9_keeps : GoodIn wsX9_fewestOf (wsV RX9 135 RX9 yX9_keeps wsX9_keeps) := goodIn_app (goodIn_of _ (by decide +kernel)) ggX9_fewestOf_X9_keeps
set_option maxRecDepth 20000 in
theorem ggX9_fewestOf_X9_firstRow : GoodIn wsX9_fewestOf wsX9_firstRow := goodIn_r _ [15, 16, 17, 18, 5, 19, 20, 21, 22, 23, 8, 24, 25, 26, 27, 9, 10, 11, 28, 29, 30, 31, 32, 33, 34, 35, 36, 37, 38, 39, 40, 41, 42, 43, 44, 45, 46, 47, 48, 49, 50, 51, 52, 53, 54, 55, 56, 57, 58, 59, 60, 61, 62, 63, 64, 65, 66, 67, 68, 69, 70, 71, 72, 73, 74, 7, 75, 76, 77, 78, 79, 80, 81, 82, 83, 84, 85, 86, 87, 88, 89, 90, 91, 92, 93, 94] (by decide +kernel) (by decide +kernel)
set_option maxRecDepth 20000 in
theorem gX9_fewestOf_X9_firstRow : GoodIn wsX9_fewestOf (wsV RX9 152 RX9 yX9_firstRow wsX9_firstRow) := goodIn_app (goodIn_of _ (by decide +kernel)) ggX9_fewestOf_X9_firstRow
theorem dX9_fewestOf_0 : decode cX9_fewestOf 0 = .ok (.aload_n 0, 1) := by decide +kernel
theorem dX9_fewestOf_1 : decode cX9_fewestOf 1 = .ok (.iload_n 1, 1) := by decide +kernel
theorem dX9_fewestOf_2 : decode cX9_fewestOf 2 = .ok (.invokevirtual 135, 3) := by decide +kernel
theorem dX9_fewestOf_5 : decode cX9_fewestOf 5 = .ok (.aload_n 0, 1) := by decide +kernel
theorem dX9_fewestOf_6 : decode cX9_fewestOf 6 = .ok (.iconst (-1), 1) := by decide +kernel
theorem dX9_fewestOf_7 : decode cX9_fewestOf 7 = .ok (.putfield 148, 3) := by decide +kernel
theorem dX9_fewestOf_10 : decode cX9_fewestOf 10 = .ok (.iconst (-1), 1) := by decide +kernel
theorem dX9_fewestOf_11 : decode cX9_fewestOf 11 = .ok (.istore_n 3, 1) := by decide +kernel
theorem dX9_fewestOf_12 : decode cX9_fewestOf 12 = .ok (.aload_n 0, 1) := by decide +kernel
theorem dX9_fewestOf_13 : decode cX9_fewestOf 13 = .ok (.getfield 148, 3) := by decide +kernel
theorem dX9_fewestOf_16 : decode cX9_fewestOf 16 = .ok (.ifCond .ge 26, 3) := by decide +kernel
theorem dX9_fewestOf_19 : decode cX9_fewestOf 19 = .ok (.iload_n 3, 1) := by decide +kernel
theorem dX9_fewestOf_20 : decode cX9_fewestOf 20 = .ok (.bipush 6, 2) := by decide +kernel
theorem dX9_fewestOf_22 : decode cX9_fewestOf 22 = .ok (.if_icmp .ge 20, 3) := by decide +kernel
theorem dX9_fewestOf_25 : decode cX9_fewestOf 25 = .ok (.iinc 3 1, 3) := by decide +kernel
theorem dX9_fewestOf_28 : decode cX9_fewestOf 28 = .ok (.aload_n 0, 1) := by decide +kernel
theorem dX9_fewestOf_29 : decode cX9_fewestOf 29 = .ok (.aload_n 0, 1) := by decide +kernel
theorem dX9_fewestOf_30 : decode cX9_fewestOf 30 = .ok (.iload_n 1, 1) := by decide +kernel
theorem dX9_fewestOf_31 : decode cX9_fewestOf 31 = .ok (.iload_n 2, 1) := by decide +kernel
theorem dX9_fewestOf_32 : decode cX9_fewestOf 32 = .ok (.iload_n 3, 1) := by decide +kernel
theorem dX9_fewestOf_33 : decode cX9_fewestOf 33 = .ok (.invokevirtual 152, 3) := by decide +kernel
theorem dX9_fewestOf_36 : decode cX9_fewestOf 36 = .ok (.putfield 148, 3) := by decide +kernel
theorem dX9_fewestOf_39 : decode cX9_fewestOf 39 = .ok (.goto (-27), 3) := by decide +kernel
theorem dX9_fewestOf_42 : decode cX9_fewestOf 42 = .ok (.aload_n 0, 1) := by decide +kernel
theorem dX9_fewestOf_43 : decode cX9_fewestOf 43 = .ok (.getfield 148, 3) := by decide +kernel
theorem dX9_fewestOf_46 : decode cX9_fewestOf 46 = .ok (.ifCond .ge 7, 3) := by decide +kernel
theorem dX9_fewestOf_49 : decode cX9_fewestOf 49 = .ok (.iconst (-1), 1) := by decide +kernel
theorem dX9_fewestOf_50 : decode cX9_fewestOf 50 = .ok (.goto 4, 3) := by decide +kernel
theorem dX9_fewestOf_53 : decode cX9_fewestOf 53 = .ok (.iload_n 3, 1) := by decide +kernel
theorem dX9_fewestOf_54 : decode cX9_fewestOf 54 = .ok (.ireturn, 1) := by decide +kernel
set_option maxRecDepth 20000 in
theorem ggX9_isMinutes_X9_in : GoodIn wsX9_isMinutes wsX9_in := goodIn_r _ [4] (by decide +kernel) (by decide +kernel)
set_option maxRecDepth 20000 in
theorem gX9_isMinutes_X9_in : GoodIn wsX9_isMinutes (va_wsS RX9 49 yX9_in wsX9_in) := goodIn_app (goodIn_of _ (by decide +kernel)) ggX9_isMinutes_X9_in
theorem dX9_isMinutes_0 : decode cX9_isMinutes 0 = .ok (.iload_n 0, 1) := by decide +kernel
theorem dX9_isMinutes_1 : decode cX9_isMinutes 1 = .ok (.iconst 0, 1) := by decide +kernel
theorem dX9_isMinutes_2 : decode cX9_isMinutes 2 = .ok (.sipush 9999, 3) := by decide +kernel
theorem dX9_isMinutes_5 : decode cX9_isMinutes 5 = .ok (.invokestatic 49, 3) := by decide +kernel
theorem dX9_isMinutes_8 : decode cX9_isMinutes 8 = .ok (.ireturn, 1) := by decide +kernel
set_option maxRecDepth 20000 in
theorem ggX9_fewest_X9_isCandle : GoodIn wsX9_fewest wsX9_isCandle := goodIn_r _ [7, 8, 9, 10, 6, 11, 96, 97, 98, 99, 100, 101, 102, 103, 104, 105, 106, 107, 108, 109, 110, 111, 112, 113, 114, 115] (by decide +kernel) (by decide +kernel)
set_option maxRecDepth 20000 in
theorem gX9_fewest_X9_isCandle : GoodIn wsX9_fewest (wsV RX9 97 RX9 yX9_isCandle wsX9_isCandle) := goodIn_app (goodIn_of _ (by decide +kernel)) ggX9_fewest_X9_isCandle
set_option maxRecDepth 20000 in
theorem ggX9_fewest_X9_isMinutes : GoodIn wsX9_fewest wsX9_isMinutes := goodIn_r _ [14, 9, 10, 6, 11] (by decide +kernel) (by decide +kernel)
set_option maxRecDepth 20000 in
theorem gX9_fewest_X9_isMinutes : GoodIn wsX9_fewest (va_wsS RX9 155 yX9_isMinutes wsX9_isMinutes) := goodIn_app (goodIn_of _ (by decide +kernel)) ggX9_fewest_X9_isMinutes
set_option maxRecDepth 20000 in
theorem ggX9_fewest_X9_finds : GoodIn wsX9_fewest wsX9_finds := goodIn_r _ [18, 19, 1, 96, 97, 98, 99, 100, 101, 102, 103, 104, 105, 106, 107, 108, 109, 110, 111, 112, 113, 114, 115] (by decide +kernel) (by decide +kernel)
set_option maxRecDepth 20000 in
theorem gX9_fewest_X9_finds : GoodIn wsX9_fewest (wsV RX9 64 RX9 yX9_finds wsX9_finds) := goodIn_app (goodIn_of _ (by decide +kernel)) ggX9_fewest_X9_finds
set_option maxRecDepth 20000 in
theorem ggX9_fewest_X9_fewestOf : GoodIn wsX9_fewest wsX9_fewestOf := goodIn_r _ [23, 24, 25, 26, 27, 6, 28, 29, 8, 30, 31, 32, 33, 34, 35, 36, 37, 38, 39, 40, 41, 42, 43, 44, 45, 46, 47, 48, 49, 50, 51, 52, 53, 54, 55, 56, 57, 58, 59, 60, 61, 62, 63, 64, 65, 66, 67, 68, 69, 70, 71, 72, 73, 74, 75, 76, 77, 78, 79, 80, 81, 82, 83, 84, 85, 86, 87, 88, 89, 90, 91, 92, 93, 94, 95, 96, 97, 98, 99, 100, 101, 102, 103, 104, 105, 106, 107, 108, 109, 110, 111, 112, 113, 114, 115] (by decide +kernel) (by decide +kernel)
set_option maxRecDepth 20000 in
theorem gX9_fewest_X9_fewestOf : GoodIn wsX9_fewest (wsV RX9 158 RX9 yX9_fewestOf wsX9_fewestOf) := goodIn_app (goodIn_of _ (by decide +kernel)) ggX9_fewest_X9_fewestOf
theorem dX9_fewest_0 : decode cX9_fewest 0 = .ok (.aload_n 0, 1) := by decide +kernel
theorem dX9_fewest_1 : decode cX9_fewest 1 = .ok (.iload_n 1, 1) := by decide +kernel
theorem dX9_fewest_2 : decode cX9_fewest 2 = .ok (.invokevirtual 97, 3) := by decide +kernel
theorem dX9_fewest_5 : decode cX9_fewest 5 = .ok (.ifCond .eq 10, 3) := by decide +kernel
theorem dX9_fewest_8 : decode cX9_fewest 8 = .ok (.iload_n 2, 1) := by decide +kernel
theorem dX9_fewest_9 : decode cX9_fewest 9 = .ok (.invokestatic 155, 3) := by decide +kernel
theorem dX9_fewest_12 : decode cX9_fewest 12 = .ok (.ifCond .ne 10, 3) := by decide +kernel
theorem dX9_fewest_15 : decode cX9_fewest 15 = .ok (.aload_n 0, 1) := by decide +kernel
theorem dX9_fewest_16 : decode cX9_fewest 16 = .ok (.ldc 48, 2) := by decide +kernel
theorem dX9_fewest_18 : decode cX9_fewest 18 = .ok (.invokevirtual 64, 3) := by decide +kernel
theorem dX9_fewest_21 : decode cX9_fewest 21 = .ok (.ireturn, 1) := by decide +kernel
theorem dX9_fewest_22 : decode cX9_fewest 22 = .ok (.aload_n 0, 1) := by decide +kernel
theorem dX9_fewest_23 : decode cX9_fewest 23 = .ok (.iload_n 1, 1) := by decide +kernel
theorem dX9_fewest_24 : decode cX9_fewest 24 = .ok (.iload_n 2, 1) := by decide +kernel
theorem dX9_fewest_25 : decode cX9_fewest 25 = .ok (.invokevirtual 158, 3) := by decide +kernel
theorem dX9_fewest_28 : decode cX9_fewest 28 = .ok (.istore_n 3, 1) := by decide +kernel
theorem dX9_fewest_29 : decode cX9_fewest 29 = .ok (.iload_n 3, 1) := by decide +kernel
theorem dX9_fewest_30 : decode cX9_fewest 30 = .ok (.ifCond .ge 12, 3) := by decide +kernel
theorem dX9_fewest_33 : decode cX9_fewest 33 = .ok (.aload_n 0, 1) := by decide +kernel
theorem dX9_fewest_34 : decode cX9_fewest 34 = .ok (.ldc 103, 2) := by decide +kernel
theorem dX9_fewest_36 : decode cX9_fewest 36 = .ok (.invokevirtual 64, 3) := by decide +kernel
theorem dX9_fewest_39 : decode cX9_fewest 39 = .ok (.goto 4, 3) := by decide +kernel
theorem dX9_fewest_42 : decode cX9_fewest 42 = .ok (.iload_n 3, 1) := by decide +kernel
theorem dX9_fewest_43 : decode cX9_fewest 43 = .ok (.ireturn, 1) := by decide +kernel
set_option maxRecDepth 20000 in
theorem ggX9_ith_X9_isCandle : GoodIn wsX9_ith wsX9_isCandle := goodIn_r _ [8, 9, 10, 11, 7, 12, 96, 97, 98, 99, 100, 101, 102, 103, 104, 105, 106, 107, 108, 109, 110, 111, 112, 113, 114, 115] (by decide +kernel) (by decide +kernel)
set_option maxRecDepth 20000 in
theorem gX9_ith_X9_isCandle : GoodIn wsX9_ith (wsV RX9 97 RX9 yX9_isCandle wsX9_isCandle) := goodIn_app (goodIn_of _ (by decide +kernel)) ggX9_ith_X9_isCandle
set_option maxRecDepth 20000 in
theorem ggX9_ith_X9_isMinutes : GoodIn wsX9_ith wsX9_isMinutes := goodIn_r _ [15, 10, 11, 7, 12] (by decide +kernel) (by decide +kernel)
set_option maxRecDepth 20000 in
theorem gX9_ith_X9_isMinutes : GoodIn wsX9_ith (va_wsS RX9 155 yX9_isMinutes wsX9_isMinutes) := goodIn_app (goodIn_of _ (by decide +kernel)) ggX9_ith_X9_isMinutes
set_option maxRecDepth 20000 in
theorem ggX9_ith_X9_in : GoodIn wsX9_ith wsX9_in := goodIn_r _ [12] (by decide +kernel) (by decide +kernel)
set_option maxRecDepth 20000 in
theorem gX9_ith_X9_in : GoodIn wsX9_ith (va_wsS RX9 49 yX9_in wsX9_in) := goodIn_app (goodIn_of _ (by decide +kernel)) ggX9_ith_X9_in
set_option maxRecDepth 20000 in
theorem ggX9_ith_X9_finds : GoodIn wsX9_ith wsX9_finds := goodIn_r _ [19, 20, 1, 96, 97, 98, 99, 100, 101, 102, 103, 104, 105, 106, 107, 108, 109, 110, 111, 112, 113, 114, 115] (by decide +kernel) (by decide +kernel)
set_option maxRecDepth 20000 in
theorem gX9_ith_X9_finds : GoodIn wsX9_ith (wsV RX9 64 RX9 yX9_finds wsX9_finds) := goodIn_app (goodIn_of _ (by decide +kernel)) ggX9_ith_X9_finds
set_option maxRecDepth 20000 in
theorem ggX9_ith_X9_fewestOf : GoodIn wsX9_ith wsX9_fewestOf := goodIn_r _ [24, 3, 25, 26, 27, 7, 28, 29, 9, 30, 31, 32, 33, 34, 35, 36, 37, 38, 39, 40, 41, 42, 43, 44, 45, 46, 47, 48, 49, 50, 51, 52, 53, 54, 55, 56, 57, 58, 59, 60, 61, 62, 63, 64, 65, 66, 67, 68, 69, 70, 71, 72, 73, 74, 75, 76, 77, 78, 79, 80, 81, 82, 83, 84, 85, 86, 87, 88, 89, 90, 91, 92, 93, 94, 95, 96, 97, 98, 99, 100, 101, 102, 103, 104, 105, 106, 107, 108, 109, 110, 111, 112, 113, 114, 115] (by decide +kernel) (by decide +kernel)
set_option maxRecDepth 20000 in
theorem gX9_ith_X9_fewestOf : GoodIn wsX9_ith (wsV RX9 158 RX9 yX9_fewestOf wsX9_fewestOf) := goodIn_app (goodIn_of _ (by decide +kernel)) ggX9_ith_X9_fewestOf
theorem dX9_ith_0 : decode cX9_ith 0 = .ok (.aload_n 0, 1) := by decide +kernel
theorem dX9_ith_1 : decode cX9_ith 1 = .ok (.iload_n 1, 1) := by decide +kernel
theorem dX9_ith_2 : decode cX9_ith 2 = .ok (.invokevirtual 97, 3) := by decide +kernel
theorem dX9_ith_5 : decode cX9_ith 5 = .ok (.ifCond .eq 19, 3) := by decide +kernel
theorem dX9_ith_8 : decode cX9_ith 8 = .ok (.iload_n 2, 1) := by decide +kernel
theorem dX9_ith_9 : decode cX9_ith 9 = .ok (.invokestatic 155, 3) := by decide +kernel
theorem dX9_ith_12 : decode cX9_ith 12 = .ok (.ifCond .eq 12, 3) := by decide +kernel
theorem dX9_ith_15 : decode cX9_ith 15 = .ok (.iload_n 3, 1) := by decide +kernel
theorem dX9_ith_16 : decode cX9_ith 16 = .ok (.iconst 0, 1) := by decide +kernel
theorem dX9_ith_17 : decode cX9_ith 17 = .ok (.iconst 5, 1) := by decide +kernel
theorem dX9_ith_18 : decode cX9_ith 18 = .ok (.invokestatic 49, 3) := by decide +kernel
theorem dX9_ith_21 : decode cX9_ith 21 = .ok (.ifCond .ne 10, 3) := by decide +kernel
theorem dX9_ith_24 : decode cX9_ith 24 = .ok (.aload_n 0, 1) := by decide +kernel
theorem dX9_ith_25 : decode cX9_ith 25 = .ok (.ldc 48, 2) := by decide +kernel
theorem dX9_ith_27 : decode cX9_ith 27 = .ok (.invokevirtual 64, 3) := by decide +kernel
theorem dX9_ith_30 : decode cX9_ith 30 = .ok (.ireturn, 1) := by decide +kernel
theorem dX9_ith_31 : decode cX9_ith 31 = .ok (.aload_n 0, 1) := by decide +kernel
theorem dX9_ith_32 : decode cX9_ith 32 = .ok (.iload_n 1, 1) := by decide +kernel
theorem dX9_ith_33 : decode cX9_ith 33 = .ok (.iload_n 2, 1) := by decide +kernel
theorem dX9_ith_34 : decode cX9_ith 34 = .ok (.invokevirtual 158, 3) := by decide +kernel
theorem dX9_ith_37 : decode cX9_ith 37 = .ok (.istore 4, 2) := by decide +kernel
theorem dX9_ith_39 : decode cX9_ith 39 = .ok (.iload 4, 2) := by decide +kernel
theorem dX9_ith_41 : decode cX9_ith 41 = .ok (.iload_n 3, 1) := by decide +kernel
theorem dX9_ith_42 : decode cX9_ith 42 = .ok (.if_icmp .gt 12, 3) := by decide +kernel
theorem dX9_ith_45 : decode cX9_ith 45 = .ok (.aload_n 0, 1) := by decide +kernel
theorem dX9_ith_46 : decode cX9_ith 46 = .ok (.ldc 103, 2) := by decide +kernel
theorem dX9_ith_48 : decode cX9_ith 48 = .ok (.invokevirtual 64, 3) := by decide +kernel
theorem dX9_ith_51 : decode cX9_ith 51 = .ok (.goto 18, 3) := by decide +kernel
theorem dX9_ith_54 : decode cX9_ith 54 = .ok (.aload_n 0, 1) := by decide +kernel
theorem dX9_ith_55 : decode cX9_ith 55 = .ok (.getfield 148, 3) := by decide +kernel
theorem dX9_ith_58 : decode cX9_ith 58 = .ok (.iconst 2, 1) := by decide +kernel
theorem dX9_ith_59 : decode cX9_ith 59 = .ok (.iload 4, 2) := by decide +kernel
theorem dX9_ith_61 : decode cX9_ith 61 = .ok (.iconst 1, 1) := by decide +kernel
theorem dX9_ith_62 : decode cX9_ith 62 = .ok (.isub, 1) := by decide +kernel
theorem dX9_ith_63 : decode cX9_ith 63 = .ok (.iload_n 3, 1) := by decide +kernel
theorem dX9_ith_64 : decode cX9_ith 64 = .ok (.isub, 1) := by decide +kernel
theorem dX9_ith_65 : decode cX9_ith 65 = .ok (.imul, 1) := by decide +kernel
theorem dX9_ith_66 : decode cX9_ith 66 = .ok (.ishr, 1) := by decide +kernel
theorem dX9_ith_67 : decode cX9_ith 67 = .ok (.iconst 3, 1) := by decide +kernel
theorem dX9_ith_68 : decode cX9_ith 68 = .ok (.iand, 1) := by decide +kernel
theorem dX9_ith_69 : decode cX9_ith 69 = .ok (.ireturn, 1) := by decide +kernel
set_option maxRecDepth 20000 in
theorem ggX9_ways_X9_isCandle : GoodIn wsX9_ways wsX9_isCandle := goodIn_r _ [6, 7, 8, 9, 5, 10, 86, 87, 88, 89, 90, 91, 92, 93, 94, 95, 96, 97, 98, 99, 100, 101, 102, 103, 104, 105] (by decide +kernel) (by decide +kernel)
set_option maxRecDepth 20000 in
theorem gX9_ways_X9_isCandle : GoodIn wsX9_ways (wsV RX9 97 RX9 yX9_isCandle wsX9_isCandle) := goodIn_app (goodIn_of _ (by decide +kernel)) ggX9_ways_X9_isCandle
set_option maxRecDepth 20000 in
theorem ggX9_ways_X9_isMinutes : GoodIn wsX9_ways wsX9_isMinutes := goodIn_r _ [13, 8, 9, 5, 10] (by decide +kernel) (by decide +kernel)
set_option maxRecDepth 20000 in
theorem gX9_ways_X9_isMinutes : GoodIn wsX9_ways (va_wsS RX9 155 yX9_isMinutes wsX9_isMinutes) := goodIn_app (goodIn_of _ (by decide +kernel)) ggX9_ways_X9_isMinutes
set_option maxRecDepth 20000 in
theorem ggX9_ways_X9_in : GoodIn wsX9_ways wsX9_in := goodIn_r _ [10] (by decide +kernel) (by decide +kernel)
set_option maxRecDepth 20000 in
theorem gX9_ways_X9_in : GoodIn wsX9_ways (va_wsS RX9 49 yX9_in wsX9_in) := goodIn_app (goodIn_of _ (by decide +kernel)) ggX9_ways_X9_in
set_option maxRecDepth 20000 in
theorem ggX9_ways_X9_finds : GoodIn wsX9_ways wsX9_finds := goodIn_r _ [17, 18, 1, 86, 87, 88, 89, 90, 91, 92, 93, 94, 95, 96, 97, 98, 99, 100, 101, 102, 103, 104, 105] (by decide +kernel) (by decide +kernel)
set_option maxRecDepth 20000 in
theorem gX9_ways_X9_finds : GoodIn wsX9_ways (wsV RX9 64 RX9 yX9_finds wsX9_finds) := goodIn_app (goodIn_of _ (by decide +kernel)) ggX9_ways_X9_finds
set_option maxRecDepth 20000 in
theorem ggX9_ways_X9_keeps : GoodIn wsX9_ways wsX9_keeps := goodIn_r _ [22, 23, 7, 24, 25, 5, 26, 86, 87, 88, 89, 90, 91, 92, 93, 94, 95, 96, 97, 98, 99, 100, 101, 102, 103, 104, 105] (by decide +kernel) (by decide +kernel)
set_option maxRecDepth 20000 in
theorem gX9_ways_X9_keeps : GoodIn wsX9_ways (wsV RX9 135 RX9 yX9_keeps wsX9_keeps) := goodIn_app (goodIn_of _ (by decide +kernel)) ggX9_ways_X9_keeps
set_option maxRecDepth 20000 in
theorem ggX9_ways_X9_dipRow : GoodIn wsX9_ways wsX9_dipRow := goodIn_r _ [30, 31, 32, 33, 5, 34, 7, 35, 36, 37, 38, 24, 25, 26, 39, 40, 41, 42, 43, 44, 45, 46, 47, 48, 49, 50, 51, 52, 53, 54, 55, 56, 57, 58, 59, 60, 61, 62, 63, 64, 65, 66, 67, 68, 69, 70, 86, 87, 88, 89, 90, 91, 92, 93, 94, 95, 96, 97, 98, 99, 100, 101, 102, 103, 104, 105] (by decide +kernel) (by decide +kernel)
set_option maxRecDepth 20000 in
theorem gX9_ways_X9_dipRow : GoodIn wsX9_ways (wsV RX9 145 RX9 yX9_dipRow wsX9_dipRow) := goodIn_app (goodIn_of _ (by decide +kernel)) ggX9_ways_X9_dipRow
set_option maxRecDepth 20000 in
theorem ggX9_ways_X9_burnsOf : GoodIn wsX9_ways wsX9_burnsOf := goodIn_r _ [74, 75, 76, 77, 5, 78, 35, 36, 37, 38, 7, 24, 25, 26, 62, 63, 64, 65, 50, 51, 52, 53, 79, 80, 81, 86, 87, 88, 89, 90, 91, 92, 93, 94, 95, 96, 97, 98, 99, 100, 101, 102, 103, 104, 105] (by decide +kernel) (by decide +kernel)
set_option maxRecDepth 20000 in
theorem gX9_ways_X9_burnsOf : GoodIn wsX9_ways (wsV RX9 100 RX9 yX9_burnsOf wsX9_burnsOf) := goodIn_app (goodIn_of _ (by decide +kernel)) ggX9_ways_X9_burnsOf
set_option maxRecDepth 20000 in
theorem ggX9_ways_X9_putsBack : GoodIn wsX9_ways wsX9_putsBack := goodIn_r _ [85, 7, 23, 24, 25, 5, 26, 86, 87, 88, 89, 90, 91, 92, 93, 94, 95, 96, 97, 98, 99, 100, 101, 102, 103, 104, 105] (by decide +kernel) (by decide +kernel)
set_option maxRecDepth 20000 in
theorem gX9_ways_X9_putsBack : GoodIn wsX9_ways (wsV RX9 142 RX9 yX9_putsBack wsX9_putsBack) := goodIn_app (goodIn_of _ (by decide +kernel)) ggX9_ways_X9_putsBack
