theorem dX0_init_0 : decode cX0_init 0 = .ok (.aload_n 0, 1) := by decide +kernel
theorem dX0_init_1 : decode cX0_init 1 = .ok (.invokespecial 3, 3) := by decide +kernel
theorem dX0_init_4 : decode cX0_init 4 = .ok (.aload_n 0, 1) := by decide +kernel
theorem dX0_init_5 : decode cX0_init 5 = .ok (.bipush 40, 2) := by decide +kernel
theorem dX0_init_7 : decode cX0_init 7 = .ok (.newarray .int, 2) := by decide +kernel
theorem dX0_init_9 : decode cX0_init 9 = .ok (.putfield 9, 3) := by decide +kernel
theorem dX0_init_12 : decode cX0_init 12 = .ok (.return_, 1) := by decide +kernel
theorem dX0_become_0 : decode cX0_become 0 = .ok (.aload_n 0, 1) := by decide +kernel
theorem dX0_become_1 : decode cX0_become 1 = .ok (.aload_n 1, 1) := by decide +kernel
theorem dX0_become_2 : decode cX0_become 2 = .ok (.getfield 15, 3) := by decide +kernel
theorem dX0_become_5 : decode cX0_become 5 = .ok (.putfield 15, 3) := by decide +kernel
theorem dX0_become_8 : decode cX0_become 8 = .ok (.aload_n 0, 1) := by decide +kernel
theorem dX0_become_9 : decode cX0_become 9 = .ok (.aload_n 1, 1) := by decide +kernel
theorem dX0_become_10 : decode cX0_become 10 = .ok (.getfield 19, 3) := by decide +kernel
theorem dX0_become_13 : decode cX0_become 13 = .ok (.putfield 19, 3) := by decide +kernel
theorem dX0_become_16 : decode cX0_become 16 = .ok (.aload_n 0, 1) := by decide +kernel
theorem dX0_become_17 : decode cX0_become 17 = .ok (.aload_n 1, 1) := by decide +kernel
theorem dX0_become_18 : decode cX0_become 18 = .ok (.getfield 22, 3) := by decide +kernel
theorem dX0_become_21 : decode cX0_become 21 = .ok (.putfield 22, 3) := by decide +kernel
theorem dX0_become_24 : decode cX0_become 24 = .ok (.aload_n 0, 1) := by decide +kernel
theorem dX0_become_25 : decode cX0_become 25 = .ok (.aload_n 1, 1) := by decide +kernel
theorem dX0_become_26 : decode cX0_become 26 = .ok (.getfield 25, 3) := by decide +kernel
theorem dX0_become_29 : decode cX0_become 29 = .ok (.putfield 25, 3) := by decide +kernel
theorem dX0_become_32 : decode cX0_become 32 = .ok (.aload_n 1, 1) := by decide +kernel
theorem dX0_become_33 : decode cX0_become 33 = .ok (.getfield 9, 3) := by decide +kernel
theorem dX0_become_36 : decode cX0_become 36 = .ok (.iconst 0, 1) := by decide +kernel
theorem dX0_become_37 : decode cX0_become 37 = .ok (.aload_n 0, 1) := by decide +kernel
theorem dX0_become_38 : decode cX0_become 38 = .ok (.getfield 9, 3) := by decide +kernel
theorem dX0_become_41 : decode cX0_become 41 = .ok (.iconst 0, 1) := by decide +kernel
theorem dX0_become_42 : decode cX0_become 42 = .ok (.aload_n 0, 1) := by decide +kernel
theorem dX0_become_43 : decode cX0_become 43 = .ok (.getfield 19, 3) := by decide +kernel
theorem dX0_become_46 : decode cX0_become 46 = .ok (.invokestatic 28, 3) := by decide +kernel
theorem dX0_become_49 : decode cX0_become 49 = .ok (.return_, 1) := by decide +kernel
theorem dX0_strip_0 : decode cX0_strip 0 = .ok (.aload_n 0, 1) := by decide +kernel
theorem dX0_strip_1 : decode cX0_strip 1 = .ok (.iconst 0, 1) := by decide +kernel
theorem dX0_strip_2 : decode cX0_strip 2 = .ok (.putfield 19, 3) := by decide +kernel
theorem dX0_strip_5 : decode cX0_strip 5 = .ok (.aload_n 0, 1) := by decide +kernel
theorem dX0_strip_6 : decode cX0_strip 6 = .ok (.iconst 0, 1) := by decide +kernel
theorem dX0_strip_7 : decode cX0_strip 7 = .ok (.putfield 22, 3) := by decide +kernel
theorem dX0_strip_10 : decode cX0_strip 10 = .ok (.aload_n 0, 1) := by decide +kernel
theorem dX0_strip_11 : decode cX0_strip 11 = .ok (.iconst 0, 1) := by decide +kernel
theorem dX0_strip_12 : decode cX0_strip 12 = .ok (.putfield 25, 3) := by decide +kernel
theorem dX0_strip_15 : decode cX0_strip 15 = .ok (.return_, 1) := by decide +kernel
theorem dX0_grams_0 : decode cX0_grams 0 = .ok (.aload_n 0, 1) := by decide +kernel
theorem dX0_grams_1 : decode cX0_grams 1 = .ok (.getfield 22, 3) := by decide +kernel
theorem dX0_grams_4 : decode cX0_grams 4 = .ok (.aload_n 0, 1) := by decide +kernel
theorem dX0_grams_5 : decode cX0_grams 5 = .ok (.getfield 25, 3) := by decide +kernel
theorem dX0_grams_8 : decode cX0_grams 8 = .ok (.iadd, 1) := by decide +kernel
theorem dX0_grams_9 : decode cX0_grams 9 = .ok (.ireturn, 1) := by decide +kernel
theorem dX0_isThick_0 : decode cX0_isThick 0 = .ok (.aload_n 0, 1) := by decide +kernel
theorem dX0_isThick_1 : decode cX0_isThick 1 = .ok (.getfield 19, 3) := by decide +kernel
theorem dX0_isThick_4 : decode cX0_isThick 4 = .ok (.bipush 40, 2) := by decide +kernel
theorem dX0_isThick_6 : decode cX0_isThick 6 = .ok (.if_icmp .lt 7, 3) := by decide +kernel
theorem dX0_isThick_9 : decode cX0_isThick 9 = .ok (.iconst 1, 1) := by decide +kernel
theorem dX0_isThick_10 : decode cX0_isThick 10 = .ok (.goto 4, 3) := by decide +kernel
theorem dX0_isThick_13 : decode cX0_isThick 13 = .ok (.iconst 0, 1) := by decide +kernel
theorem dX0_isThick_14 : decode cX0_isThick 14 = .ok (.ireturn, 1) := by decide +kernel
set_option maxRecDepth 20000 in
theorem ggX0_gain_X8_plainGain : GoodIn wsX0_gain wsX8_plainGain := goodIn_r _ [5] (by decide +kernel) (by decide +kernel)
set_option maxRecDepth 20000 in
theorem gX0_gain_X8_plainGain_n34 : GoodIn wsX0_gain (wsX8_plainGain) := ggX0_gain_X8_plainGain
set_option maxRecDepth 20000 in
theorem ggX0_gain_X8_altarGain : GoodIn wsX0_gain wsX8_altarGain := goodIn_r _ [7] (by decide +kernel) (by decide +kernel)
set_option maxRecDepth 20000 in
theorem gX0_gain_X8_altarGain_n38 : GoodIn wsX0_gain (wsX8_altarGain) := ggX0_gain_X8_altarGain
set_option maxRecDepth 20000 in
theorem ggX0_gain_X8_moreIfAny : GoodIn wsX0_gain wsX8_moreIfAny := goodIn_r _ [9] (by decide +kernel) (by decide +kernel)
set_option maxRecDepth 20000 in
theorem gX0_gain_X8_moreIfAny_n41 : GoodIn wsX0_gain (wsX8_moreIfAny) := ggX0_gain_X8_moreIfAny
theorem dX0_gain_0 : decode cX0_gain 0 = .ok (.iload_n 1, 1) := by decide +kernel
theorem dX0_gain_1 : decode cX0_gain 1 = .ok (.invokestatic 34, 3) := by decide +kernel
theorem dX0_gain_4 : decode cX0_gain 4 = .ok (.istore_n 2, 1) := by decide +kernel
theorem dX0_gain_5 : decode cX0_gain 5 = .ok (.aload_n 0, 1) := by decide +kernel
theorem dX0_gain_6 : decode cX0_gain 6 = .ok (.getfield 15, 3) := by decide +kernel
theorem dX0_gain_9 : decode cX0_gain 9 = .ok (.tableswitch 79 1 5 #[35, 39, 44, 59, 68], 35) := by decide +kernel
theorem dX0_gain_44 : decode cX0_gain 44 = .ok (.iconst 3, 1) := by decide +kernel
theorem dX0_gain_45 : decode cX0_gain 45 = .ok (.iload_n 2, 1) := by decide +kernel
theorem dX0_gain_46 : decode cX0_gain 46 = .ok (.imul, 1) := by decide +kernel
theorem dX0_gain_47 : decode cX0_gain 47 = .ok (.ireturn, 1) := by decide +kernel
theorem dX0_gain_48 : decode cX0_gain 48 = .ok (.iload_n 2, 1) := by decide +kernel
theorem dX0_gain_49 : decode cX0_gain 49 = .ok (.invokestatic 38, 3) := by decide +kernel
theorem dX0_gain_52 : decode cX0_gain 52 = .ok (.ireturn, 1) := by decide +kernel
theorem dX0_gain_53 : decode cX0_gain 53 = .ok (.aload_n 0, 1) := by decide +kernel
theorem dX0_gain_54 : decode cX0_gain 54 = .ok (.getfield 19, 3) := by decide +kernel
theorem dX0_gain_57 : decode cX0_gain 57 = .ok (.ifCond .ne 7, 3) := by decide +kernel
theorem dX0_gain_60 : decode cX0_gain 60 = .ok (.iload_n 2, 1) := by decide +kernel
theorem dX0_gain_61 : decode cX0_gain 61 = .ok (.goto 6, 3) := by decide +kernel
theorem dX0_gain_64 : decode cX0_gain 64 = .ok (.iload_n 2, 1) := by decide +kernel
theorem dX0_gain_65 : decode cX0_gain 65 = .ok (.iconst 2, 1) := by decide +kernel
theorem dX0_gain_66 : decode cX0_gain 66 = .ok (.idiv, 1) := by decide +kernel
theorem dX0_gain_67 : decode cX0_gain 67 = .ok (.ireturn, 1) := by decide +kernel
theorem dX0_gain_68 : decode cX0_gain 68 = .ok (.iload_n 2, 1) := by decide +kernel
theorem dX0_gain_69 : decode cX0_gain 69 = .ok (.invokestatic 38, 3) := by decide +kernel
theorem dX0_gain_72 : decode cX0_gain 72 = .ok (.iconst 5, 1) := by decide +kernel
theorem dX0_gain_73 : decode cX0_gain 73 = .ok (.invokestatic 41, 3) := by decide +kernel
theorem dX0_gain_76 : decode cX0_gain 76 = .ok (.ireturn, 1) := by decide +kernel
theorem dX0_gain_77 : decode cX0_gain 77 = .ok (.iconst 3, 1) := by decide +kernel
theorem dX0_gain_78 : decode cX0_gain 78 = .ok (.iload_n 2, 1) := by decide +kernel
theorem dX0_gain_79 : decode cX0_gain 79 = .ok (.imul, 1) := by decide +kernel
theorem dX0_gain_80 : decode cX0_gain 80 = .ok (.aload_n 0, 1) := by decide +kernel
theorem dX0_gain_81 : decode cX0_gain 81 = .ok (.getfield 19, 3) := by decide +kernel
theorem dX0_gain_84 : decode cX0_gain 84 = .ok (.invokestatic 41, 3) := by decide +kernel
theorem dX0_gain_87 : decode cX0_gain 87 = .ok (.ireturn, 1) := by decide +kernel
theorem dX0_gain_88 : decode cX0_gain 88 = .ok (.iload_n 2, 1) := by decide +kernel
theorem dX0_gain_89 : decode cX0_gain 89 = .ok (.ireturn, 1) := by decide +kernel
theorem dX0_minutes_0 : decode cX0_minutes 0 = .ok (.iconst 3, 1) := by decide +kernel
theorem dX0_minutes_1 : decode cX0_minutes 1 = .ok (.aload_n 0, 1) := by decide +kernel
theorem dX0_minutes_2 : decode cX0_minutes 2 = .ok (.getfield 22, 3) := by decide +kernel
theorem dX0_minutes_5 : decode cX0_minutes 5 = .ok (.imul, 1) := by decide +kernel
theorem dX0_minutes_6 : decode cX0_minutes 6 = .ok (.iconst 5, 1) := by decide +kernel
theorem dX0_minutes_7 : decode cX0_minutes 7 = .ok (.aload_n 0, 1) := by decide +kernel
theorem dX0_minutes_8 : decode cX0_minutes 8 = .ok (.getfield 25, 3) := by decide +kernel
theorem dX0_minutes_11 : decode cX0_minutes 11 = .ok (.imul, 1) := by decide +kernel
theorem dX0_minutes_12 : decode cX0_minutes 12 = .ok (.iadd, 1) := by decide +kernel
theorem dX0_minutes_13 : decode cX0_minutes 13 = .ok (.istore_n 1, 1) := by decide +kernel
theorem dX0_minutes_14 : decode cX0_minutes 14 = .ok (.aload_n 0, 1) := by decide +kernel
theorem dX0_minutes_15 : decode cX0_minutes 15 = .ok (.getfield 15, 3) := by decide +kernel
theorem dX0_minutes_18 : decode cX0_minutes 18 = .ok (.tableswitch 62 1 5 #[34, 38, 45, 52, 34], 34) := by decide +kernel
theorem dX0_minutes_52 : decode cX0_minutes 52 = .ok (.iload_n 1, 1) := by decide +kernel
theorem dX0_minutes_53 : decode cX0_minutes 53 = .ok (.iconst 3, 1) := by decide +kernel
theorem dX0_minutes_54 : decode cX0_minutes 54 = .ok (.idiv, 1) := by decide +kernel
theorem dX0_minutes_55 : decode cX0_minutes 55 = .ok (.ireturn, 1) := by decide +kernel
theorem dX0_minutes_56 : decode cX0_minutes 56 = .ok (.iload_n 1, 1) := by decide +kernel
theorem dX0_minutes_57 : decode cX0_minutes 57 = .ok (.iload_n 1, 1) := by decide +kernel
theorem dX0_minutes_58 : decode cX0_minutes 58 = .ok (.bipush 10, 2) := by decide +kernel
theorem dX0_minutes_60 : decode cX0_minutes 60 = .ok (.idiv, 1) := by decide +kernel
theorem dX0_minutes_61 : decode cX0_minutes 61 = .ok (.iadd, 1) := by decide +kernel
theorem dX0_minutes_62 : decode cX0_minutes 62 = .ok (.ireturn, 1) := by decide +kernel
theorem dX0_minutes_63 : decode cX0_minutes 63 = .ok (.iload_n 1, 1) := by decide +kernel
theorem dX0_minutes_64 : decode cX0_minutes 64 = .ok (.bipush 60, 2) := by decide +kernel
theorem dX0_minutes_66 : decode cX0_minutes 66 = .ok (.invokestatic 45, 3) := by decide +kernel
theorem dX0_minutes_69 : decode cX0_minutes 69 = .ok (.ireturn, 1) := by decide +kernel
theorem dX0_minutes_70 : decode cX0_minutes 70 = .ok (.iload_n 1, 1) := by decide +kernel
theorem dX0_minutes_71 : decode cX0_minutes 71 = .ok (.iload_n 1, 1) := by decide +kernel
theorem dX0_minutes_72 : decode cX0_minutes 72 = .ok (.bipush 10, 2) := by decide +kernel
theorem dX0_minutes_74 : decode cX0_minutes 74 = .ok (.idiv, 1) := by decide +kernel
theorem dX0_minutes_75 : decode cX0_minutes 75 = .ok (.iadd, 1) := by decide +kernel
theorem dX0_minutes_76 : decode cX0_minutes 76 = .ok (.bipush 30, 2) := by decide +kernel
theorem dX0_minutes_78 : decode cX0_minutes 78 = .ok (.iadd, 1) := by decide +kernel
theorem dX0_minutes_79 : decode cX0_minutes 79 = .ok (.ireturn, 1) := by decide +kernel
theorem dX0_minutes_80 : decode cX0_minutes 80 = .ok (.iload_n 1, 1) := by decide +kernel
theorem dX0_minutes_81 : decode cX0_minutes 81 = .ok (.ireturn, 1) := by decide +kernel
set_option maxRecDepth 20000 in
theorem ggX0_dipInto_X0_isThick : GoodIn wsX0_dipInto wsX0_isThick := goodIn_r _ [7, 8, 67, 68, 69, 70, 71] (by decide +kernel) (by decide +kernel)
set_option maxRecDepth 20000 in
theorem gX0_dipInto_X0_isThick : GoodIn wsX0_dipInto (wsV RX0 50 RX0 yX0_isThick wsX0_isThick) := goodIn_app (goodIn_of _ (by decide +kernel)) ggX0_dipInto_X0_isThick
set_option maxRecDepth 20000 in
theorem ggX0_dipInto_X0_gain : GoodIn wsX0_dipInto wsX0_gain := goodIn_r _ [12, 13, 8, 14, 15, 16, 17, 18, 19, 20, 67, 68, 69, 70, 71] (by decide +kernel) (by decide +kernel)
set_option maxRecDepth 20000 in
theorem gX0_dipInto_X0_gain : GoodIn wsX0_dipInto (wsV RX0 59 RX0 yX0_gain wsX0_gain) := goodIn_app (goodIn_of _ (by decide +kernel)) ggX0_dipInto_X0_gain
set_option maxRecDepth 20000 in
theorem ggX0_dipInto_X6_pourOut : GoodIn wsX0_dipInto wsX6_pourOut := goodIn_r _ [25, 26, 27, 28, 29, 30, 63, 64, 65, 66] (by decide +kernel) (by decide +kernel)
set_option maxRecDepth 20000 in
theorem gX0_dipInto_X6_pourOut : GoodIn wsX0_dipInto (wsV RX0 62 RX6 yX6_pourOut wsX6_pourOut) := goodIn_app (goodIn_of _ (by decide +kernel)) ggX0_dipInto_X6_pourOut
set_option maxRecDepth 20000 in
theorem ggX0_dipInto_X0_addLayer : GoodIn wsX0_dipInto wsX0_addLayer := goodIn_r _ [34, 35, 36, 8, 37, 3, 4, 5, 6, 7, 67, 68, 69, 70, 71] (by decide +kernel) (by decide +kernel)
set_option maxRecDepth 20000 in
theorem gX0_dipInto_X0_addLayer : GoodIn wsX0_dipInto (wsV RX0 68 RX0 yX0_addLayer wsX0_addLayer) := goodIn_app (goodIn_of _ (by decide +kernel)) ggX0_dipInto_X0_addLayer
set_option maxRecDepth 20000 in
theorem ggX0_dipInto_X0_loseGrams : GoodIn wsX0_dipInto wsX0_loseGrams := goodIn_r _ [41, 8, 36, 42, 43, 29, 44, 45, 28, 30, 46, 47, 48, 6, 49, 35, 37, 67, 68, 69, 70, 71] (by decide +kernel) (by decide +kernel)
set_option maxRecDepth 20000 in
theorem gX0_dipInto_X0_loseGrams : GoodIn wsX0_dipInto (wsV RX0 72 RX0 yX0_loseGrams wsX0_loseGrams) := goodIn_app (goodIn_of _ (by decide +kernel)) ggX0_dipInto_X0_loseGrams
set_option maxRecDepth 20000 in
theorem ggX0_dipInto_X6_pourIn : GoodIn wsX0_dipInto wsX6_pourIn := goodIn_r _ [53, 54, 26, 27, 28, 29, 30, 63, 64, 65, 66] (by decide +kernel) (by decide +kernel)
set_option maxRecDepth 20000 in
theorem gX0_dipInto_X6_pourIn : GoodIn wsX0_dipInto (wsV RX0 75 RX6 yX6_pourIn wsX6_pourIn) := goodIn_app (goodIn_of _ (by decide +kernel)) ggX0_dipInto_X6_pourIn
set_option maxRecDepth 20000 in
theorem ggX0_dipInto_X6_cool : GoodIn wsX0_dipInto wsX6_cool := goodIn_r _ [58, 59, 60, 61, 29, 62, 63, 64, 65, 66] (by decide +kernel) (by decide +kernel)
set_option maxRecDepth 20000 in
theorem gX0_dipInto_X6_cool : GoodIn wsX0_dipInto (wsV RX0 79 RX6 yX6_cool wsX6_cool) := goodIn_app (goodIn_of _ (by decide +kernel)) ggX0_dipInto_X6_cool
theorem dX0_dipInto_0 : decode cX0_dipInto 0 = .ok (.aload_n 0, 1) := by decide +kernel
theorem dX0_dipInto_1 : decode cX0_dipInto 1 = .ok (.invokevirtual 50, 3) := by decide +kernel
theorem dX0_dipInto_4 : decode cX0_dipInto 4 = .ok (.ifCond .eq 4, 3) := by decide +kernel
theorem dX0_dipInto_7 : decode cX0_dipInto 7 = .ok (.return_, 1) := by decide +kernel
theorem dX0_dipInto_8 : decode cX0_dipInto 8 = .ok (.aload_n 0, 1) := by decide +kernel
theorem dX0_dipInto_9 : decode cX0_dipInto 9 = .ok (.aload_n 1, 1) := by decide +kernel
theorem dX0_dipInto_10 : decode cX0_dipInto 10 = .ok (.getfield 54, 3) := by decide +kernel
theorem dX0_dipInto_13 : decode cX0_dipInto 13 = .ok (.invokevirtual 59, 3) := by decide +kernel
theorem dX0_dipInto_16 : decode cX0_dipInto 16 = .ok (.istore_n 2, 1) := by decide +kernel
theorem dX0_dipInto_17 : decode cX0_dipInto 17 = .ok (.iload_n 2, 1) := by decide +kernel
theorem dX0_dipInto_18 : decode cX0_dipInto 18 = .ok (.ifCond .le 19, 3) := by decide +kernel
theorem dX0_dipInto_21 : decode cX0_dipInto 21 = .ok (.aload_n 0, 1) := by decide +kernel
theorem dX0_dipInto_22 : decode cX0_dipInto 22 = .ok (.aload_n 1, 1) := by decide +kernel
theorem dX0_dipInto_23 : decode cX0_dipInto 23 = .ok (.iload_n 2, 1) := by decide +kernel
theorem dX0_dipInto_24 : decode cX0_dipInto 24 = .ok (.invokevirtual 62, 3) := by decide +kernel
theorem dX0_dipInto_27 : decode cX0_dipInto 27 = .ok (.aload_n 1, 1) := by decide +kernel
theorem dX0_dipInto_28 : decode cX0_dipInto 28 = .ok (.getfield 65, 3) := by decide +kernel
theorem dX0_dipInto_31 : decode cX0_dipInto 31 = .ok (.invokevirtual 68, 3) := by decide +kernel
theorem dX0_dipInto_34 : decode cX0_dipInto 34 = .ok (.goto 13, 3) := by decide +kernel
theorem dX0_dipInto_37 : decode cX0_dipInto 37 = .ok (.aload_n 1, 1) := by decide +kernel
theorem dX0_dipInto_38 : decode cX0_dipInto 38 = .ok (.aload_n 0, 1) := by decide +kernel
theorem dX0_dipInto_39 : decode cX0_dipInto 39 = .ok (.iload_n 2, 1) := by decide +kernel
theorem dX0_dipInto_40 : decode cX0_dipInto 40 = .ok (.ineg, 1) := by decide +kernel
theorem dX0_dipInto_41 : decode cX0_dipInto 41 = .ok (.invokevirtual 72, 3) := by decide +kernel
theorem dX0_dipInto_44 : decode cX0_dipInto 44 = .ok (.invokevirtual 75, 3) := by decide +kernel
theorem dX0_dipInto_47 : decode cX0_dipInto 47 = .ok (.aload_n 1, 1) := by decide +kernel
theorem dX0_dipInto_48 : decode cX0_dipInto 48 = .ok (.iconst 2, 1) := by decide +kernel
theorem dX0_dipInto_49 : decode cX0_dipInto 49 = .ok (.invokevirtual 79, 3) := by decide +kernel
theorem dX0_dipInto_52 : decode cX0_dipInto 52 = .ok (.return_, 1) := by decide +kernel
set_option maxRecDepth 20000 in
theorem ggX0_addLayer_X0_isThick : GoodIn wsX0_addLayer wsX0_isThick := goodIn_r _ [9, 3, 10, 11, 12, 13, 14] (by decide +kernel) (by decide +kernel)
set_option maxRecDepth 20000 in
theorem gX0_addLayer_X0_isThick : GoodIn wsX0_addLayer (wsV RX0 50 RX0 yX0_isThick wsX0_isThick) := goodIn_app (goodIn_of _ (by decide +kernel)) ggX0_addLayer_X0_isThick
theorem dX0_addLayer_0 : decode cX0_addLayer 0 = .ok (.iload_n 1, 1) := by decide +kernel
theorem dX0_addLayer_1 : decode cX0_addLayer 1 = .ok (.ifCond .le 10, 3) := by decide +kernel
theorem dX0_addLayer_4 : decode cX0_addLayer 4 = .ok (.aload_n 0, 1) := by decide +kernel
theorem dX0_addLayer_5 : decode cX0_addLayer 5 = .ok (.invokevirtual 50, 3) := by decide +kernel
theorem dX0_addLayer_8 : decode cX0_addLayer 8 = .ok (.ifCond .eq 4, 3) := by decide +kernel
theorem dX0_addLayer_11 : decode cX0_addLayer 11 = .ok (.return_, 1) := by decide +kernel
theorem dX0_addLayer_12 : decode cX0_addLayer 12 = .ok (.iload_n 2, 1) := by decide +kernel
theorem dX0_addLayer_13 : decode cX0_addLayer 13 = .ok (.ifCond .eq 27, 3) := by decide +kernel
theorem dX0_addLayer_16 : decode cX0_addLayer 16 = .ok (.aload_n 0, 1) := by decide +kernel
theorem dX0_addLayer_17 : decode cX0_addLayer 17 = .ok (.dup, 1) := by decide +kernel
theorem dX0_addLayer_18 : decode cX0_addLayer 18 = .ok (.getfield 25, 3) := by decide +kernel
theorem dX0_addLayer_21 : decode cX0_addLayer 21 = .ok (.iload_n 1, 1) := by decide +kernel
theorem dX0_addLayer_22 : decode cX0_addLayer 22 = .ok (.iadd, 1) := by decide +kernel
theorem dX0_addLayer_23 : decode cX0_addLayer 23 = .ok (.putfield 25, 3) := by decide +kernel
theorem dX0_addLayer_26 : decode cX0_addLayer 26 = .ok (.aload_n 0, 1) := by decide +kernel
theorem dX0_addLayer_27 : decode cX0_addLayer 27 = .ok (.getfield 9, 3) := by decide +kernel
theorem dX0_addLayer_30 : decode cX0_addLayer 30 = .ok (.aload_n 0, 1) := by decide +kernel
theorem dX0_addLayer_31 : decode cX0_addLayer 31 = .ok (.getfield 19, 3) := by decide +kernel
theorem dX0_addLayer_34 : decode cX0_addLayer 34 = .ok (.iload_n 1, 1) := by decide +kernel
theorem dX0_addLayer_35 : decode cX0_addLayer 35 = .ok (.ineg, 1) := by decide +kernel
theorem dX0_addLayer_36 : decode cX0_addLayer 36 = .ok (.iastore, 1) := by decide +kernel
theorem dX0_addLayer_37 : decode cX0_addLayer 37 = .ok (.goto 23, 3) := by decide +kernel
theorem dX0_addLayer_40 : decode cX0_addLayer 40 = .ok (.aload_n 0, 1) := by decide +kernel
theorem dX0_addLayer_41 : decode cX0_addLayer 41 = .ok (.dup, 1) := by decide +kernel
theorem dX0_addLayer_42 : decode cX0_addLayer 42 = .ok (.getfield 22, 3) := by decide +kernel
theorem dX0_addLayer_45 : decode cX0_addLayer 45 = .ok (.iload_n 1, 1) := by decide +kernel
theorem dX0_addLayer_46 : decode cX0_addLayer 46 = .ok (.iadd, 1) := by decide +kernel
theorem dX0_addLayer_47 : decode cX0_addLayer 47 = .ok (.putfield 22, 3) := by decide +kernel
theorem dX0_addLayer_50 : decode cX0_addLayer 50 = .ok (.aload_n 0, 1) := by decide +kernel
theorem dX0_addLayer_51 : decode cX0_addLayer 51 = .ok (.getfield 9, 3) := by decide +kernel
theorem dX0_addLayer_54 : decode cX0_addLayer 54 = .ok (.aload_n 0, 1) := by decide +kernel
theorem dX0_addLayer_55 : decode cX0_addLayer 55 = .ok (.getfield 19, 3) := by decide +kernel
theorem dX0_addLayer_58 : decode cX0_addLayer 58 = .ok (.iload_n 1, 1) := by decide +kernel
theorem dX0_addLayer_59 : decode cX0_addLayer 59 = .ok (.iastore, 1) := by decide +kernel
theorem dX0_addLayer_60 : decode cX0_addLayer 60 = .ok (.aload_n 0, 1) := by decide +kernel
theorem dX0_addLayer_61 : decode cX0_addLayer 61 = .ok (.dup, 1) := by decide +kernel
theorem dX0_addLayer_62 : decode cX0_addLayer 62 = .ok (.getfield 19, 3) := by decide +kernel
theorem dX0_addLayer_65 : decode cX0_addLayer 65 = .ok (.iconst 1, 1) := by decide +kernel
theorem dX0_addLayer_66 : decode cX0_addLayer 66 = .ok (.iadd, 1) := by decide +kernel
theorem dX0_addLayer_67 : decode cX0_addLayer 67 = .ok (.putfield 19, 3) := by decide +kernel
theorem dX0_addLayer_70 : decode cX0_addLayer 70 = .ok (.return_, 1) := by decide +kernel
set_option maxRecDepth 20000 in
theorem ggX0_loseGrams_X0_thin : GoodIn wsX0_loseGrams wsX0_thin := goodIn_r _ [14, 2, 15, 16, 1, 17, 18, 19, 20, 21] (by decide +kernel) (by decide +kernel)
set_option maxRecDepth 20000 in
theorem gX0_loseGrams_X0_thin : GoodIn wsX0_loseGrams (wsV RX0 85 RX0 yX0_thin wsX0_thin) := goodIn_app (goodIn_of _ (by decide +kernel)) ggX0_loseGrams_X0_thin
theorem dX0_loseGrams_0 : decode cX0_loseGrams 0 = .ok (.iconst 0, 1) := by decide +kernel
theorem dX0_loseGrams_1 : decode cX0_loseGrams 1 = .ok (.istore_n 2, 1) := by decide +kernel
theorem dX0_loseGrams_2 : decode cX0_loseGrams 2 = .ok (.aload_n 0, 1) := by decide +kernel
theorem dX0_loseGrams_3 : decode cX0_loseGrams 3 = .ok (.getfield 19, 3) := by decide +kernel
theorem dX0_loseGrams_6 : decode cX0_loseGrams 6 = .ok (.iconst 1, 1) := by decide +kernel
theorem dX0_loseGrams_7 : decode cX0_loseGrams 7 = .ok (.isub, 1) := by decide +kernel
theorem dX0_loseGrams_8 : decode cX0_loseGrams 8 = .ok (.istore_n 3, 1) := by decide +kernel
theorem dX0_loseGrams_9 : decode cX0_loseGrams 9 = .ok (.iload_n 3, 1) := by decide +kernel
theorem dX0_loseGrams_10 : decode cX0_loseGrams 10 = .ok (.ifCond .lt 43, 3) := by decide +kernel
theorem dX0_loseGrams_13 : decode cX0_loseGrams 13 = .ok (.iload_n 2, 1) := by decide +kernel
theorem dX0_loseGrams_14 : decode cX0_loseGrams 14 = .ok (.iload_n 1, 1) := by decide +kernel
theorem dX0_loseGrams_15 : decode cX0_loseGrams 15 = .ok (.if_icmp .ge 38, 3) := by decide +kernel
theorem dX0_loseGrams_18 : decode cX0_loseGrams 18 = .ok (.iload_n 1, 1) := by decide +kernel
theorem dX0_loseGrams_19 : decode cX0_loseGrams 19 = .ok (.iload_n 2, 1) := by decide +kernel
theorem dX0_loseGrams_20 : decode cX0_loseGrams 20 = .ok (.isub, 1) := by decide +kernel
theorem dX0_loseGrams_21 : decode cX0_loseGrams 21 = .ok (.aload_n 0, 1) := by decide +kernel
theorem dX0_loseGrams_22 : decode cX0_loseGrams 22 = .ok (.getfield 9, 3) := by decide +kernel
theorem dX0_loseGrams_25 : decode cX0_loseGrams 25 = .ok (.iload_n 3, 1) := by decide +kernel
theorem dX0_loseGrams_26 : decode cX0_loseGrams 26 = .ok (.iaload, 1) := by decide +kernel
theorem dX0_loseGrams_27 : decode cX0_loseGrams 27 = .ok (.invokestatic 82, 3) := by decide +kernel
theorem dX0_loseGrams_30 : decode cX0_loseGrams 30 = .ok (.invokestatic 45, 3) := by decide +kernel
theorem dX0_loseGrams_33 : decode cX0_loseGrams 33 = .ok (.istore 4, 2) := by decide +kernel
theorem dX0_loseGrams_35 : decode cX0_loseGrams 35 = .ok (.aload_n 0, 1) := by decide +kernel
theorem dX0_loseGrams_36 : decode cX0_loseGrams 36 = .ok (.iload_n 3, 1) := by decide +kernel
theorem dX0_loseGrams_37 : decode cX0_loseGrams 37 = .ok (.iload 4, 2) := by decide +kernel
theorem dX0_loseGrams_39 : decode cX0_loseGrams 39 = .ok (.invokevirtual 85, 3) := by decide +kernel
theorem dX0_loseGrams_42 : decode cX0_loseGrams 42 = .ok (.iload_n 2, 1) := by decide +kernel
theorem dX0_loseGrams_43 : decode cX0_loseGrams 43 = .ok (.iload 4, 2) := by decide +kernel
theorem dX0_loseGrams_45 : decode cX0_loseGrams 45 = .ok (.iadd, 1) := by decide +kernel
theorem dX0_loseGrams_46 : decode cX0_loseGrams 46 = .ok (.istore_n 2, 1) := by decide +kernel
theorem dX0_loseGrams_47 : decode cX0_loseGrams 47 = .ok (.iinc 3 (-1), 3) := by decide +kernel
theorem dX0_loseGrams_50 : decode cX0_loseGrams 50 = .ok (.goto (-41), 3) := by decide +kernel
theorem dX0_loseGrams_53 : decode cX0_loseGrams 53 = .ok (.iload_n 2, 1) := by decide +kernel
theorem dX0_loseGrams_54 : decode cX0_loseGrams 54 = .ok (.ireturn, 1) := by decide +kernel
set_option maxRecDepth 20000 in
theorem ggX0_burnDown_X0_thin : GoodIn wsX0_burnDown wsX0_thin := goodIn_r _ [14, 2, 15, 16, 1, 17, 18, 19, 20, 21] (by decide +kernel) (by decide +kernel)
set_option maxRecDepth 20000 in
theorem gX0_burnDown_X0_thin : GoodIn wsX0_burnDown (wsV RX0 85 RX0 yX0_thin wsX0_thin) := goodIn_app (goodIn_of _ (by decide +kernel)) ggX0_burnDown_X0_thin
theorem dX0_burnDown_0 : decode cX0_burnDown 0 = .ok (.iload_n 1, 1) := by decide +kernel
theorem dX0_burnDown_1 : decode cX0_burnDown 1 = .ok (.istore_n 2, 1) := by decide +kernel
theorem dX0_burnDown_2 : decode cX0_burnDown 2 = .ok (.aload_n 0, 1) := by decide +kernel
theorem dX0_burnDown_3 : decode cX0_burnDown 3 = .ok (.getfield 19, 3) := by decide +kernel
theorem dX0_burnDown_6 : decode cX0_burnDown 6 = .ok (.iconst 1, 1) := by decide +kernel
theorem dX0_burnDown_7 : decode cX0_burnDown 7 = .ok (.isub, 1) := by decide +kernel
theorem dX0_burnDown_8 : decode cX0_burnDown 8 = .ok (.istore_n 3, 1) := by decide +kernel
theorem dX0_burnDown_9 : decode cX0_burnDown 9 = .ok (.iload_n 3, 1) := by decide +kernel
theorem dX0_burnDown_10 : decode cX0_burnDown 10 = .ok (.ifCond .lt 69, 3) := by decide +kernel
theorem dX0_burnDown_13 : decode cX0_burnDown 13 = .ok (.aload_n 0, 1) := by decide +kernel
theorem dX0_burnDown_14 : decode cX0_burnDown 14 = .ok (.getfield 9, 3) := by decide +kernel
theorem dX0_burnDown_17 : decode cX0_burnDown 17 = .ok (.iload_n 3, 1) := by decide +kernel
theorem dX0_burnDown_18 : decode cX0_burnDown 18 = .ok (.iaload, 1) := by decide +kernel
theorem dX0_burnDown_19 : decode cX0_burnDown 19 = .ok (.ifCond .ge 7, 3) := by decide +kernel
theorem dX0_burnDown_22 : decode cX0_burnDown 22 = .ok (.iconst 5, 1) := by decide +kernel
theorem dX0_burnDown_23 : decode cX0_burnDown 23 = .ok (.goto 4, 3) := by decide +kernel
theorem dX0_burnDown_26 : decode cX0_burnDown 26 = .ok (.iconst 3, 1) := by decide +kernel
theorem dX0_burnDown_27 : decode cX0_burnDown 27 = .ok (.istore 4, 2) := by decide +kernel
theorem dX0_burnDown_29 : decode cX0_burnDown 29 = .ok (.iload_n 2, 1) := by decide +kernel
theorem dX0_burnDown_30 : decode cX0_burnDown 30 = .ok (.iload 4, 2) := by decide +kernel
theorem dX0_burnDown_32 : decode cX0_burnDown 32 = .ok (.idiv, 1) := by decide +kernel
theorem dX0_burnDown_33 : decode cX0_burnDown 33 = .ok (.aload_n 0, 1) := by decide +kernel
theorem dX0_burnDown_34 : decode cX0_burnDown 34 = .ok (.getfield 9, 3) := by decide +kernel
theorem dX0_burnDown_37 : decode cX0_burnDown 37 = .ok (.iload_n 3, 1) := by decide +kernel
theorem dX0_burnDown_38 : decode cX0_burnDown 38 = .ok (.iaload, 1) := by decide +kernel
theorem dX0_burnDown_39 : decode cX0_burnDown 39 = .ok (.invokestatic 82, 3) := by decide +kernel
theorem dX0_burnDown_42 : decode cX0_burnDown 42 = .ok (.invokestatic 45, 3) := by decide +kernel
theorem dX0_burnDown_45 : decode cX0_burnDown 45 = .ok (.istore 5, 2) := by decide +kernel
theorem dX0_burnDown_47 : decode cX0_burnDown 47 = .ok (.aload_n 0, 1) := by decide +kernel
theorem dX0_burnDown_48 : decode cX0_burnDown 48 = .ok (.iload_n 3, 1) := by decide +kernel
theorem dX0_burnDown_49 : decode cX0_burnDown 49 = .ok (.iload 5, 2) := by decide +kernel
theorem dX0_burnDown_51 : decode cX0_burnDown 51 = .ok (.invokevirtual 85, 3) := by decide +kernel
theorem dX0_burnDown_54 : decode cX0_burnDown 54 = .ok (.iload_n 2, 1) := by decide +kernel
theorem dX0_burnDown_55 : decode cX0_burnDown 55 = .ok (.iload 5, 2) := by decide +kernel
theorem dX0_burnDown_57 : decode cX0_burnDown 57 = .ok (.iload 4, 2) := by decide +kernel
theorem dX0_burnDown_59 : decode cX0_burnDown 59 = .ok (.imul, 1) := by decide +kernel
theorem dX0_burnDown_60 : decode cX0_burnDown 60 = .ok (.isub, 1) := by decide +kernel
theorem dX0_burnDown_61 : decode cX0_burnDown 61 = .ok (.istore_n 2, 1) := by decide +kernel
theorem dX0_burnDown_62 : decode cX0_burnDown 62 = .ok (.aload_n 0, 1) := by decide +kernel
theorem dX0_burnDown_63 : decode cX0_burnDown 63 = .ok (.getfield 19, 3) := by decide +kernel
theorem dX0_burnDown_66 : decode cX0_burnDown 66 = .ok (.iload_n 3, 1) := by decide +kernel
theorem dX0_burnDown_67 : decode cX0_burnDown 67 = .ok (.if_icmp .le 6, 3) := by decide +kernel
theorem dX0_burnDown_70 : decode cX0_burnDown 70 = .ok (.goto 9, 3) := by decide +kernel
theorem dX0_burnDown_73 : decode cX0_burnDown 73 = .ok (.iinc 3 (-1), 3) := by decide +kernel
theorem dX0_burnDown_76 : decode cX0_burnDown 76 = .ok (.goto (-67), 3) := by decide +kernel
theorem dX0_burnDown_79 : decode cX0_burnDown 79 = .ok (.return_, 1) := by decide +kernel
theorem dX0_thin_0 : decode cX0_thin 0 = .ok (.aload_n 0, 1) := by decide +kernel
theorem dX0_thin_1 : decode cX0_thin 1 = .ok (.getfield 9, 3) := by decide +kernel
theorem dX0_thin_4 : decode cX0_thin 4 = .ok (.iload_n 1, 1) := by decide +kernel
theorem dX0_thin_5 : decode cX0_thin 5 = .ok (.iaload, 1) := by decide +kernel
theorem dX0_thin_6 : decode cX0_thin 6 = .ok (.ifCond .ge 26, 3) := by decide +kernel
theorem dX0_thin_9 : decode cX0_thin 9 = .ok (.aload_n 0, 1) := by decide +kernel
theorem dX0_thin_10 : decode cX0_thin 10 = .ok (.dup, 1) := by decide +kernel
theorem dX0_thin_11 : decode cX0_thin 11 = .ok (.getfield 25, 3) := by decide +kernel
theorem dX0_thin_14 : decode cX0_thin 14 = .ok (.iload_n 2, 1) := by decide +kernel
theorem dX0_thin_15 : decode cX0_thin 15 = .ok (.isub, 1) := by decide +kernel
theorem dX0_thin_16 : decode cX0_thin 16 = .ok (.putfield 25, 3) := by decide +kernel
theorem dX0_thin_19 : decode cX0_thin 19 = .ok (.aload_n 0, 1) := by decide +kernel
theorem dX0_thin_20 : decode cX0_thin 20 = .ok (.getfield 9, 3) := by decide +kernel
theorem dX0_thin_23 : decode cX0_thin 23 = .ok (.iload_n 1, 1) := by decide +kernel
theorem dX0_thin_24 : decode cX0_thin 24 = .ok (.dup2, 1) := by decide +kernel
theorem dX0_thin_25 : decode cX0_thin 25 = .ok (.iaload, 1) := by decide +kernel
theorem dX0_thin_26 : decode cX0_thin 26 = .ok (.iload_n 2, 1) := by decide +kernel
theorem dX0_thin_27 : decode cX0_thin 27 = .ok (.iadd, 1) := by decide +kernel
theorem dX0_thin_28 : decode cX0_thin 28 = .ok (.iastore, 1) := by decide +kernel
theorem dX0_thin_29 : decode cX0_thin 29 = .ok (.goto 23, 3) := by decide +kernel
theorem dX0_thin_32 : decode cX0_thin 32 = .ok (.aload_n 0, 1) := by decide +kernel
theorem dX0_thin_33 : decode cX0_thin 33 = .ok (.dup, 1) := by decide +kernel
theorem dX0_thin_34 : decode cX0_thin 34 = .ok (.getfield 22, 3) := by decide +kernel
theorem dX0_thin_37 : decode cX0_thin 37 = .ok (.iload_n 2, 1) := by decide +kernel
theorem dX0_thin_38 : decode cX0_thin 38 = .ok (.isub, 1) := by decide +kernel
theorem dX0_thin_39 : decode cX0_thin 39 = .ok (.putfield 22, 3) := by decide +kernel
theorem dX0_thin_42 : decode cX0_thin 42 = .ok (.aload_n 0, 1) := by decide +kernel
theorem dX0_thin_43 : decode cX0_thin 43 = .ok (.getfield 9, 3) := by decide +kernel
theorem dX0_thin_46 : decode cX0_thin 46 = .ok (.iload_n 1, 1) := by decide +kernel
theorem dX0_thin_47 : decode cX0_thin 47 = .ok (.dup2, 1) := by decide +kernel
theorem dX0_thin_48 : decode cX0_thin 48 = .ok (.iaload, 1) := by decide +kernel
theorem dX0_thin_49 : decode cX0_thin 49 = .ok (.iload_n 2, 1) := by decide +kernel
theorem dX0_thin_50 : decode cX0_thin 50 = .ok (.isub, 1) := by decide +kernel
theorem dX0_thin_51 : decode cX0_thin 51 = .ok (.iastore, 1) := by decide +kernel
theorem dX0_thin_52 : decode cX0_thin 52 = .ok (.aload_n 0, 1) := by decide +kernel
theorem dX0_thin_53 : decode cX0_thin 53 = .ok (.getfield 9, 3) := by decide +kernel
theorem dX0_thin_56 : decode cX0_thin 56 = .ok (.iload_n 1, 1) := by decide +kernel
theorem dX0_thin_57 : decode cX0_thin 57 = .ok (.iaload, 1) := by decide +kernel
theorem dX0_thin_58 : decode cX0_thin 58 = .ok (.ifCond .ne 8, 3) := by decide +kernel
theorem dX0_thin_61 : decode cX0_thin 61 = .ok (.aload_n 0, 1) := by decide +kernel
theorem dX0_thin_62 : decode cX0_thin 62 = .ok (.iload_n 1, 1) := by decide +kernel
theorem dX0_thin_63 : decode cX0_thin 63 = .ok (.putfield 19, 3) := by decide +kernel
theorem dX0_thin_66 : decode cX0_thin 66 = .ok (.return_, 1) := by decide +kernel
set_option maxRecDepth 20000 in
theorem ggX1_init_X7_init : GoodIn wsX1_init wsX7_init := goodIn_r _ [14, 15, 2, 3, 16, 17, 18, 19, 20, 21, 22, 23, 24, 25, 26, 27, 34, 35, 36, 37, 46, 47, 48, 49] (by decide +kernel) (by decide +kernel)
set_option maxRecDepth 20000 in
theorem gX1_init_X7_init : GoodIn wsX1_init (wsX7_init) := ggX1_init_X7_init
set_option maxRecDepth 20000 in
theorem ggX1_init_X0_init : GoodIn wsX1_init wsX0_init := goodIn_r _ [30, 31, 2, 3, 32, 33, 41, 42, 43, 44, 45] (by decide +kernel) (by decide +kernel)
set_option maxRecDepth 20000 in
theorem gX1_init_X0_init : GoodIn wsX1_init (wsX0_init) := ggX1_init_X0_init
theorem dX1_init_0 : decode cX1_init 0 = .ok (.aload_n 0, 1) := by decide +kernel
theorem dX1_init_1 : decode cX1_init 1 = .ok (.invokespecial 3, 3) := by decide +kernel
theorem dX1_init_4 : decode cX1_init 4 = .ok (.aload_n 0, 1) := by decide +kernel
theorem dX1_init_5 : decode cX1_init 5 = .ok (.new 9, 3) := by decide +kernel
theorem dX1_init_8 : decode cX1_init 8 = .ok (.dup, 1) := by decide +kernel
theorem dX1_init_9 : decode cX1_init 9 = .ok (.invokespecial 11, 3) := by decide +kernel
theorem dX1_init_12 : decode cX1_init 12 = .ok (.putfield 12, 3) := by decide +kernel
theorem dX1_init_15 : decode cX1_init 15 = .ok (.aload_n 0, 1) := by decide +kernel
theorem dX1_init_16 : decode cX1_init 16 = .ok (.bipush 10, 2) := by decide +kernel
theorem dX1_init_18 : decode cX1_init 18 = .ok (.anewarray 18, 3) := by decide +kernel
theorem dX1_init_21 : decode cX1_init 21 = .ok (.putfield 20, 3) := by decide +kernel
theorem dX1_init_24 : decode cX1_init 24 = .ok (.iconst 0, 1) := by decide +kernel
theorem dX1_init_25 : decode cX1_init 25 = .ok (.istore_n 1, 1) := by decide +kernel
theorem dX1_init_26 : decode cX1_init 26 = .ok (.iload_n 1, 1) := by decide +kernel
theorem dX1_init_27 : decode cX1_init 27 = .ok (.bipush 10, 2) := by decide +kernel
theorem dX1_init_29 : decode cX1_init 29 = .ok (.if_icmp .ge 22, 3) := by decide +kernel
theorem dX1_init_32 : decode cX1_init 32 = .ok (.aload_n 0, 1) := by decide +kernel
theorem dX1_init_33 : decode cX1_init 33 = .ok (.getfield 20, 3) := by decide +kernel
theorem dX1_init_36 : decode cX1_init 36 = .ok (.iload_n 1, 1) := by decide +kernel
theorem dX1_init_37 : decode cX1_init 37 = .ok (.new 18, 3) := by decide +kernel
theorem dX1_init_40 : decode cX1_init 40 = .ok (.dup, 1) := by decide +kernel
theorem dX1_init_41 : decode cX1_init 41 = .ok (.invokespecial 24, 3) := by decide +kernel
theorem dX1_init_44 : decode cX1_init 44 = .ok (.aastore, 1) := by decide +kernel
theorem dX1_init_45 : decode cX1_init 45 = .ok (.iinc 1 1, 3) := by decide +kernel
theorem dX1_init_48 : decode cX1_init 48 = .ok (.goto (-22), 3) := by decide +kernel
theorem dX1_init_51 : decode cX1_init 51 = .ok (.return_, 1) := by decide +kernel
set_option maxRecDepth 20000 in
theorem ggX1_become_X7_become : GoodIn wsX1_become wsX7_become := goodIn_r _ [8, 9, 10, 11, 12, 13, 14, 15, 16, 17, 18, 19, 20, 21, 39, 40, 41, 42, 43, 44, 45, 46] (by decide +kernel) (by decide +kernel)
set_option maxRecDepth 20000 in
theorem gX1_become_X7_become : GoodIn wsX1_become (wsV RX1 25 RX7 yX7_become wsX7_become) := goodIn_app (goodIn_of _ (by decide +kernel)) ggX1_become_X7_become
set_option maxRecDepth 20000 in
theorem ggX1_become_X0_become : GoodIn wsX1_become wsX0_become := goodIn_r _ [26, 27, 28, 29, 30, 31, 32, 33, 34, 35, 47, 48, 49, 50, 51] (by decide +kernel) (by decide +kernel)
set_option maxRecDepth 20000 in
theorem gX1_become_X0_become : GoodIn wsX1_become (wsV RX1 33 RX0 yX0_become wsX0_become) := goodIn_app (goodIn_of _ (by decide +kernel)) ggX1_become_X0_become
theorem dX1_become_0 : decode cX1_become 0 = .ok (.aload_n 0, 1) := by decide +kernel
theorem dX1_become_1 : decode cX1_become 1 = .ok (.getfield 12, 3) := by decide +kernel
theorem dX1_become_4 : decode cX1_become 4 = .ok (.aload_n 1, 1) := by decide +kernel
theorem dX1_become_5 : decode cX1_become 5 = .ok (.getfield 12, 3) := by decide +kernel
theorem dX1_become_8 : decode cX1_become 8 = .ok (.invokevirtual 25, 3) := by decide +kernel
theorem dX1_become_11 : decode cX1_become 11 = .ok (.aload_n 0, 1) := by decide +kernel
theorem dX1_become_12 : decode cX1_become 12 = .ok (.aload_n 1, 1) := by decide +kernel
theorem dX1_become_13 : decode cX1_become 13 = .ok (.getfield 29, 3) := by decide +kernel
theorem dX1_become_16 : decode cX1_become 16 = .ok (.putfield 29, 3) := by decide +kernel
theorem dX1_become_19 : decode cX1_become 19 = .ok (.iconst 0, 1) := by decide +kernel
theorem dX1_become_20 : decode cX1_become 20 = .ok (.istore_n 2, 1) := by decide +kernel
theorem dX1_become_21 : decode cX1_become 21 = .ok (.iload_n 2, 1) := by decide +kernel
theorem dX1_become_22 : decode cX1_become 22 = .ok (.bipush 10, 2) := by decide +kernel
theorem dX1_become_24 : decode cX1_become 24 = .ok (.if_icmp .ge 24, 3) := by decide +kernel
theorem dX1_become_27 : decode cX1_become 27 = .ok (.aload_n 0, 1) := by decide +kernel
theorem dX1_become_28 : decode cX1_become 28 = .ok (.getfield 20, 3) := by decide +kernel
theorem dX1_become_31 : decode cX1_become 31 = .ok (.iload_n 2, 1) := by decide +kernel
theorem dX1_become_32 : decode cX1_become 32 = .ok (.aaload, 1) := by decide +kernel
theorem dX1_become_33 : decode cX1_become 33 = .ok (.aload_n 1, 1) := by decide +kernel
theorem dX1_become_34 : decode cX1_become 34 = .ok (.getfield 20, 3) := by decide +kernel
theorem dX1_become_37 : decode cX1_become 37 = .ok (.iload_n 2, 1) := by decide +kernel
theorem dX1_become_38 : decode cX1_become 38 = .ok (.aaload, 1) := by decide +kernel
theorem dX1_become_39 : decode cX1_become 39 = .ok (.invokevirtual 33, 3) := by decide +kernel
theorem dX1_become_42 : decode cX1_become 42 = .ok (.iinc 2 1, 3) := by decide +kernel
theorem dX1_become_45 : decode cX1_become 45 = .ok (.goto (-24), 3) := by decide +kernel
theorem dX1_become_48 : decode cX1_become 48 = .ok (.return_, 1) := by decide +kernel
set_option maxRecDepth 20000 in
theorem ggX1_has_X8_within : GoodIn wsX1_has wsX8_within := goodIn_r _ [4] (by decide +kernel) (by decide +kernel)
set_option maxRecDepth 20000 in
theorem gX1_has_X8_within_n36 : GoodIn wsX1_has (wsX8_within) := ggX1_has_X8_within
theorem dX1_has_0 : decode cX1_has 0 = .ok (.iload_n 1, 1) := by decide +kernel
theorem dX1_has_1 : decode cX1_has 1 = .ok (.iconst 0, 1) := by decide +kernel
theorem dX1_has_2 : decode cX1_has 2 = .ok (.aload_n 0, 1) := by decide +kernel
theorem dX1_has_3 : decode cX1_has 3 = .ok (.getfield 29, 3) := by decide +kernel
theorem dX1_has_6 : decode cX1_has 6 = .ok (.iconst 1, 1) := by decide +kernel
theorem dX1_has_7 : decode cX1_has 7 = .ok (.isub, 1) := by decide +kernel
theorem dX1_has_8 : decode cX1_has 8 = .ok (.invokestatic 36, 3) := by decide +kernel
theorem dX1_has_11 : decode cX1_has 11 = .ok (.ireturn, 1) := by decide +kernel
set_option maxRecDepth 20000 in
theorem ggX1_addCandle_X0_strip : GoodIn wsX1_addCandle wsX0_strip := goodIn_r _ [8, 9, 10, 11, 15, 16, 17, 18, 19] (by decide +kernel) (by decide +kernel)
set_option maxRecDepth 20000 in
theorem gX1_addCandle_X0_strip : GoodIn wsX1_addCandle (wsV RX1 40 RX0 yX0_strip wsX0_strip) := goodIn_app (goodIn_of _ (by decide +kernel)) ggX1_addCandle_X0_strip
theorem dX1_addCandle_0 : decode cX1_addCandle 0 = .ok (.aload_n 0, 1) := by decide +kernel
theorem dX1_addCandle_1 : decode cX1_addCandle 1 = .ok (.getfield 29, 3) := by decide +kernel
theorem dX1_addCandle_4 : decode cX1_addCandle 4 = .ok (.bipush 10, 2) := by decide +kernel
theorem dX1_addCandle_6 : decode cX1_addCandle 6 = .ok (.if_icmp .lt 5, 3) := by decide +kernel
theorem dX1_addCandle_9 : decode cX1_addCandle 9 = .ok (.iconst 0, 1) := by decide +kernel
theorem dX1_addCandle_10 : decode cX1_addCandle 10 = .ok (.ireturn, 1) := by decide +kernel
theorem dX1_addCandle_11 : decode cX1_addCandle 11 = .ok (.aload_n 0, 1) := by decide +kernel
theorem dX1_addCandle_12 : decode cX1_addCandle 12 = .ok (.getfield 20, 3) := by decide +kernel
theorem dX1_addCandle_15 : decode cX1_addCandle 15 = .ok (.aload_n 0, 1) := by decide +kernel
theorem dX1_addCandle_16 : decode cX1_addCandle 16 = .ok (.getfield 29, 3) := by decide +kernel
theorem dX1_addCandle_19 : decode cX1_addCandle 19 = .ok (.aaload, 1) := by decide +kernel
theorem dX1_addCandle_20 : decode cX1_addCandle 20 = .ok (.invokevirtual 40, 3) := by decide +kernel
theorem dX1_addCandle_23 : decode cX1_addCandle 23 = .ok (.aload_n 0, 1) := by decide +kernel
theorem dX1_addCandle_24 : decode cX1_addCandle 24 = .ok (.getfield 20, 3) := by decide +kernel
theorem dX1_addCandle_27 : decode cX1_addCandle 27 = .ok (.aload_n 0, 1) := by decide +kernel
theorem dX1_addCandle_28 : decode cX1_addCandle 28 = .ok (.getfield 29, 3) := by decide +kernel
theorem dX1_addCandle_31 : decode cX1_addCandle 31 = .ok (.aaload, 1) := by decide +kernel
theorem dX1_addCandle_32 : decode cX1_addCandle 32 = .ok (.iload_n 1, 1) := by decide +kernel
theorem dX1_addCandle_33 : decode cX1_addCandle 33 = .ok (.putfield 43, 3) := by decide +kernel
theorem dX1_addCandle_36 : decode cX1_addCandle 36 = .ok (.aload_n 0, 1) := by decide +kernel
theorem dX1_addCandle_37 : decode cX1_addCandle 37 = .ok (.dup, 1) := by decide +kernel
theorem dX1_addCandle_38 : decode cX1_addCandle 38 = .ok (.getfield 29, 3) := by decide +kernel
theorem dX1_addCandle_41 : decode cX1_addCandle 41 = .ok (.iconst 1, 1) := by decide +kernel
theorem dX1_addCandle_42 : decode cX1_addCandle 42 = .ok (.iadd, 1) := by decide +kernel
theorem dX1_addCandle_43 : decode cX1_addCandle 43 = .ok (.putfield 29, 3) := by decide +kernel
theorem dX1_addCandle_46 : decode cX1_addCandle 46 = .ok (.iconst 1, 1) := by decide +kernel
theorem dX1_addCandle_47 : decode cX1_addCandle 47 = .ok (.ireturn, 1) := by decide +kernel
set_option maxRecDepth 20000 in
theorem ggX1_candleGrams_X0_grams : GoodIn wsX1_candleGrams wsX0_grams := goodIn_r _ [7, 8, 9, 13, 14, 15, 16, 17] (by decide +kernel) (by decide +kernel)
set_option maxRecDepth 20000 in
theorem gX1_candleGrams_X0_grams : GoodIn wsX1_candleGrams (wsV RX1 46 RX0 yX0_grams wsX0_grams) := goodIn_app (goodIn_of _ (by decide +kernel)) ggX1_candleGrams_X0_grams
theorem dX1_candleGrams_0 : decode cX1_candleGrams 0 = .ok (.iconst 0, 1) := by decide +kernel
theorem dX1_candleGrams_1 : decode cX1_candleGrams 1 = .ok (.istore_n 1, 1) := by decide +kernel
theorem dX1_candleGrams_2 : decode cX1_candleGrams 2 = .ok (.iconst 0, 1) := by decide +kernel
theorem dX1_candleGrams_3 : decode cX1_candleGrams 3 = .ok (.istore_n 2, 1) := by decide +kernel
theorem dX1_candleGrams_4 : decode cX1_candleGrams 4 = .ok (.iload_n 2, 1) := by decide +kernel
theorem dX1_candleGrams_5 : decode cX1_candleGrams 5 = .ok (.aload_n 0, 1) := by decide +kernel
theorem dX1_candleGrams_6 : decode cX1_candleGrams 6 = .ok (.getfield 29, 3) := by decide +kernel
theorem dX1_candleGrams_9 : decode cX1_candleGrams 9 = .ok (.if_icmp .ge 21, 3) := by decide +kernel
theorem dX1_candleGrams_12 : decode cX1_candleGrams 12 = .ok (.iload_n 1, 1) := by decide +kernel
theorem dX1_candleGrams_13 : decode cX1_candleGrams 13 = .ok (.aload_n 0, 1) := by decide +kernel
theorem dX1_candleGrams_14 : decode cX1_candleGrams 14 = .ok (.getfield 20, 3) := by decide +kernel
theorem dX1_candleGrams_17 : decode cX1_candleGrams 17 = .ok (.iload_n 2, 1) := by decide +kernel
theorem dX1_candleGrams_18 : decode cX1_candleGrams 18 = .ok (.aaload, 1) := by decide +kernel
theorem dX1_candleGrams_19 : decode cX1_candleGrams 19 = .ok (.invokevirtual 46, 3) := by decide +kernel
theorem dX1_candleGrams_22 : decode cX1_candleGrams 22 = .ok (.iadd, 1) := by decide +kernel
theorem dX1_candleGrams_23 : decode cX1_candleGrams 23 = .ok (.istore_n 1, 1) := by decide +kernel
theorem dX1_candleGrams_24 : decode cX1_candleGrams 24 = .ok (.iinc 2 1, 3) := by decide +kernel
theorem dX1_candleGrams_27 : decode cX1_candleGrams 27 = .ok (.goto (-23), 3) := by decide +kernel
theorem dX1_candleGrams_30 : decode cX1_candleGrams 30 = .ok (.iload_n 1, 1) := by decide +kernel
theorem dX1_candleGrams_31 : decode cX1_candleGrams 31 = .ok (.ireturn, 1) := by decide +kernel
theorem dX1_layersOfAll_0 : decode cX1_layersOfAll 0 = .ok (.iconst 0, 1) := by decide +kernel
theorem dX1_layersOfAll_1 : decode cX1_layersOfAll 1 = .ok (.istore_n 1, 1) := by decide +kernel
theorem dX1_layersOfAll_2 : decode cX1_layersOfAll 2 = .ok (.iconst 0, 1) := by decide +kernel
theorem dX1_layersOfAll_3 : decode cX1_layersOfAll 3 = .ok (.istore_n 2, 1) := by decide +kernel
theorem dX1_layersOfAll_4 : decode cX1_layersOfAll 4 = .ok (.iload_n 2, 1) := by decide +kernel
theorem dX1_layersOfAll_5 : decode cX1_layersOfAll 5 = .ok (.aload_n 0, 1) := by decide +kernel
theorem dX1_layersOfAll_6 : decode cX1_layersOfAll 6 = .ok (.getfield 29, 3) := by decide +kernel
theorem dX1_layersOfAll_9 : decode cX1_layersOfAll 9 = .ok (.if_icmp .ge 21, 3) := by decide +kernel
theorem dX1_layersOfAll_12 : decode cX1_layersOfAll 12 = .ok (.iload_n 1, 1) := by decide +kernel
theorem dX1_layersOfAll_13 : decode cX1_layersOfAll 13 = .ok (.aload_n 0, 1) := by decide +kernel
theorem dX1_layersOfAll_14 : decode cX1_layersOfAll 14 = .ok (.getfield 20, 3) := by decide +kernel
theorem dX1_layersOfAll_17 : decode cX1_layersOfAll 17 = .ok (.iload_n 2, 1) := by decide +kernel
theorem dX1_layersOfAll_18 : decode cX1_layersOfAll 18 = .ok (.aaload, 1) := by decide +kernel
theorem dX1_layersOfAll_19 : decode cX1_layersOfAll 19 = .ok (.getfield 50, 3) := by decide +kernel
theorem dX1_layersOfAll_22 : decode cX1_layersOfAll 22 = .ok (.iadd, 1) := by decide +kernel
theorem dX1_layersOfAll_23 : decode cX1_layersOfAll 23 = .ok (.istore_n 1, 1) := by decide +kernel
theorem dX1_layersOfAll_24 : decode cX1_layersOfAll 24 = .ok (.iinc 2 1, 3) := by decide +kernel
theorem dX1_layersOfAll_27 : decode cX1_layersOfAll 27 = .ok (.goto (-23), 3) := by decide +kernel
theorem dX1_layersOfAll_30 : decode cX1_layersOfAll 30 = .ok (.iload_n 1, 1) := by decide +kernel
theorem dX1_layersOfAll_31 : decode cX1_layersOfAll 31 = .ok (.ireturn, 1) := by decide +kernel
set_option maxRecDepth 20000 in
theorem ggX2_init_X7_init : GoodIn wsX2_init wsX7_init := goodIn_r _ [14, 15, 2, 3, 16, 17, 18, 19, 20, 21, 22, 23, 24, 25, 26, 27, 34, 35, 36, 37, 50, 51, 52, 53] (by decide +kernel) (by decide +kernel)
set_option maxRecDepth 20000 in
theorem gX2_init_X7_init : GoodIn wsX2_init (wsX7_init) := ggX2_init_X7_init
set_option maxRecDepth 20000 in
theorem ggX2_init_X0_init : GoodIn wsX2_init wsX0_init := goodIn_r _ [30, 31, 2, 3, 32, 33, 45, 46, 47, 48, 49] (by decide +kernel) (by decide +kernel)
set_option maxRecDepth 20000 in
theorem gX2_init_X0_init : GoodIn wsX2_init (wsX0_init) := ggX2_init_X0_init
theorem dX2_init_0 : decode cX2_init 0 = .ok (.aload_n 0, 1) := by decide +kernel
theorem dX2_init_1 : decode cX2_init 1 = .ok (.invokespecial 3, 3) := by decide +kernel
theorem dX2_init_4 : decode cX2_init 4 = .ok (.aload_n 0, 1) := by decide +kernel
theorem dX2_init_5 : decode cX2_init 5 = .ok (.new 9, 3) := by decide +kernel
theorem dX2_init_8 : decode cX2_init 8 = .ok (.dup, 1) := by decide +kernel
theorem dX2_init_9 : decode cX2_init 9 = .ok (.invokespecial 11, 3) := by decide +kernel
theorem dX2_init_12 : decode cX2_init 12 = .ok (.putfield 12, 3) := by decide +kernel
theorem dX2_init_15 : decode cX2_init 15 = .ok (.aload_n 0, 1) := by decide +kernel
theorem dX2_init_16 : decode cX2_init 16 = .ok (.bipush 7, 2) := by decide +kernel
theorem dX2_init_18 : decode cX2_init 18 = .ok (.anewarray 18, 3) := by decide +kernel
theorem dX2_init_21 : decode cX2_init 21 = .ok (.putfield 20, 3) := by decide +kernel
theorem dX2_init_24 : decode cX2_init 24 = .ok (.iconst 0, 1) := by decide +kernel
theorem dX2_init_25 : decode cX2_init 25 = .ok (.istore_n 1, 1) := by decide +kernel
theorem dX2_init_26 : decode cX2_init 26 = .ok (.iload_n 1, 1) := by decide +kernel
theorem dX2_init_27 : decode cX2_init 27 = .ok (.bipush 6, 2) := by decide +kernel
theorem dX2_init_29 : decode cX2_init 29 = .ok (.if_icmp .gt 22, 3) := by decide +kernel
theorem dX2_init_32 : decode cX2_init 32 = .ok (.aload_n 0, 1) := by decide +kernel
theorem dX2_init_33 : decode cX2_init 33 = .ok (.getfield 20, 3) := by decide +kernel
theorem dX2_init_36 : decode cX2_init 36 = .ok (.iload_n 1, 1) := by decide +kernel
theorem dX2_init_37 : decode cX2_init 37 = .ok (.new 18, 3) := by decide +kernel
theorem dX2_init_40 : decode cX2_init 40 = .ok (.dup, 1) := by decide +kernel
theorem dX2_init_41 : decode cX2_init 41 = .ok (.invokespecial 24, 3) := by decide +kernel
theorem dX2_init_44 : decode cX2_init 44 = .ok (.aastore, 1) := by decide +kernel
theorem dX2_init_45 : decode cX2_init 45 = .ok (.iinc 1 1, 3) := by decide +kernel
theorem dX2_init_48 : decode cX2_init 48 = .ok (.goto (-22), 3) := by decide +kernel
theorem dX2_init_51 : decode cX2_init 51 = .ok (.return_, 1) := by decide +kernel
set_option maxRecDepth 20000 in
theorem ggX2_walk_X7_become : GoodIn wsX2_walk wsX7_become := goodIn_r _ [12, 13, 14, 15, 16, 17, 18, 19, 20, 21, 22, 23, 24, 25, 124, 125, 126, 127, 128, 129, 130, 131] (by decide +kernel) (by decide +kernel)
set_option maxRecDepth 20000 in
theorem gX2_walk_X7_become : GoodIn wsX2_walk (wsV RX2 25 RX7 yX7_become wsX7_become) := goodIn_app (goodIn_of _ (by decide +kernel)) ggX2_walk_X7_become
set_option maxRecDepth 20000 in
theorem ggX2_walk_X0_become : GoodIn wsX2_walk wsX0_become := goodIn_r _ [30, 31, 32, 33, 34, 35, 36, 37, 38, 39, 132, 133, 134, 135, 136] (by decide +kernel) (by decide +kernel)
set_option maxRecDepth 20000 in
theorem gX2_walk_X0_become : GoodIn wsX2_walk (wsV RX2 29 RX0 yX0_become wsX0_become) := goodIn_app (goodIn_of _ (by decide +kernel)) ggX2_walk_X0_become
set_option maxRecDepth 20000 in
theorem ggX2_walk_X2_walkOn : GoodIn wsX2_walk wsX2_walkOn := goodIn_r _ [44, 3, 2, 1, 45, 46, 47, 48, 49, 50, 29, 51, 33, 34, 31, 52, 53, 54, 55, 56, 57, 58, 43, 59, 4, 5, 6, 7, 60, 61, 62, 63, 26, 27, 28, 30, 32, 35, 36, 37, 38, 39, 64, 65, 66, 67, 68, 69, 70, 71, 72, 73, 74, 75, 76, 77, 78, 79, 80, 81, 82, 83, 84, 85, 86, 87, 20, 88, 24, 89, 90, 91, 92, 93, 94, 95, 96, 97, 98, 99, 100, 101, 102, 103, 104, 105, 106, 107, 108, 109, 110, 111, 112, 113, 23, 114, 115, 116, 40, 41, 42, 117, 118, 119, 120, 121, 122, 123, 124, 125, 126, 127, 128, 129, 130, 131, 132, 133, 134, 135, 136] (by decide +kernel) (by decide +kernel)
set_option maxRecDepth 20000 in
theorem gX2_walk_X2_walkOn : GoodIn wsX2_walk (wsV RX2 48 RX2 yX2_walkOn wsX2_walkOn) := goodIn_app (goodIn_of _ (by decide +kernel)) ggX2_walk_X2_walkOn
theorem dX2_walk_0 : decode cX2_walk 0 = .ok (.aload_n 0, 1) := by decide +kernel
theorem dX2_walk_1 : decode cX2_walk 1 = .ok (.getfield 12, 3) := by decide +kernel
theorem dX2_walk_4 : decode cX2_walk 4 = .ok (.aload_n 1, 1) := by decide +kernel
theorem dX2_walk_5 : decode cX2_walk 5 = .ok (.invokevirtual 25, 3) := by decide +kernel
theorem dX2_walk_8 : decode cX2_walk 8 = .ok (.aload_n 0, 1) := by decide +kernel
theorem dX2_walk_9 : decode cX2_walk 9 = .ok (.getfield 20, 3) := by decide +kernel
theorem dX2_walk_12 : decode cX2_walk 12 = .ok (.iconst 0, 1) := by decide +kernel
theorem dX2_walk_13 : decode cX2_walk 13 = .ok (.aaload, 1) := by decide +kernel
theorem dX2_walk_14 : decode cX2_walk 14 = .ok (.aload_n 2, 1) := by decide +kernel
theorem dX2_walk_15 : decode cX2_walk 15 = .ok (.invokevirtual 29, 3) := by decide +kernel
theorem dX2_walk_18 : decode cX2_walk 18 = .ok (.aload_n 0, 1) := by decide +kernel
theorem dX2_walk_19 : decode cX2_walk 19 = .ok (.iload_n 3, 1) := by decide +kernel
theorem dX2_walk_20 : decode cX2_walk 20 = .ok (.putfield 32, 3) := by decide +kernel
theorem dX2_walk_23 : decode cX2_walk 23 = .ok (.aload_n 0, 1) := by decide +kernel
theorem dX2_walk_24 : decode cX2_walk 24 = .ok (.iload 4, 2) := by decide +kernel
theorem dX2_walk_26 : decode cX2_walk 26 = .ok (.putfield 36, 3) := by decide +kernel
theorem dX2_walk_29 : decode cX2_walk 29 = .ok (.aload_n 0, 1) := by decide +kernel
theorem dX2_walk_30 : decode cX2_walk 30 = .ok (.iconst 0, 1) := by decide +kernel
theorem dX2_walk_31 : decode cX2_walk 31 = .ok (.putfield 39, 3) := by decide +kernel
theorem dX2_walk_34 : decode cX2_walk 34 = .ok (.aload_n 0, 1) := by decide +kernel
theorem dX2_walk_35 : decode cX2_walk 35 = .ok (.iconst 0, 1) := by decide +kernel
theorem dX2_walk_36 : decode cX2_walk 36 = .ok (.putfield 42, 3) := by decide +kernel
theorem dX2_walk_39 : decode cX2_walk 39 = .ok (.aload_n 0, 1) := by decide +kernel
theorem dX2_walk_40 : decode cX2_walk 40 = .ok (.iconst (-1), 1) := by decide +kernel
theorem dX2_walk_41 : decode cX2_walk 41 = .ok (.putfield 45, 3) := by decide +kernel
theorem dX2_walk_44 : decode cX2_walk 44 = .ok (.aload_n 0, 1) := by decide +kernel
theorem dX2_walk_45 : decode cX2_walk 45 = .ok (.iconst 0, 1) := by decide +kernel
theorem dX2_walk_46 : decode cX2_walk 46 = .ok (.iconst 0, 1) := by decide +kernel
theorem dX2_walk_47 : decode cX2_walk 47 = .ok (.invokevirtual 48, 3) := by decide +kernel
theorem dX2_walk_50 : decode cX2_walk 50 = .ok (.return_, 1) := by decide +kernel
set_option maxRecDepth 20000 in
theorem ggX2_walkOn_X0_minutes : GoodIn wsX2_walkOn wsX0_minutes := goodIn_r _ [11, 12, 13, 14, 15, 16, 17, 18, 116, 117, 118, 119, 120] (by decide +kernel) (by decide +kernel)
set_option maxRecDepth 20000 in
theorem gX2_walkOn_X0_minutes : GoodIn wsX2_walkOn (wsV RX2 52 RX0 yX0_minutes wsX0_minutes) := goodIn_app (goodIn_of _ (by decide +kernel)) ggX2_walkOn_X0_minutes
set_option maxRecDepth 20000 in
theorem ggX2_walkOn_X2_judge : GoodIn wsX2_walkOn wsX2_judge := goodIn_r _ [23, 24, 25, 26, 27, 101, 102, 103, 104, 105, 106, 107] (by decide +kernel) (by decide +kernel)
set_option maxRecDepth 20000 in
theorem gX2_walkOn_X2_judge : GoodIn wsX2_walkOn (wsV RX2 56 RX2 yX2_judge wsX2_judge) := goodIn_app (goodIn_of _ (by decide +kernel)) ggX2_walkOn_X2_judge
set_option maxRecDepth 20000 in
theorem ggX2_walkOn_X2_dipNext : GoodIn wsX2_walkOn wsX2_dipNext := goodIn_r _ [31, 2, 32, 33, 34, 10, 35, 14, 36, 12, 13, 37, 38, 39, 40, 41, 42, 43, 44, 45, 46, 47, 48, 49, 50, 51, 52, 53, 54, 55, 56, 57, 58, 59, 60, 61, 62, 63, 64, 65, 66, 67, 68, 69, 16, 17, 18, 70, 71, 72, 73, 74, 75, 76, 77, 78, 79, 80, 15, 81, 82, 83, 84, 85, 86, 87, 88, 89, 90, 91, 92, 93, 94, 95, 96, 97, 101, 102, 103, 104, 105, 106, 107, 116, 117, 118, 119, 120, 112, 113, 114, 115] (by decide +kernel) (by decide +kernel)
set_option maxRecDepth 20000 in
theorem gX2_walkOn_X2_dipNext : GoodIn wsX2_walkOn (wsV RX2 71 RX2 yX2_dipNext wsX2_dipNext) := goodIn_app (goodIn_of _ (by decide +kernel)) ggX2_walkOn_X2_dipNext
set_option maxRecDepth 20000 in
theorem ggX2_walkOn_X2_walkOn : GoodIn wsX2_walkOn wsX2_walkOn := goodIn_r _ [0, 1, 2, 3, 4, 5, 6, 7, 8, 9, 10, 11, 12, 13, 14, 15, 16, 17, 18, 19, 20, 21, 22, 23, 24, 25, 26, 27, 28, 29, 30, 31, 32, 33, 34, 35, 36, 37, 38, 39, 40, 41, 42, 43, 44, 45, 46, 47, 48, 49, 50, 51, 52, 53, 54, 55, 56, 57, 58, 59, 60, 61, 62, 63, 64, 65, 66, 67, 68, 69, 70, 71, 72, 73, 74, 75, 76, 77, 78, 79, 80, 81, 82, 83, 84, 85, 86, 87, 88, 89, 90, 91, 92, 93, 94, 95, 96, 97, 98, 99, 100, 101, 102, 103, 104, 105, 106, 107, 108, 109, 110, 111, 112, 113, 114, 115, 116, 117, 118, 119, 120] (by decide +kernel) (by decide +kernel)
set_option maxRecDepth 20000 in
theorem gX2_walkOn_X2_walkOn : GoodIn wsX2_walkOn (wsV RX2 48 RX2 yX2_walkOn wsX2_walkOn) := goodIn_app (goodIn_of _ (by decide +kernel)) ggX2_walkOn_X2_walkOn
theorem dX2_walkOn_0 : decode cX2_walkOn 0 = .ok (.iload_n 1, 1) := by decide +kernel
theorem dX2_walkOn_1 : decode cX2_walkOn 1 = .ok (.aload_n 0, 1) := by decide +kernel
theorem dX2_walkOn_2 : decode cX2_walkOn 2 = .ok (.getfield 32, 3) := by decide +kernel
theorem dX2_walkOn_5 : decode cX2_walkOn 5 = .ok (.if_icmp .ge 9, 3) := by decide +kernel
theorem dX2_walkOn_8 : decode cX2_walkOn 8 = .ok (.iload_n 1, 1) := by decide +kernel
theorem dX2_walkOn_9 : decode cX2_walkOn 9 = .ok (.bipush 6, 2) := by decide +kernel
theorem dX2_walkOn_11 : decode cX2_walkOn 11 = .ok (.if_icmp .lt 18, 3) := by decide +kernel
theorem dX2_walkOn_14 : decode cX2_walkOn 14 = .ok (.aload_n 0, 1) := by decide +kernel
theorem dX2_walkOn_15 : decode cX2_walkOn 15 = .ok (.aload_n 0, 1) := by decide +kernel
theorem dX2_walkOn_16 : decode cX2_walkOn 16 = .ok (.getfield 20, 3) := by decide +kernel
theorem dX2_walkOn_19 : decode cX2_walkOn 19 = .ok (.iload_n 1, 1) := by decide +kernel
theorem dX2_walkOn_20 : decode cX2_walkOn 20 = .ok (.aaload, 1) := by decide +kernel
theorem dX2_walkOn_21 : decode cX2_walkOn 21 = .ok (.invokevirtual 52, 3) := by decide +kernel
theorem dX2_walkOn_24 : decode cX2_walkOn 24 = .ok (.iload_n 2, 1) := by decide +kernel
theorem dX2_walkOn_25 : decode cX2_walkOn 25 = .ok (.invokevirtual 56, 3) := by decide +kernel
theorem dX2_walkOn_28 : decode cX2_walkOn 28 = .ok (.return_, 1) := by decide +kernel
theorem dX2_walkOn_29 : decode cX2_walkOn 29 = .ok (.iconst 0, 1) := by decide +kernel
theorem dX2_walkOn_30 : decode cX2_walkOn 30 = .ok (.istore_n 3, 1) := by decide +kernel
theorem dX2_walkOn_31 : decode cX2_walkOn 31 = .ok (.iload_n 3, 1) := by decide +kernel
theorem dX2_walkOn_32 : decode cX2_walkOn 32 = .ok (.iconst 4, 1) := by decide +kernel
theorem dX2_walkOn_33 : decode cX2_walkOn 33 = .ok (.if_icmp .ge 67, 3) := by decide +kernel
theorem dX2_walkOn_36 : decode cX2_walkOn 36 = .ok (.aload_n 0, 1) := by decide +kernel
theorem dX2_walkOn_37 : decode cX2_walkOn 37 = .ok (.getfield 12, 3) := by decide +kernel
theorem dX2_walkOn_40 : decode cX2_walkOn 40 = .ok (.getfield 59, 3) := by decide +kernel
theorem dX2_walkOn_43 : decode cX2_walkOn 43 = .ok (.iload_n 3, 1) := by decide +kernel
theorem dX2_walkOn_44 : decode cX2_walkOn 44 = .ok (.aaload, 1) := by decide +kernel
theorem dX2_walkOn_45 : decode cX2_walkOn 45 = .ok (.astore 4, 2) := by decide +kernel
theorem dX2_walkOn_47 : decode cX2_walkOn 47 = .ok (.aload 4, 2) := by decide +kernel
theorem dX2_walkOn_49 : decode cX2_walkOn 49 = .ok (.getfield 63, 3) := by decide +kernel
theorem dX2_walkOn_52 : decode cX2_walkOn 52 = .ok (.istore 5, 2) := by decide +kernel
theorem dX2_walkOn_54 : decode cX2_walkOn 54 = .ok (.aload 4, 2) := by decide +kernel
theorem dX2_walkOn_56 : decode cX2_walkOn 56 = .ok (.getfield 68, 3) := by decide +kernel
theorem dX2_walkOn_59 : decode cX2_walkOn 59 = .ok (.istore 6, 2) := by decide +kernel
theorem dX2_walkOn_61 : decode cX2_walkOn 61 = .ok (.aload_n 0, 1) := by decide +kernel
theorem dX2_walkOn_62 : decode cX2_walkOn 62 = .ok (.iload_n 1, 1) := by decide +kernel
theorem dX2_walkOn_63 : decode cX2_walkOn 63 = .ok (.aload 4, 2) := by decide +kernel
theorem dX2_walkOn_65 : decode cX2_walkOn 65 = .ok (.invokevirtual 71, 3) := by decide +kernel
theorem dX2_walkOn_68 : decode cX2_walkOn 68 = .ok (.aload_n 0, 1) := by decide +kernel
theorem dX2_walkOn_69 : decode cX2_walkOn 69 = .ok (.iload_n 1, 1) := by decide +kernel
theorem dX2_walkOn_70 : decode cX2_walkOn 70 = .ok (.iconst 1, 1) := by decide +kernel
theorem dX2_walkOn_71 : decode cX2_walkOn 71 = .ok (.iadd, 1) := by decide +kernel
theorem dX2_walkOn_72 : decode cX2_walkOn 72 = .ok (.iconst 4, 1) := by decide +kernel
theorem dX2_walkOn_73 : decode cX2_walkOn 73 = .ok (.iload_n 2, 1) := by decide +kernel
theorem dX2_walkOn_74 : decode cX2_walkOn 74 = .ok (.imul, 1) := by decide +kernel
theorem dX2_walkOn_75 : decode cX2_walkOn 75 = .ok (.iload_n 3, 1) := by decide +kernel
theorem dX2_walkOn_76 : decode cX2_walkOn 76 = .ok (.iadd, 1) := by decide +kernel
theorem dX2_walkOn_77 : decode cX2_walkOn 77 = .ok (.invokevirtual 48, 3) := by decide +kernel
theorem dX2_walkOn_80 : decode cX2_walkOn 80 = .ok (.aload 4, 2) := by decide +kernel
theorem dX2_walkOn_82 : decode cX2_walkOn 82 = .ok (.iload 5, 2) := by decide +kernel
theorem dX2_walkOn_84 : decode cX2_walkOn 84 = .ok (.putfield 63, 3) := by decide +kernel
theorem dX2_walkOn_87 : decode cX2_walkOn 87 = .ok (.aload 4, 2) := by decide +kernel
theorem dX2_walkOn_89 : decode cX2_walkOn 89 = .ok (.iload 6, 2) := by decide +kernel
theorem dX2_walkOn_91 : decode cX2_walkOn 91 = .ok (.putfield 68, 3) := by decide +kernel
theorem dX2_walkOn_94 : decode cX2_walkOn 94 = .ok (.iinc 3 1, 3) := by decide +kernel
theorem dX2_walkOn_97 : decode cX2_walkOn 97 = .ok (.goto (-66), 3) := by decide +kernel
theorem dX2_walkOn_100 : decode cX2_walkOn 100 = .ok (.return_, 1) := by decide +kernel
theorem dX2_judge_0 : decode cX2_judge 0 = .ok (.iload_n 1, 1) := by decide +kernel
theorem dX2_judge_1 : decode cX2_judge 1 = .ok (.aload_n 0, 1) := by decide +kernel
theorem dX2_judge_2 : decode cX2_judge 2 = .ok (.getfield 36, 3) := by decide +kernel
theorem dX2_judge_5 : decode cX2_judge 5 = .ok (.if_icmp .ne 13, 3) := by decide +kernel
theorem dX2_judge_8 : decode cX2_judge 8 = .ok (.aload_n 0, 1) := by decide +kernel
theorem dX2_judge_9 : decode cX2_judge 9 = .ok (.dup, 1) := by decide +kernel
theorem dX2_judge_10 : decode cX2_judge 10 = .ok (.getfield 39, 3) := by decide +kernel
theorem dX2_judge_13 : decode cX2_judge 13 = .ok (.iconst 1, 1) := by decide +kernel
theorem dX2_judge_14 : decode cX2_judge 14 = .ok (.iadd, 1) := by decide +kernel
theorem dX2_judge_15 : decode cX2_judge 15 = .ok (.putfield 39, 3) := by decide +kernel
theorem dX2_judge_18 : decode cX2_judge 18 = .ok (.iload_n 1, 1) := by decide +kernel
theorem dX2_judge_19 : decode cX2_judge 19 = .ok (.aload_n 0, 1) := by decide +kernel
theorem dX2_judge_20 : decode cX2_judge 20 = .ok (.getfield 42, 3) := by decide +kernel
theorem dX2_judge_23 : decode cX2_judge 23 = .ok (.if_icmp .le 8, 3) := by decide +kernel
theorem dX2_judge_26 : decode cX2_judge 26 = .ok (.aload_n 0, 1) := by decide +kernel
theorem dX2_judge_27 : decode cX2_judge 27 = .ok (.iload_n 1, 1) := by decide +kernel
theorem dX2_judge_28 : decode cX2_judge 28 = .ok (.putfield 42, 3) := by decide +kernel
theorem dX2_judge_31 : decode cX2_judge 31 = .ok (.aload_n 0, 1) := by decide +kernel
theorem dX2_judge_32 : decode cX2_judge 32 = .ok (.getfield 45, 3) := by decide +kernel
theorem dX2_judge_35 : decode cX2_judge 35 = .ok (.ifCond .ge 16, 3) := by decide +kernel
theorem dX2_judge_38 : decode cX2_judge 38 = .ok (.iload_n 1, 1) := by decide +kernel
theorem dX2_judge_39 : decode cX2_judge 39 = .ok (.aload_n 0, 1) := by decide +kernel
theorem dX2_judge_40 : decode cX2_judge 40 = .ok (.getfield 36, 3) := by decide +kernel
theorem dX2_judge_43 : decode cX2_judge 43 = .ok (.if_icmp .lt 8, 3) := by decide +kernel
theorem dX2_judge_46 : decode cX2_judge 46 = .ok (.aload_n 0, 1) := by decide +kernel
theorem dX2_judge_47 : decode cX2_judge 47 = .ok (.iload_n 2, 1) := by decide +kernel
theorem dX2_judge_48 : decode cX2_judge 48 = .ok (.putfield 45, 3) := by decide +kernel
theorem dX2_judge_51 : decode cX2_judge 51 = .ok (.return_, 1) := by decide +kernel
set_option maxRecDepth 20000 in
theorem ggX2_dipNext_X0_become : GoodIn wsX2_dipNext wsX0_become := goodIn_r _ [6, 7, 8, 9, 10, 11, 12, 13, 14, 15, 83, 84, 85, 86, 87] (by decide +kernel) (by decide +kernel)
set_option maxRecDepth 20000 in
theorem gX2_dipNext_X0_become : GoodIn wsX2_dipNext (wsV RX2 29 RX0 yX0_become wsX0_become) := goodIn_app (goodIn_of _ (by decide +kernel)) ggX2_dipNext_X0_become
set_option maxRecDepth 20000 in
theorem ggX2_dipNext_X0_dipInto : GoodIn wsX2_dipNext wsX0_dipInto := goodIn_r _ [19, 20, 21, 22, 23, 24, 5, 25, 8, 26, 27, 28, 29, 7, 30, 31, 32, 33, 34, 35, 36, 37, 38, 39, 40, 41, 42, 43, 44, 45, 46, 47, 48, 49, 50, 10, 11, 9, 51, 52, 53, 54, 55, 56, 57, 58, 59, 60, 61, 62, 63, 64, 65, 66, 67, 68, 69, 70, 71, 72, 73, 74, 75, 88, 89, 90, 91, 83, 84, 85, 86, 87] (by decide +kernel) (by decide +kernel)
set_option maxRecDepth 20000 in
theorem gX2_dipNext_X0_dipInto : GoodIn wsX2_dipNext (wsV RX2 75 RX0 yX0_dipInto wsX0_dipInto) := goodIn_app (goodIn_of _ (by decide +kernel)) ggX2_dipNext_X0_dipInto
theorem dX2_dipNext_0 : decode cX2_dipNext 0 = .ok (.aload_n 0, 1) := by decide +kernel
theorem dX2_dipNext_1 : decode cX2_dipNext 1 = .ok (.getfield 20, 3) := by decide +kernel
theorem dX2_dipNext_4 : decode cX2_dipNext 4 = .ok (.iload_n 1, 1) := by decide +kernel
theorem dX2_dipNext_5 : decode cX2_dipNext 5 = .ok (.iconst 1, 1) := by decide +kernel
theorem dX2_dipNext_6 : decode cX2_dipNext 6 = .ok (.iadd, 1) := by decide +kernel
theorem dX2_dipNext_7 : decode cX2_dipNext 7 = .ok (.aaload, 1) := by decide +kernel
theorem dX2_dipNext_8 : decode cX2_dipNext 8 = .ok (.aload_n 0, 1) := by decide +kernel
theorem dX2_dipNext_9 : decode cX2_dipNext 9 = .ok (.getfield 20, 3) := by decide +kernel
theorem dX2_dipNext_12 : decode cX2_dipNext 12 = .ok (.iload_n 1, 1) := by decide +kernel
theorem dX2_dipNext_13 : decode cX2_dipNext 13 = .ok (.aaload, 1) := by decide +kernel
theorem dX2_dipNext_14 : decode cX2_dipNext 14 = .ok (.invokevirtual 29, 3) := by decide +kernel
theorem dX2_dipNext_17 : decode cX2_dipNext 17 = .ok (.aload_n 0, 1) := by decide +kernel
theorem dX2_dipNext_18 : decode cX2_dipNext 18 = .ok (.getfield 20, 3) := by decide +kernel
theorem dX2_dipNext_21 : decode cX2_dipNext 21 = .ok (.iload_n 1, 1) := by decide +kernel
theorem dX2_dipNext_22 : decode cX2_dipNext 22 = .ok (.iconst 1, 1) := by decide +kernel
theorem dX2_dipNext_23 : decode cX2_dipNext 23 = .ok (.iadd, 1) := by decide +kernel
theorem dX2_dipNext_24 : decode cX2_dipNext 24 = .ok (.aaload, 1) := by decide +kernel
theorem dX2_dipNext_25 : decode cX2_dipNext 25 = .ok (.aload_n 2, 1) := by decide +kernel
theorem dX2_dipNext_26 : decode cX2_dipNext 26 = .ok (.invokevirtual 75, 3) := by decide +kernel
theorem dX2_dipNext_29 : decode cX2_dipNext 29 = .ok (.return_, 1) := by decide +kernel
set_option maxRecDepth 20000 in
theorem ggX2_rowThatMade_X7_become : GoodIn wsX2_rowThatMade wsX7_become := goodIn_r _ [8, 9, 10, 11, 12, 13, 14, 15, 16, 17, 18, 19, 20, 21, 125, 126, 127, 128, 129, 130, 131, 132] (by decide +kernel) (by decide +kernel)
set_option maxRecDepth 20000 in
theorem gX2_rowThatMade_X7_become : GoodIn wsX2_rowThatMade (wsV RX2 25 RX7 yX7_become wsX7_become) := goodIn_app (goodIn_of _ (by decide +kernel)) ggX2_rowThatMade_X7_become
set_option maxRecDepth 20000 in
theorem ggX2_rowThatMade_X0_strip : GoodIn wsX2_rowThatMade wsX0_strip := goodIn_r _ [26, 27, 28, 29, 120, 121, 122, 123, 124] (by decide +kernel) (by decide +kernel)
set_option maxRecDepth 20000 in
theorem gX2_rowThatMade_X0_strip : GoodIn wsX2_rowThatMade (wsV RX2 79 RX0 yX0_strip wsX0_strip) := goodIn_app (goodIn_of _ (by decide +kernel)) ggX2_rowThatMade_X0_strip
set_option maxRecDepth 20000 in
theorem ggX2_rowThatMade_X2_seek : GoodIn wsX2_rowThatMade wsX2_seek := goodIn_r _ [34, 35, 1, 36, 37, 38, 2, 39, 40, 41, 42, 43, 44, 33, 45, 46, 47, 48, 25, 49, 50, 27, 28, 29, 51, 52, 53, 54, 55, 56, 57, 58, 59, 60, 61, 62, 63, 64, 65, 66, 67, 68, 69, 70, 71, 72, 73, 74, 75, 76, 77, 78, 79, 16, 80, 20, 81, 82, 83, 84, 85, 86, 87, 88, 89, 90, 91, 92, 93, 94, 95, 96, 97, 98, 99, 100, 101, 102, 103, 104, 105, 106, 107, 108, 109, 19, 110, 111, 112, 30, 31, 32, 133, 134, 135, 113, 114, 115, 116, 117, 118, 119, 125, 126, 127, 128, 129, 130, 131, 132, 120, 121, 122, 123, 124] (by decide +kernel) (by decide +kernel)
set_option maxRecDepth 20000 in
theorem gX2_rowThatMade_X2_seek : GoodIn wsX2_rowThatMade (wsV RX2 85 RX2 yX2_seek wsX2_seek) := goodIn_app (goodIn_of _ (by decide +kernel)) ggX2_rowThatMade_X2_seek
theorem dX2_rowThatMade_0 : decode cX2_rowThatMade 0 = .ok (.aload_n 0, 1) := by decide +kernel
theorem dX2_rowThatMade_1 : decode cX2_rowThatMade 1 = .ok (.getfield 12, 3) := by decide +kernel
theorem dX2_rowThatMade_4 : decode cX2_rowThatMade 4 = .ok (.aload_n 1, 1) := by decide +kernel
theorem dX2_rowThatMade_5 : decode cX2_rowThatMade 5 = .ok (.invokevirtual 25, 3) := by decide +kernel
theorem dX2_rowThatMade_8 : decode cX2_rowThatMade 8 = .ok (.aload_n 0, 1) := by decide +kernel
theorem dX2_rowThatMade_9 : decode cX2_rowThatMade 9 = .ok (.getfield 20, 3) := by decide +kernel
theorem dX2_rowThatMade_12 : decode cX2_rowThatMade 12 = .ok (.iconst 0, 1) := by decide +kernel
theorem dX2_rowThatMade_13 : decode cX2_rowThatMade 13 = .ok (.aaload, 1) := by decide +kernel
theorem dX2_rowThatMade_14 : decode cX2_rowThatMade 14 = .ok (.invokevirtual 79, 3) := by decide +kernel
theorem dX2_rowThatMade_17 : decode cX2_rowThatMade 17 = .ok (.aload_n 0, 1) := by decide +kernel
theorem dX2_rowThatMade_18 : decode cX2_rowThatMade 18 = .ok (.getfield 20, 3) := by decide +kernel
theorem dX2_rowThatMade_21 : decode cX2_rowThatMade 21 = .ok (.iconst 0, 1) := by decide +kernel
theorem dX2_rowThatMade_22 : decode cX2_rowThatMade 22 = .ok (.aaload, 1) := by decide +kernel
theorem dX2_rowThatMade_23 : decode cX2_rowThatMade 23 = .ok (.iload_n 3, 1) := by decide +kernel
theorem dX2_rowThatMade_24 : decode cX2_rowThatMade 24 = .ok (.putfield 82, 3) := by decide +kernel
theorem dX2_rowThatMade_27 : decode cX2_rowThatMade 27 = .ok (.aload_n 0, 1) := by decide +kernel
theorem dX2_rowThatMade_28 : decode cX2_rowThatMade 28 = .ok (.aload_n 2, 1) := by decide +kernel
theorem dX2_rowThatMade_29 : decode cX2_rowThatMade 29 = .ok (.iconst 0, 1) := by decide +kernel
theorem dX2_rowThatMade_30 : decode cX2_rowThatMade 30 = .ok (.iconst 0, 1) := by decide +kernel
theorem dX2_rowThatMade_31 : decode cX2_rowThatMade 31 = .ok (.invokevirtual 85, 3) := by decide +kernel
theorem dX2_rowThatMade_34 : decode cX2_rowThatMade 34 = .ok (.ireturn, 1) := by decide +kernel
set_option maxRecDepth 20000 in
theorem ggX2_seek_X2_dipNext : GoodIn wsX2_seek wsX2_dipNext := goodIn_r _ [14, 6, 15, 16, 17, 18, 19, 20, 21, 22, 23, 24, 25, 26, 27, 28, 29, 30, 31, 32, 33, 34, 35, 36, 37, 38, 39, 40, 41, 42, 43, 44, 45, 46, 47, 48, 49, 50, 51, 52, 53, 54, 55, 56, 57, 58, 59, 60, 61, 62, 63, 64, 65, 66, 67, 68, 69, 70, 71, 72, 73, 74, 75, 76, 77, 78, 79, 80, 81, 82, 83, 84, 85, 86, 87, 88, 95, 96, 97, 98, 99, 100, 101, 110, 111, 112, 113, 114, 106, 107, 108, 109] (by decide +kernel) (by decide +kernel)
set_option maxRecDepth 20000 in
theorem gX2_seek_X2_dipNext : GoodIn wsX2_seek (wsV RX2 71 RX2 yX2_dipNext wsX2_dipNext) := goodIn_app (goodIn_of _ (by decide +kernel)) ggX2_seek_X2_dipNext
set_option maxRecDepth 20000 in
theorem ggX2_seek_X2_seek : GoodIn wsX2_seek wsX2_seek := goodIn_r _ [0, 1, 2, 3, 4, 5, 6, 7, 8, 9, 10, 11, 12, 13, 14, 15, 16, 17, 18, 19, 20, 21, 22, 23, 24, 25, 26, 27, 28, 29, 30, 31, 32, 33, 34, 35, 36, 37, 38, 39, 40, 41, 42, 43, 44, 45, 46, 47, 48, 49, 50, 51, 52, 53, 54, 55, 56, 57, 58, 59, 60, 61, 62, 63, 64, 65, 66, 67, 68, 69, 70, 71, 72, 73, 74, 75, 76, 77, 78, 79, 80, 81, 82, 83, 84, 85, 86, 87, 88, 89, 90, 91, 92, 93, 94, 95, 96, 97, 98, 99, 100, 101, 102, 103, 104, 105, 106, 107, 108, 109, 110, 111, 112, 113, 114] (by decide +kernel) (by decide +kernel)
set_option maxRecDepth 20000 in
theorem gX2_seek_X2_seek : GoodIn wsX2_seek (wsV RX2 85 RX2 yX2_seek wsX2_seek) := goodIn_app (goodIn_of _ (by decide +kernel)) ggX2_seek_X2_seek
theorem dX2_seek_0 : decode cX2_seek 0 = .ok (.iload_n 2, 1) := by decide +kernel
theorem dX2_seek_1 : decode cX2_seek 1 = .ok (.aload_n 1, 1) := by decide +kernel
theorem dX2_seek_2 : decode cX2_seek 2 = .ok (.getfield 89, 3) := by decide +kernel
theorem dX2_seek_5 : decode cX2_seek 5 = .ok (.if_icmp .ge 9, 3) := by decide +kernel
theorem dX2_seek_8 : decode cX2_seek 8 = .ok (.iload_n 2, 1) := by decide +kernel
theorem dX2_seek_9 : decode cX2_seek 9 = .ok (.bipush 6, 2) := by decide +kernel
theorem dX2_seek_11 : decode cX2_seek 11 = .ok (.if_icmp .lt 5, 3) := by decide +kernel
theorem dX2_seek_14 : decode cX2_seek 14 = .ok (.iload_n 3, 1) := by decide +kernel
theorem dX2_seek_15 : decode cX2_seek 15 = .ok (.ireturn, 1) := by decide +kernel
theorem dX2_seek_16 : decode cX2_seek 16 = .ok (.iconst (-1), 1) := by decide +kernel
theorem dX2_seek_17 : decode cX2_seek 17 = .ok (.istore 4, 2) := by decide +kernel
theorem dX2_seek_19 : decode cX2_seek 19 = .ok (.iconst 0, 1) := by decide +kernel
theorem dX2_seek_20 : decode cX2_seek 20 = .ok (.istore 5, 2) := by decide +kernel
theorem dX2_seek_22 : decode cX2_seek 22 = .ok (.iload 5, 2) := by decide +kernel
theorem dX2_seek_24 : decode cX2_seek 24 = .ok (.iconst 4, 1) := by decide +kernel
theorem dX2_seek_25 : decode cX2_seek 25 = .ok (.if_icmp .ge 118, 3) := by decide +kernel
theorem dX2_seek_28 : decode cX2_seek 28 = .ok (.iload 4, 2) := by decide +kernel
theorem dX2_seek_30 : decode cX2_seek 30 = .ok (.ifCond .ge 113, 3) := by decide +kernel
theorem dX2_seek_33 : decode cX2_seek 33 = .ok (.aload_n 0, 1) := by decide +kernel
theorem dX2_seek_34 : decode cX2_seek 34 = .ok (.getfield 12, 3) := by decide +kernel
theorem dX2_seek_37 : decode cX2_seek 37 = .ok (.getfield 59, 3) := by decide +kernel
theorem dX2_seek_40 : decode cX2_seek 40 = .ok (.iload 5, 2) := by decide +kernel
theorem dX2_seek_42 : decode cX2_seek 42 = .ok (.aaload, 1) := by decide +kernel
theorem dX2_seek_43 : decode cX2_seek 43 = .ok (.astore 6, 2) := by decide +kernel
theorem dX2_seek_45 : decode cX2_seek 45 = .ok (.aload 6, 2) := by decide +kernel
theorem dX2_seek_47 : decode cX2_seek 47 = .ok (.getfield 63, 3) := by decide +kernel
theorem dX2_seek_50 : decode cX2_seek 50 = .ok (.istore 7, 2) := by decide +kernel
theorem dX2_seek_52 : decode cX2_seek 52 = .ok (.aload 6, 2) := by decide +kernel
theorem dX2_seek_54 : decode cX2_seek 54 = .ok (.getfield 68, 3) := by decide +kernel
theorem dX2_seek_57 : decode cX2_seek 57 = .ok (.istore 8, 2) := by decide +kernel
theorem dX2_seek_59 : decode cX2_seek 59 = .ok (.aload_n 0, 1) := by decide +kernel
theorem dX2_seek_60 : decode cX2_seek 60 = .ok (.iload_n 2, 1) := by decide +kernel
theorem dX2_seek_61 : decode cX2_seek 61 = .ok (.aload 6, 2) := by decide +kernel
theorem dX2_seek_63 : decode cX2_seek 63 = .ok (.invokevirtual 71, 3) := by decide +kernel
theorem dX2_seek_66 : decode cX2_seek 66 = .ok (.aload_n 0, 1) := by decide +kernel
theorem dX2_seek_67 : decode cX2_seek 67 = .ok (.getfield 20, 3) := by decide +kernel
theorem dX2_seek_70 : decode cX2_seek 70 = .ok (.iload_n 2, 1) := by decide +kernel
theorem dX2_seek_71 : decode cX2_seek 71 = .ok (.iconst 1, 1) := by decide +kernel
theorem dX2_seek_72 : decode cX2_seek 72 = .ok (.iadd, 1) := by decide +kernel
theorem dX2_seek_73 : decode cX2_seek 73 = .ok (.aaload, 1) := by decide +kernel
theorem dX2_seek_74 : decode cX2_seek 74 = .ok (.getfield 94, 3) := by decide +kernel
theorem dX2_seek_77 : decode cX2_seek 77 = .ok (.iload_n 2, 1) := by decide +kernel
theorem dX2_seek_78 : decode cX2_seek 78 = .ok (.iconst 1, 1) := by decide +kernel
theorem dX2_seek_79 : decode cX2_seek 79 = .ok (.iadd, 1) := by decide +kernel
theorem dX2_seek_80 : decode cX2_seek 80 = .ok (.if_icmp .ne 43, 3) := by decide +kernel
theorem dX2_seek_83 : decode cX2_seek 83 = .ok (.aload_n 0, 1) := by decide +kernel
theorem dX2_seek_84 : decode cX2_seek 84 = .ok (.getfield 20, 3) := by decide +kernel
theorem dX2_seek_87 : decode cX2_seek 87 = .ok (.iload_n 2, 1) := by decide +kernel
theorem dX2_seek_88 : decode cX2_seek 88 = .ok (.iconst 1, 1) := by decide +kernel
theorem dX2_seek_89 : decode cX2_seek 89 = .ok (.iadd, 1) := by decide +kernel
theorem dX2_seek_90 : decode cX2_seek 90 = .ok (.aaload, 1) := by decide +kernel
theorem dX2_seek_91 : decode cX2_seek 91 = .ok (.getfield 95, 3) := by decide +kernel
theorem dX2_seek_94 : decode cX2_seek 94 = .ok (.iload_n 2, 1) := by decide +kernel
theorem dX2_seek_95 : decode cX2_seek 95 = .ok (.iaload, 1) := by decide +kernel
theorem dX2_seek_96 : decode cX2_seek 96 = .ok (.i2l, 1) := by decide +kernel
theorem dX2_seek_97 : decode cX2_seek 97 = .ok (.aload_n 1, 1) := by decide +kernel
theorem dX2_seek_98 : decode cX2_seek 98 = .ok (.getfield 99, 3) := by decide +kernel
theorem dX2_seek_101 : decode cX2_seek 101 = .ok (.iload_n 2, 1) := by decide +kernel
theorem dX2_seek_102 : decode cX2_seek 102 = .ok (.laload, 1) := by decide +kernel
theorem dX2_seek_103 : decode cX2_seek 103 = .ok (.lcmp, 1) := by decide +kernel
theorem dX2_seek_104 : decode cX2_seek 104 = .ok (.ifCond .ne 19, 3) := by decide +kernel
theorem dX2_seek_107 : decode cX2_seek 107 = .ok (.aload_n 0, 1) := by decide +kernel
theorem dX2_seek_108 : decode cX2_seek 108 = .ok (.aload_n 1, 1) := by decide +kernel
theorem dX2_seek_109 : decode cX2_seek 109 = .ok (.iload_n 2, 1) := by decide +kernel
theorem dX2_seek_110 : decode cX2_seek 110 = .ok (.iconst 1, 1) := by decide +kernel
theorem dX2_seek_111 : decode cX2_seek 111 = .ok (.iadd, 1) := by decide +kernel
theorem dX2_seek_112 : decode cX2_seek 112 = .ok (.iconst 4, 1) := by decide +kernel
theorem dX2_seek_113 : decode cX2_seek 113 = .ok (.iload_n 3, 1) := by decide +kernel
theorem dX2_seek_114 : decode cX2_seek 114 = .ok (.imul, 1) := by decide +kernel
theorem dX2_seek_115 : decode cX2_seek 115 = .ok (.iload 5, 2) := by decide +kernel
theorem dX2_seek_117 : decode cX2_seek 117 = .ok (.iadd, 1) := by decide +kernel
theorem dX2_seek_118 : decode cX2_seek 118 = .ok (.invokevirtual 85, 3) := by decide +kernel
theorem dX2_seek_121 : decode cX2_seek 121 = .ok (.istore 4, 2) := by decide +kernel
theorem dX2_seek_123 : decode cX2_seek 123 = .ok (.aload 6, 2) := by decide +kernel
theorem dX2_seek_125 : decode cX2_seek 125 = .ok (.iload 7, 2) := by decide +kernel
theorem dX2_seek_127 : decode cX2_seek 127 = .ok (.putfield 63, 3) := by decide +kernel
theorem dX2_seek_130 : decode cX2_seek 130 = .ok (.aload 6, 2) := by decide +kernel
theorem dX2_seek_132 : decode cX2_seek 132 = .ok (.iload 8, 2) := by decide +kernel
theorem dX2_seek_134 : decode cX2_seek 134 = .ok (.putfield 68, 3) := by decide +kernel
theorem dX2_seek_137 : decode cX2_seek 137 = .ok (.iinc 5 1, 3) := by decide +kernel
theorem dX2_seek_140 : decode cX2_seek 140 = .ok (.goto (-118), 3) := by decide +kernel
theorem dX2_seek_143 : decode cX2_seek 143 = .ok (.iload 4, 2) := by decide +kernel
theorem dX2_seek_145 : decode cX2_seek 145 = .ok (.ireturn, 1) := by decide +kernel
theorem dX3_init_0 : decode cX3_init 0 = .ok (.aload_n 0, 1) := by decide +kernel
theorem dX3_init_1 : decode cX3_init 1 = .ok (.invokespecial 3, 3) := by decide +kernel
theorem dX3_init_4 : decode cX3_init 4 = .ok (.aload_n 0, 1) := by decide +kernel
theorem dX3_init_5 : decode cX3_init 5 = .ok (.bipush 40, 2) := by decide +kernel
theorem dX3_init_7 : decode cX3_init 7 = .ok (.newarray .long, 2) := by decide +kernel
theorem dX3_init_9 : decode cX3_init 9 = .ok (.putfield 9, 3) := by decide +kernel
theorem dX3_init_12 : decode cX3_init 12 = .ok (.return_, 1) := by decide +kernel
theorem dX3_isMissing_0 : decode cX3_isMissing 0 = .ok (.aload_n 0, 1) := by decide +kernel
theorem dX3_isMissing_1 : decode cX3_isMissing 1 = .ok (.getfield 15, 3) := by decide +kernel
theorem dX3_isMissing_4 : decode cX3_isMissing 4 = .ok (.ifCond .ne 7, 3) := by decide +kernel
theorem dX3_isMissing_7 : decode cX3_isMissing 7 = .ok (.iconst 1, 1) := by decide +kernel
theorem dX3_isMissing_8 : decode cX3_isMissing 8 = .ok (.goto 4, 3) := by decide +kernel
theorem dX3_isMissing_11 : decode cX3_isMissing 11 = .ok (.iconst 0, 1) := by decide +kernel
theorem dX3_isMissing_12 : decode cX3_isMissing 12 = .ok (.ireturn, 1) := by decide +kernel
set_option maxRecDepth 20000 in
theorem ggX3_lay_J7_fill_d0a16 : GoodIn wsX3_lay wsJ7_fill_d0a16 := goodIn_r _ [7] (by decide +kernel) (by decide +kernel)
set_option maxRecDepth 20000 in
theorem gX3_lay_J7_fill_d0a16 : GoodIn wsX3_lay (va_wsS RX3 22 yJ7_fill_d0a16 wsJ7_fill_d0a16) := goodIn_app (goodIn_of _ (by decide +kernel)) ggX3_lay_J7_fill_d0a16
theorem dX3_lay_0 : decode cX3_lay 0 = .ok (.aload_n 0, 1) := by decide +kernel
theorem dX3_lay_1 : decode cX3_lay 1 = .ok (.iload_n 1, 1) := by decide +kernel
theorem dX3_lay_2 : decode cX3_lay 2 = .ok (.putfield 15, 3) := by decide +kernel
theorem dX3_lay_5 : decode cX3_lay 5 = .ok (.aload_n 0, 1) := by decide +kernel
theorem dX3_lay_6 : decode cX3_lay 6 = .ok (.iload_n 1, 1) := by decide +kernel
theorem dX3_lay_7 : decode cX3_lay 7 = .ok (.ifCond .ne 7, 3) := by decide +kernel
theorem dX3_lay_10 : decode cX3_lay 10 = .ok (.iconst 0, 1) := by decide +kernel
theorem dX3_lay_11 : decode cX3_lay 11 = .ok (.goto 4, 3) := by decide +kernel
theorem dX3_lay_14 : decode cX3_lay 14 = .ok (.iload_n 2, 1) := by decide +kernel
theorem dX3_lay_15 : decode cX3_lay 15 = .ok (.putfield 19, 3) := by decide +kernel
theorem dX3_lay_18 : decode cX3_lay 18 = .ok (.aload_n 0, 1) := by decide +kernel
theorem dX3_lay_19 : decode cX3_lay 19 = .ok (.getfield 9, 3) := by decide +kernel
theorem dX3_lay_22 : decode cX3_lay 22 = .ok (.lconst 0, 1) := by decide +kernel
theorem dX3_lay_23 : decode cX3_lay 23 = .ok (.invokestatic 22, 3) := by decide +kernel
theorem dX3_lay_26 : decode cX3_lay 26 = .ok (.return_, 1) := by decide +kernel
set_option maxRecDepth 20000 in
theorem ggX3_put_X8_within : GoodIn wsX3_put wsX8_within := goodIn_r _ [6] (by decide +kernel) (by decide +kernel)
set_option maxRecDepth 20000 in
theorem gX3_put_X8_within_n28 : GoodIn wsX3_put (wsX8_within) := ggX3_put_X8_within
theorem dX3_put_0 : decode cX3_put 0 = .ok (.iload_n 1, 1) := by decide +kernel
theorem dX3_put_1 : decode cX3_put 1 = .ok (.iconst 0, 1) := by decide +kernel
theorem dX3_put_2 : decode cX3_put 2 = .ok (.aload_n 0, 1) := by decide +kernel
theorem dX3_put_3 : decode cX3_put 3 = .ok (.getfield 19, 3) := by decide +kernel
theorem dX3_put_6 : decode cX3_put 6 = .ok (.iconst 1, 1) := by decide +kernel
theorem dX3_put_7 : decode cX3_put 7 = .ok (.isub, 1) := by decide +kernel
theorem dX3_put_8 : decode cX3_put 8 = .ok (.invokestatic 28, 3) := by decide +kernel
theorem dX3_put_11 : decode cX3_put 11 = .ok (.ifCond .ne 4, 3) := by decide +kernel
theorem dX3_put_14 : decode cX3_put 14 = .ok (.return_, 1) := by decide +kernel
theorem dX3_put_15 : decode cX3_put 15 = .ok (.aload_n 0, 1) := by decide +kernel
theorem dX3_put_16 : decode cX3_put 16 = .ok (.getfield 15, 3) := by decide +kernel
theorem dX3_put_19 : decode cX3_put 19 = .ok (.lookupswitch 51 #[(8, 25), (16, 38)], 25) := by decide +kernel
theorem dX3_put_44 : decode cX3_put 44 = .ok (.aload_n 0, 1) := by decide +kernel
theorem dX3_put_45 : decode cX3_put 45 = .ok (.getfield 9, 3) := by decide +kernel
theorem dX3_put_48 : decode cX3_put 48 = .ok (.iload_n 1, 1) := by decide +kernel
theorem dX3_put_49 : decode cX3_put 49 = .ok (.lload_n 2, 1) := by decide +kernel
theorem dX3_put_50 : decode cX3_put 50 = .ok (.l2i, 1) := by decide +kernel
theorem dX3_put_51 : decode cX3_put 51 = .ok (.i2b, 1) := by decide +kernel
theorem dX3_put_52 : decode cX3_put 52 = .ok (.i2l, 1) := by decide +kernel
theorem dX3_put_53 : decode cX3_put 53 = .ok (.lastore, 1) := by decide +kernel
theorem dX3_put_54 : decode cX3_put 54 = .ok (.goto 23, 3) := by decide +kernel
theorem dX3_put_57 : decode cX3_put 57 = .ok (.aload_n 0, 1) := by decide +kernel
theorem dX3_put_58 : decode cX3_put 58 = .ok (.getfield 9, 3) := by decide +kernel
theorem dX3_put_61 : decode cX3_put 61 = .ok (.iload_n 1, 1) := by decide +kernel
theorem dX3_put_62 : decode cX3_put 62 = .ok (.lload_n 2, 1) := by decide +kernel
theorem dX3_put_63 : decode cX3_put 63 = .ok (.l2i, 1) := by decide +kernel
theorem dX3_put_64 : decode cX3_put 64 = .ok (.i2s, 1) := by decide +kernel
theorem dX3_put_65 : decode cX3_put 65 = .ok (.i2l, 1) := by decide +kernel
theorem dX3_put_66 : decode cX3_put 66 = .ok (.lastore, 1) := by decide +kernel
theorem dX3_put_67 : decode cX3_put 67 = .ok (.goto 10, 3) := by decide +kernel
theorem dX3_put_70 : decode cX3_put 70 = .ok (.aload_n 0, 1) := by decide +kernel
theorem dX3_put_71 : decode cX3_put 71 = .ok (.getfield 9, 3) := by decide +kernel
theorem dX3_put_74 : decode cX3_put 74 = .ok (.iload_n 1, 1) := by decide +kernel
theorem dX3_put_75 : decode cX3_put 75 = .ok (.lload_n 2, 1) := by decide +kernel
theorem dX3_put_76 : decode cX3_put 76 = .ok (.lastore, 1) := by decide +kernel
theorem dX3_put_77 : decode cX3_put 77 = .ok (.return_, 1) := by decide +kernel
theorem dX3_hasRun_0 : decode cX3_hasRun 0 = .ok (.iload_n 1, 1) := by decide +kernel
theorem dX3_hasRun_1 : decode cX3_hasRun 1 = .ok (.ifCond .lt 29, 3) := by decide +kernel
theorem dX3_hasRun_4 : decode cX3_hasRun 4 = .ok (.iload_n 2, 1) := by decide +kernel
theorem dX3_hasRun_5 : decode cX3_hasRun 5 = .ok (.ifCond .lt 25, 3) := by decide +kernel
theorem dX3_hasRun_8 : decode cX3_hasRun 8 = .ok (.iload_n 1, 1) := by decide +kernel
theorem dX3_hasRun_9 : decode cX3_hasRun 9 = .ok (.aload_n 0, 1) := by decide +kernel
theorem dX3_hasRun_10 : decode cX3_hasRun 10 = .ok (.getfield 19, 3) := by decide +kernel
theorem dX3_hasRun_13 : decode cX3_hasRun 13 = .ok (.if_icmp .gt 17, 3) := by decide +kernel
theorem dX3_hasRun_16 : decode cX3_hasRun 16 = .ok (.iload_n 2, 1) := by decide +kernel
theorem dX3_hasRun_17 : decode cX3_hasRun 17 = .ok (.aload_n 0, 1) := by decide +kernel
theorem dX3_hasRun_18 : decode cX3_hasRun 18 = .ok (.getfield 19, 3) := by decide +kernel
theorem dX3_hasRun_21 : decode cX3_hasRun 21 = .ok (.iload_n 1, 1) := by decide +kernel
theorem dX3_hasRun_22 : decode cX3_hasRun 22 = .ok (.isub, 1) := by decide +kernel
theorem dX3_hasRun_23 : decode cX3_hasRun 23 = .ok (.if_icmp .gt 7, 3) := by decide +kernel
theorem dX3_hasRun_26 : decode cX3_hasRun 26 = .ok (.iconst 1, 1) := by decide +kernel
theorem dX3_hasRun_27 : decode cX3_hasRun 27 = .ok (.goto 4, 3) := by decide +kernel
theorem dX3_hasRun_30 : decode cX3_hasRun 30 = .ok (.iconst 0, 1) := by decide +kernel
theorem dX3_hasRun_31 : decode cX3_hasRun 31 = .ok (.ireturn, 1) := by decide +kernel
theorem dX4_init_0 : decode cX4_init 0 = .ok (.aload_n 0, 1) := by decide +kernel
theorem dX4_init_1 : decode cX4_init 1 = .ok (.invokespecial 3, 3) := by decide +kernel
theorem dX4_init_4 : decode cX4_init 4 = .ok (.aload_n 0, 1) := by decide +kernel
theorem dX4_init_5 : decode cX4_init 5 = .ok (.bipush 120, 2) := by decide +kernel
theorem dX4_init_7 : decode cX4_init 7 = .ok (.newarray .int, 2) := by decide +kernel
theorem dX4_init_9 : decode cX4_init 9 = .ok (.putfield 9, 3) := by decide +kernel
theorem dX4_init_12 : decode cX4_init 12 = .ok (.return_, 1) := by decide +kernel
theorem dX4_append_0 : decode cX4_append 0 = .ok (.aload_n 0, 1) := by decide +kernel
theorem dX4_append_1 : decode cX4_append 1 = .ok (.getfield 15, 3) := by decide +kernel
theorem dX4_append_4 : decode cX4_append 4 = .ok (.bipush 120, 2) := by decide +kernel
theorem dX4_append_6 : decode cX4_append 6 = .ok (.if_icmp .ge 23, 3) := by decide +kernel
theorem dX4_append_9 : decode cX4_append 9 = .ok (.aload_n 0, 1) := by decide +kernel
theorem dX4_append_10 : decode cX4_append 10 = .ok (.getfield 9, 3) := by decide +kernel
theorem dX4_append_13 : decode cX4_append 13 = .ok (.aload_n 0, 1) := by decide +kernel
theorem dX4_append_14 : decode cX4_append 14 = .ok (.getfield 15, 3) := by decide +kernel
theorem dX4_append_17 : decode cX4_append 17 = .ok (.iload_n 1, 1) := by decide +kernel
theorem dX4_append_18 : decode cX4_append 18 = .ok (.iastore, 1) := by decide +kernel
theorem dX4_append_19 : decode cX4_append 19 = .ok (.aload_n 0, 1) := by decide +kernel
theorem dX4_append_20 : decode cX4_append 20 = .ok (.dup, 1) := by decide +kernel
theorem dX4_append_21 : decode cX4_append 21 = .ok (.getfield 15, 3) := by decide +kernel
theorem dX4_append_24 : decode cX4_append 24 = .ok (.iconst 1, 1) := by decide +kernel
theorem dX4_append_25 : decode cX4_append 25 = .ok (.iadd, 1) := by decide +kernel
theorem dX4_append_26 : decode cX4_append 26 = .ok (.putfield 15, 3) := by decide +kernel
theorem dX4_append_29 : decode cX4_append 29 = .ok (.return_, 1) := by decide +kernel
set_option maxRecDepth 20000 in
theorem ggX5_init_X1_init : GoodIn wsX5_init wsX1_init := goodIn_r _ [11, 12, 2, 3, 13, 14, 15, 16, 17, 18, 19, 20, 21, 22, 23, 24, 25, 26, 27, 28, 29, 30, 31, 32, 33, 34, 35, 36, 37, 38, 39, 40, 41, 42, 52, 53, 54, 55, 49, 50, 51, 56, 57, 58, 59, 60, 61, 62, 63, 64] (by decide +kernel) (by decide +kernel)
set_option maxRecDepth 20000 in
theorem gX5_init_X1_init : GoodIn wsX5_init (wsX1_init) := ggX5_init_X1_init
theorem dX5_init_0 : decode cX5_init 0 = .ok (.aload_n 0, 1) := by decide +kernel
theorem dX5_init_1 : decode cX5_init 1 = .ok (.invokespecial 3, 3) := by decide +kernel
theorem dX5_init_4 : decode cX5_init 4 = .ok (.aload_n 0, 1) := by decide +kernel
theorem dX5_init_5 : decode cX5_init 5 = .ok (.aload_n 1, 1) := by decide +kernel
theorem dX5_init_6 : decode cX5_init 6 = .ok (.putfield 9, 3) := by decide +kernel
theorem dX5_init_9 : decode cX5_init 9 = .ok (.aload_n 0, 1) := by decide +kernel
theorem dX5_init_10 : decode cX5_init 10 = .ok (.new 15, 3) := by decide +kernel
theorem dX5_init_13 : decode cX5_init 13 = .ok (.dup, 1) := by decide +kernel
theorem dX5_init_14 : decode cX5_init 14 = .ok (.invokespecial 17, 3) := by decide +kernel
theorem dX5_init_17 : decode cX5_init 17 = .ok (.putfield 18, 3) := by decide +kernel
theorem dX5_init_20 : decode cX5_init 20 = .ok (.return_, 1) := by decide +kernel
set_option maxRecDepth 20000 in
theorem ggX5_tell_X1_become : GoodIn wsX5_tell wsX1_become := goodIn_r _ [9, 10, 11, 12, 13, 14, 15, 16, 17, 18, 19, 20, 21, 22, 23, 24, 25, 26, 27, 28, 29, 30, 31, 32, 33, 34, 35, 36, 37, 38, 39, 40, 41, 42, 43, 44, 243, 244, 245, 246, 247, 248, 249, 250, 251, 252, 253, 254, 255, 256, 257, 258] (by decide +kernel) (by decide +kernel)
set_option maxRecDepth 20000 in
theorem gX5_tell_X1_become : GoodIn wsX5_tell (wsV RX5 22 RX1 yX1_become wsX1_become) := goodIn_app (goodIn_of _ (by decide +kernel)) ggX5_tell_X1_become
set_option maxRecDepth 20000 in
theorem ggX5_tell_X5_next : GoodIn wsX5_tell wsX5_next := goodIn_r _ [49, 2, 3, 50, 51, 4, 52, 53, 54, 48, 55, 56, 57, 58, 59, 60, 61, 62, 63, 64, 65, 66, 67, 68, 69, 70, 71, 72, 73, 74, 75, 76, 237, 238, 239, 240, 241, 242, 259, 260] (by decide +kernel) (by decide +kernel)
set_option maxRecDepth 20000 in
theorem gX5_tell_X5_next : GoodIn wsX5_tell (wsV RX5 30 RX5 yX5_next wsX5_next) := goodIn_app (goodIn_of _ (by decide +kernel)) ggX5_tell_X5_next
set_option maxRecDepth 20000 in
theorem ggX5_tell_X5_item : GoodIn wsX5_tell wsX5_item := goodIn_r _ [80, 1, 81, 71, 82, 83, 84, 85, 86, 48, 87, 88, 89, 90, 91, 4, 2, 3, 92, 93, 94, 95, 96, 97, 98, 99, 100, 101, 102, 103, 52, 53, 54, 55, 50, 56, 104, 105, 106, 107, 108, 109, 110, 111, 112, 113, 114, 115, 116, 117, 118, 119, 120, 121, 122, 123, 124, 125, 126, 127, 128, 129, 130, 131, 132, 133, 134, 135, 136, 137, 138, 139, 140, 141, 142, 143, 144, 145, 146, 147, 8, 148, 11, 12, 149, 150, 151, 152, 34, 153, 37, 38, 39, 45, 46, 47, 49, 51, 57, 58, 59, 60, 61, 62, 63, 64, 65, 66, 67, 68, 69, 70, 72, 73, 74, 75, 76, 154, 155, 156, 157, 158, 159, 160, 161, 162, 163, 164, 165, 166, 167, 168, 169, 170, 171, 172, 173, 174, 175, 25, 176, 27, 28, 29, 30, 177, 178, 179, 180, 181, 182, 183, 184, 185, 186, 187, 188, 189, 190, 191, 192, 193, 194, 195, 196, 36, 197, 198, 199, 200, 201, 202, 203, 204, 205, 206, 207, 208, 209, 210, 211, 212, 40, 213, 214, 215, 216, 217, 218, 219, 220, 221, 222, 223, 224, 225, 226, 227, 228, 229, 230, 231, 232, 233, 234, 235, 236, 237, 238, 239, 240, 241, 242, 243, 244, 245, 246, 247, 248, 249, 259, 260, 254, 255, 256, 257, 258, 250, 251, 252, 253] (by decide +kernel) (by decide +kernel)
set_option maxRecDepth 20000 in
theorem gX5_tell_X5_item : GoodIn wsX5_tell (wsV RX5 33 RX5 yX5_item wsX5_item) := goodIn_app (goodIn_of _ (by decide +kernel)) ggX5_tell_X5_item
theorem dX5_tell_0 : decode cX5_tell 0 = .ok (.aload_n 0, 1) := by decide +kernel
theorem dX5_tell_1 : decode cX5_tell 1 = .ok (.getfield 18, 3) := by decide +kernel
theorem dX5_tell_4 : decode cX5_tell 4 = .ok (.aload_n 1, 1) := by decide +kernel
theorem dX5_tell_5 : decode cX5_tell 5 = .ok (.invokevirtual 22, 3) := by decide +kernel
theorem dX5_tell_8 : decode cX5_tell 8 = .ok (.aload_n 0, 1) := by decide +kernel
theorem dX5_tell_9 : decode cX5_tell 9 = .ok (.iconst 0, 1) := by decide +kernel
theorem dX5_tell_10 : decode cX5_tell 10 = .ok (.putfield 26, 3) := by decide +kernel
theorem dX5_tell_13 : decode cX5_tell 13 = .ok (.aload_n 0, 1) := by decide +kernel
theorem dX5_tell_14 : decode cX5_tell 14 = .ok (.invokevirtual 30, 3) := by decide +kernel
theorem dX5_tell_17 : decode cX5_tell 17 = .ok (.iconst 1, 1) := by decide +kernel
theorem dX5_tell_18 : decode cX5_tell 18 = .ok (.istore_n 2, 1) := by decide +kernel
theorem dX5_tell_19 : decode cX5_tell 19 = .ok (.iload_n 2, 1) := by decide +kernel
theorem dX5_tell_20 : decode cX5_tell 20 = .ok (.bipush 120, 2) := by decide +kernel
theorem dX5_tell_22 : decode cX5_tell 22 = .ok (.if_icmp .gt 51, 3) := by decide +kernel
theorem dX5_tell_25 : decode cX5_tell 25 = .ok (.aload_n 0, 1) := by decide +kernel
theorem dX5_tell_26 : decode cX5_tell 26 = .ok (.invokevirtual 33, 3) := by decide +kernel
theorem dX5_tell_29 : decode cX5_tell 29 = .ok (.ifCond .ne 10, 3) := by decide +kernel
theorem dX5_tell_32 : decode cX5_tell 32 = .ok (.iconst (-1), 1) := by decide +kernel
theorem dX5_tell_33 : decode cX5_tell 33 = .ok (.aload_n 0, 1) := by decide +kernel
theorem dX5_tell_34 : decode cX5_tell 34 = .ok (.getfield 37, 3) := by decide +kernel
theorem dX5_tell_37 : decode cX5_tell 37 = .ok (.isub, 1) := by decide +kernel
theorem dX5_tell_38 : decode cX5_tell 38 = .ok (.ireturn, 1) := by decide +kernel
theorem dX5_tell_39 : decode cX5_tell 39 = .ok (.aload_n 0, 1) := by decide +kernel
theorem dX5_tell_40 : decode cX5_tell 40 = .ok (.getfield 40, 3) := by decide +kernel
theorem dX5_tell_43 : decode cX5_tell 43 = .ok (.ifCond .ne 5, 3) := by decide +kernel
theorem dX5_tell_46 : decode cX5_tell 46 = .ok (.iload_n 2, 1) := by decide +kernel
theorem dX5_tell_47 : decode cX5_tell 47 = .ok (.ireturn, 1) := by decide +kernel
theorem dX5_tell_48 : decode cX5_tell 48 = .ok (.aload_n 0, 1) := by decide +kernel
theorem dX5_tell_49 : decode cX5_tell 49 = .ok (.getfield 40, 3) := by decide +kernel
theorem dX5_tell_52 : decode cX5_tell 52 = .ok (.iconst 3, 1) := by decide +kernel
theorem dX5_tell_53 : decode cX5_tell 53 = .ok (.if_icmp .eq 10, 3) := by decide +kernel
theorem dX5_tell_56 : decode cX5_tell 56 = .ok (.iconst (-1), 1) := by decide +kernel
theorem dX5_tell_57 : decode cX5_tell 57 = .ok (.aload_n 0, 1) := by decide +kernel
theorem dX5_tell_58 : decode cX5_tell 58 = .ok (.getfield 37, 3) := by decide +kernel
theorem dX5_tell_61 : decode cX5_tell 61 = .ok (.isub, 1) := by decide +kernel
theorem dX5_tell_62 : decode cX5_tell 62 = .ok (.ireturn, 1) := by decide +kernel
theorem dX5_tell_63 : decode cX5_tell 63 = .ok (.aload_n 0, 1) := by decide +kernel
theorem dX5_tell_64 : decode cX5_tell 64 = .ok (.invokevirtual 30, 3) := by decide +kernel
theorem dX5_tell_67 : decode cX5_tell 67 = .ok (.iinc 2 1, 3) := by decide +kernel
theorem dX5_tell_70 : decode cX5_tell 70 = .ok (.goto (-51), 3) := by decide +kernel
theorem dX5_tell_73 : decode cX5_tell 73 = .ok (.iconst (-1), 1) := by decide +kernel
theorem dX5_tell_74 : decode cX5_tell 74 = .ok (.aload_n 0, 1) := by decide +kernel
theorem dX5_tell_75 : decode cX5_tell 75 = .ok (.getfield 37, 3) := by decide +kernel
theorem dX5_tell_78 : decode cX5_tell 78 = .ok (.isub, 1) := by decide +kernel
theorem dX5_tell_79 : decode cX5_tell 79 = .ok (.ireturn, 1) := by decide +kernel
set_option maxRecDepth 20000 in
theorem ggX5_item_X5_kindNamed : GoodIn wsX5_item wsX5_kindNamed := goodIn_r _ [10, 11, 12, 13, 9, 14, 15, 16, 17, 18, 19, 20, 21, 22, 23, 24, 25, 26, 27, 28, 29, 30, 31, 32, 33, 34, 35, 36, 37, 38, 39, 40, 41, 42, 43, 44, 45, 46, 47, 48, 49, 50, 51, 52, 53, 54, 55, 56, 57, 58, 59, 60, 61, 62, 63, 64, 65, 66, 67, 68, 69, 70, 71, 72, 207, 208, 209, 210, 211, 212, 220, 221] (by decide +kernel) (by decide +kernel)
set_option maxRecDepth 20000 in
theorem gX5_item_X5_kindNamed : GoodIn wsX5_item (wsV RX5 43 RX5 yX5_kindNamed wsX5_kindNamed) := goodIn_app (goodIn_of _ (by decide +kernel)) ggX5_item_X5_kindNamed
set_option maxRecDepth 20000 in
theorem ggX5_item_X5_newCandle : GoodIn wsX5_item wsX5_newCandle := goodIn_r _ [76, 1, 77, 78, 79, 80, 81, 82, 83, 84, 85, 86, 87, 88, 89, 90, 91, 92, 93, 94, 95, 9, 96, 16, 17, 34, 97, 15, 30, 31, 32, 33, 35, 98, 99, 100, 101, 102, 103, 104, 105, 106, 107, 108, 109, 110, 111, 3, 112, 113, 114, 115, 116, 207, 208, 209, 210, 211, 212, 213, 214, 215, 222, 223, 224, 225, 226, 220, 221] (by decide +kernel) (by decide +kernel)
set_option maxRecDepth 20000 in
theorem gX5_item_X5_newCandle : GoodIn wsX5_item (wsV RX5 47 RX5 yX5_newCandle wsX5_newCandle) := goodIn_app (goodIn_of _ (by decide +kernel)) ggX5_item_X5_newCandle
set_option maxRecDepth 20000 in
theorem ggX5_item_X5_skips : GoodIn wsX5_item wsX5_skips := goodIn_r _ [120, 11, 12, 13, 9, 14, 15, 16, 17, 18, 19, 20, 21, 22, 23, 24, 25, 26, 27, 28, 29, 30, 31, 32, 33, 34, 35, 36, 37, 38, 39, 40, 41, 42, 43, 44, 45, 46, 47, 48, 49, 50, 51, 52, 53, 54, 55, 56, 57, 58, 59, 60, 61, 62, 63, 64, 65, 66, 67, 68, 69, 70, 71, 72, 93, 94, 95, 96, 97, 98, 99, 100, 101, 102, 103, 104, 105, 106, 107, 108, 109, 110, 111, 3, 112, 113, 114, 115, 116, 207, 208, 209, 210, 211, 212, 220, 221] (by decide +kernel) (by decide +kernel)
set_option maxRecDepth 20000 in
theorem gX5_item_X5_skips : GoodIn wsX5_item (wsV RX5 53 RX5 yX5_skips wsX5_skips) := goodIn_app (goodIn_of _ (by decide +kernel)) ggX5_item_X5_skips
set_option maxRecDepth 20000 in
theorem ggX5_item_X5_vatItem : GoodIn wsX5_item wsX5_vatItem := goodIn_r _ [124, 1, 2, 125, 3, 126, 127, 128, 129, 130, 9, 131, 15, 93, 94, 95, 96, 16, 17, 34, 97, 30, 31, 32, 33, 35, 98, 99, 100, 101, 102, 103, 104, 105, 106, 107, 108, 109, 110, 111, 112, 113, 114, 115, 116, 117, 118, 119, 120, 11, 12, 13, 14, 18, 19, 20, 21, 22, 23, 24, 25, 26, 27, 28, 29, 36, 37, 38, 39, 40, 41, 42, 43, 44, 45, 46, 47, 48, 49, 50, 51, 52, 53, 54, 55, 56, 57, 58, 59, 60, 61, 62, 63, 64, 65, 66, 67, 68, 69, 70, 71, 72, 132, 133, 134, 135, 136, 137, 138, 139, 140, 141, 142, 143, 144, 207, 208, 209, 210, 211, 212, 213, 214, 215, 216, 217, 218, 219, 227, 228, 229, 230, 220, 221] (by decide +kernel) (by decide +kernel)
set_option maxRecDepth 20000 in
theorem gX5_item_X5_vatItem : GoodIn wsX5_item (wsV RX5 57 RX5 yX5_vatItem wsX5_vatItem) := goodIn_app (goodIn_of _ (by decide +kernel)) ggX5_item_X5_vatItem
set_option maxRecDepth 20000 in
theorem ggX5_item_X5_dipItem : GoodIn wsX5_item wsX5_dipItem := goodIn_r _ [148, 1, 149, 150, 3, 2, 125, 128, 129, 130, 9, 131, 15, 93, 94, 95, 96, 16, 17, 34, 97, 30, 31, 32, 33, 35, 98, 99, 100, 101, 102, 103, 104, 105, 106, 107, 108, 109, 110, 111, 112, 113, 114, 115, 116, 117, 118, 119, 120, 11, 12, 13, 14, 18, 19, 20, 21, 22, 23, 24, 25, 26, 27, 28, 29, 36, 37, 38, 39, 40, 41, 42, 43, 44, 45, 46, 47, 48, 49, 50, 51, 52, 53, 54, 55, 56, 57, 58, 59, 60, 61, 62, 63, 64, 65, 66, 67, 68, 69, 70, 71, 72, 151, 152, 153, 88, 154, 155, 156, 157, 158, 159, 160, 90, 161, 162, 163, 164, 165, 166, 167, 168, 169, 170, 171, 172, 173, 174, 175, 139, 176, 143, 177, 178, 179, 180, 181, 92, 182, 91, 183, 184, 185, 186, 187, 188, 189, 190, 191, 192, 193, 194, 195, 196, 197, 198, 199, 200, 201, 202, 203, 142, 204, 205, 206, 207, 208, 209, 210, 211, 212, 213, 214, 215, 216, 217, 218, 219, 220, 221, 227, 228, 229, 230, 222, 223, 224, 225, 226] (by decide +kernel) (by decide +kernel)
set_option maxRecDepth 20000 in
theorem gX5_item_X5_dipItem : GoodIn wsX5_item (wsV RX5 62 RX5 yX5_dipItem wsX5_dipItem) := goodIn_app (goodIn_of _ (by decide +kernel)) ggX5_item_X5_dipItem
set_option maxRecDepth 20000 in
theorem ggX5_item_X5_isNumber : GoodIn wsX5_item wsX5_isNumber := goodIn_r _ [131, 15, 3, 207, 208, 209, 210, 211, 212] (by decide +kernel) (by decide +kernel)
set_option maxRecDepth 20000 in
theorem gX5_item_X5_isNumber : GoodIn wsX5_item (wsV RX5 67 RX5 yX5_isNumber wsX5_isNumber) := goodIn_app (goodIn_of _ (by decide +kernel)) ggX5_item_X5_isNumber
set_option maxRecDepth 20000 in
theorem ggX5_item_X5_next : GoodIn wsX5_item wsX5_next := goodIn_r _ [96, 16, 17, 34, 97, 15, 30, 31, 32, 9, 33, 35, 98, 99, 100, 101, 102, 103, 104, 105, 106, 107, 108, 109, 110, 111, 3, 112, 113, 114, 115, 116, 207, 208, 209, 210, 211, 212, 220, 221] (by decide +kernel) (by decide +kernel)
set_option maxRecDepth 20000 in
theorem gX5_item_X5_next : GoodIn wsX5_item (wsV RX5 30 RX5 yX5_next wsX5_next) := goodIn_app (goodIn_of _ (by decide +kernel)) ggX5_item_X5_next
theorem dX5_item_0 : decode cX5_item 0 = .ok (.aload_n 0, 1) := by decide +kernel
theorem dX5_item_1 : decode cX5_item 1 = .ok (.invokevirtual 43, 3) := by decide +kernel
theorem dX5_item_4 : decode cX5_item 4 = .ok (.istore_n 1, 1) := by decide +kernel
theorem dX5_item_5 : decode cX5_item 5 = .ok (.iload_n 1, 1) := by decide +kernel
theorem dX5_item_6 : decode cX5_item 6 = .ok (.ifCond .lt 9, 3) := by decide +kernel
theorem dX5_item_9 : decode cX5_item 9 = .ok (.aload_n 0, 1) := by decide +kernel
theorem dX5_item_10 : decode cX5_item 10 = .ok (.iload_n 1, 1) := by decide +kernel
theorem dX5_item_11 : decode cX5_item 11 = .ok (.invokevirtual 47, 3) := by decide +kernel
theorem dX5_item_14 : decode cX5_item 14 = .ok (.ireturn, 1) := by decide +kernel
theorem dX5_item_15 : decode cX5_item 15 = .ok (.aload_n 0, 1) := by decide +kernel
theorem dX5_item_16 : decode cX5_item 16 = .ok (.ldc 51, 2) := by decide +kernel
theorem dX5_item_18 : decode cX5_item 18 = .ok (.invokevirtual 53, 3) := by decide +kernel
theorem dX5_item_21 : decode cX5_item 21 = .ok (.ifCond .eq 8, 3) := by decide +kernel
theorem dX5_item_24 : decode cX5_item 24 = .ok (.aload_n 0, 1) := by decide +kernel
theorem dX5_item_25 : decode cX5_item 25 = .ok (.invokevirtual 57, 3) := by decide +kernel
theorem dX5_item_28 : decode cX5_item 28 = .ok (.ireturn, 1) := by decide +kernel
theorem dX5_item_29 : decode cX5_item 29 = .ok (.aload_n 0, 1) := by decide +kernel
theorem dX5_item_30 : decode cX5_item 30 = .ok (.ldc 60, 2) := by decide +kernel
theorem dX5_item_32 : decode cX5_item 32 = .ok (.invokevirtual 53, 3) := by decide +kernel
theorem dX5_item_35 : decode cX5_item 35 = .ok (.ifCond .eq 8, 3) := by decide +kernel
theorem dX5_item_38 : decode cX5_item 38 = .ok (.aload_n 0, 1) := by decide +kernel
theorem dX5_item_39 : decode cX5_item 39 = .ok (.invokevirtual 62, 3) := by decide +kernel
theorem dX5_item_42 : decode cX5_item 42 = .ok (.ireturn, 1) := by decide +kernel
theorem dX5_item_43 : decode cX5_item 43 = .ok (.aload_n 0, 1) := by decide +kernel
theorem dX5_item_44 : decode cX5_item 44 = .ok (.ldc 65, 2) := by decide +kernel
theorem dX5_item_46 : decode cX5_item 46 = .ok (.invokevirtual 53, 3) := by decide +kernel
theorem dX5_item_49 : decode cX5_item 49 = .ok (.ifCond .eq 35, 3) := by decide +kernel
theorem dX5_item_52 : decode cX5_item 52 = .ok (.aload_n 0, 1) := by decide +kernel
theorem dX5_item_53 : decode cX5_item 53 = .ok (.sipush 9999, 3) := by decide +kernel
theorem dX5_item_56 : decode cX5_item 56 = .ok (.invokevirtual 67, 3) := by decide +kernel
theorem dX5_item_59 : decode cX5_item 59 = .ok (.ifCond .ne 5, 3) := by decide +kernel
theorem dX5_item_62 : decode cX5_item 62 = .ok (.iconst 0, 1) := by decide +kernel
theorem dX5_item_63 : decode cX5_item 63 = .ok (.ireturn, 1) := by decide +kernel
theorem dX5_item_64 : decode cX5_item 64 = .ok (.aload_n 0, 1) := by decide +kernel
theorem dX5_item_65 : decode cX5_item 65 = .ok (.getfield 18, 3) := by decide +kernel
theorem dX5_item_68 : decode cX5_item 68 = .ok (.getfield 70, 3) := by decide +kernel
theorem dX5_item_71 : decode cX5_item 71 = .ok (.aload_n 0, 1) := by decide +kernel
theorem dX5_item_72 : decode cX5_item 72 = .ok (.getfield 74, 3) := by decide +kernel
theorem dX5_item_75 : decode cX5_item 75 = .ok (.putfield 77, 3) := by decide +kernel
theorem dX5_item_78 : decode cX5_item 78 = .ok (.aload_n 0, 1) := by decide +kernel
theorem dX5_item_79 : decode cX5_item 79 = .ok (.invokevirtual 30, 3) := by decide +kernel
theorem dX5_item_82 : decode cX5_item 82 = .ok (.iconst 1, 1) := by decide +kernel
theorem dX5_item_83 : decode cX5_item 83 = .ok (.ireturn, 1) := by decide +kernel
theorem dX5_item_84 : decode cX5_item 84 = .ok (.aload_n 0, 1) := by decide +kernel
theorem dX5_item_85 : decode cX5_item 85 = .ok (.ldc 81, 2) := by decide +kernel
theorem dX5_item_87 : decode cX5_item 87 = .ok (.invokevirtual 53, 3) := by decide +kernel
theorem dX5_item_90 : decode cX5_item 90 = .ok (.ifCond .eq 12, 3) := by decide +kernel
theorem dX5_item_93 : decode cX5_item 93 = .ok (.aload_n 0, 1) := by decide +kernel
theorem dX5_item_94 : decode cX5_item 94 = .ok (.bipush 9, 2) := by decide +kernel
theorem dX5_item_96 : decode cX5_item 96 = .ok (.invokevirtual 67, 3) := by decide +kernel
theorem dX5_item_99 : decode cX5_item 99 = .ok (.ifCond .ne 5, 3) := by decide +kernel
theorem dX5_item_102 : decode cX5_item 102 = .ok (.iconst 0, 1) := by decide +kernel
theorem dX5_item_103 : decode cX5_item 103 = .ok (.ireturn, 1) := by decide +kernel
theorem dX5_item_104 : decode cX5_item 104 = .ok (.aload_n 0, 1) := by decide +kernel
theorem dX5_item_105 : decode cX5_item 105 = .ok (.getfield 18, 3) := by decide +kernel
theorem dX5_item_108 : decode cX5_item 108 = .ok (.getfield 70, 3) := by decide +kernel
theorem dX5_item_111 : decode cX5_item 111 = .ok (.aload_n 0, 1) := by decide +kernel
theorem dX5_item_112 : decode cX5_item 112 = .ok (.getfield 74, 3) := by decide +kernel
theorem dX5_item_115 : decode cX5_item 115 = .ok (.putfield 83, 3) := by decide +kernel
theorem dX5_item_118 : decode cX5_item 118 = .ok (.aload_n 0, 1) := by decide +kernel
theorem dX5_item_119 : decode cX5_item 119 = .ok (.invokevirtual 30, 3) := by decide +kernel
theorem dX5_item_122 : decode cX5_item 122 = .ok (.iconst 1, 1) := by decide +kernel
theorem dX5_item_123 : decode cX5_item 123 = .ok (.ireturn, 1) := by decide +kernel
set_option maxRecDepth 20000 in
theorem ggX5_newCandle_X1_addCandle : GoodIn wsX5_newCandle wsX1_addCandle := goodIn_r _ [6, 7, 8, 9, 10, 11, 12, 13, 14, 15, 16, 17, 59, 60, 61, 62, 63, 64, 65, 66] (by decide +kernel) (by decide +kernel)
set_option maxRecDepth 20000 in
theorem gX5_newCandle_X1_addCandle : GoodIn wsX5_newCandle (wsV RX5 85 RX1 yX1_addCandle wsX1_addCandle) := goodIn_app (goodIn_of _ (by decide +kernel)) ggX5_newCandle_X1_addCandle
set_option maxRecDepth 20000 in
theorem ggX5_newCandle_X5_next : GoodIn wsX5_newCandle wsX5_next := goodIn_r _ [22, 23, 24, 25, 26, 27, 28, 29, 30, 21, 31, 32, 33, 34, 35, 36, 37, 38, 39, 40, 41, 42, 43, 44, 45, 46, 47, 48, 49, 50, 51, 52, 53, 54, 55, 56, 57, 58, 67, 68] (by decide +kernel) (by decide +kernel)
set_option maxRecDepth 20000 in
theorem gX5_newCandle_X5_next : GoodIn wsX5_newCandle (wsV RX5 30 RX5 yX5_next wsX5_next) := goodIn_app (goodIn_of _ (by decide +kernel)) ggX5_newCandle_X5_next
theorem dX5_newCandle_0 : decode cX5_newCandle 0 = .ok (.aload_n 0, 1) := by decide +kernel
theorem dX5_newCandle_1 : decode cX5_newCandle 1 = .ok (.getfield 18, 3) := by decide +kernel
theorem dX5_newCandle_4 : decode cX5_newCandle 4 = .ok (.iload_n 1, 1) := by decide +kernel
theorem dX5_newCandle_5 : decode cX5_newCandle 5 = .ok (.invokevirtual 85, 3) := by decide +kernel
theorem dX5_newCandle_8 : decode cX5_newCandle 8 = .ok (.ifCond .ne 5, 3) := by decide +kernel
theorem dX5_newCandle_11 : decode cX5_newCandle 11 = .ok (.iconst 0, 1) := by decide +kernel
theorem dX5_newCandle_12 : decode cX5_newCandle 12 = .ok (.ireturn, 1) := by decide +kernel
theorem dX5_newCandle_13 : decode cX5_newCandle 13 = .ok (.aload_n 0, 1) := by decide +kernel
theorem dX5_newCandle_14 : decode cX5_newCandle 14 = .ok (.invokevirtual 30, 3) := by decide +kernel
theorem dX5_newCandle_17 : decode cX5_newCandle 17 = .ok (.iconst 1, 1) := by decide +kernel
theorem dX5_newCandle_18 : decode cX5_newCandle 18 = .ok (.ireturn, 1) := by decide +kernel
set_option maxRecDepth 20000 in
theorem ggX5_vatItem_X5_isNumber : GoodIn wsX5_vatItem wsX5_isNumber := goodIn_r _ [11, 12, 4, 115, 116, 117, 118, 119, 120] (by decide +kernel) (by decide +kernel)
set_option maxRecDepth 20000 in
theorem gX5_vatItem_X5_isNumber : GoodIn wsX5_vatItem (wsV RX5 67 RX5 yX5_isNumber wsX5_isNumber) := goodIn_app (goodIn_of _ (by decide +kernel)) ggX5_vatItem_X5_isNumber
set_option maxRecDepth 20000 in
theorem ggX5_vatItem_X5_next : GoodIn wsX5_vatItem wsX5_next := goodIn_r _ [16, 17, 18, 19, 20, 12, 21, 22, 23, 10, 24, 25, 26, 27, 28, 29, 30, 31, 32, 33, 34, 35, 36, 37, 38, 39, 4, 40, 41, 42, 43, 44, 115, 116, 117, 118, 119, 120, 132, 133] (by decide +kernel) (by decide +kernel)
set_option maxRecDepth 20000 in
theorem gX5_vatItem_X5_next : GoodIn wsX5_vatItem (wsV RX5 30 RX5 yX5_next wsX5_next) := goodIn_app (goodIn_of _ (by decide +kernel)) ggX5_vatItem_X5_next
set_option maxRecDepth 20000 in
theorem ggX5_vatItem_X5_skips : GoodIn wsX5_vatItem wsX5_skips := goodIn_r _ [48, 49, 50, 51, 10, 52, 12, 17, 18, 53, 54, 55, 56, 57, 58, 59, 60, 61, 62, 63, 64, 21, 22, 23, 24, 19, 25, 65, 66, 67, 68, 69, 70, 71, 72, 73, 74, 75, 76, 77, 78, 79, 80, 81, 82, 83, 84, 85, 86, 87, 88, 89, 90, 91, 92, 93, 94, 95, 96, 97, 98, 99, 100, 101, 13, 14, 15, 16, 20, 26, 27, 28, 29, 30, 31, 32, 33, 34, 35, 36, 37, 38, 39, 4, 40, 41, 42, 43, 44, 115, 116, 117, 118, 119, 120, 132, 133] (by decide +kernel) (by decide +kernel)
set_option maxRecDepth 20000 in
theorem gX5_vatItem_X5_skips : GoodIn wsX5_vatItem (wsV RX5 53 RX5 yX5_skips wsX5_skips) := goodIn_app (goodIn_of _ (by decide +kernel)) ggX5_vatItem_X5_skips
set_option maxRecDepth 20000 in
theorem ggX5_vatItem_X5_setsPart : GoodIn wsX5_vatItem wsX5_setsPart := goodIn_r _ [105, 4, 7, 8, 9, 10, 11, 12, 106, 107, 108, 109, 110, 111, 112, 113, 114, 13, 14, 15, 16, 17, 18, 19, 20, 21, 22, 23, 24, 25, 26, 27, 28, 29, 30, 31, 32, 33, 34, 35, 36, 37, 38, 39, 40, 41, 42, 43, 44, 115, 116, 117, 118, 119, 120, 128, 129, 130, 131, 132, 133] (by decide +kernel) (by decide +kernel)
set_option maxRecDepth 20000 in
theorem gX5_vatItem_X5_setsPart : GoodIn wsX5_vatItem (wsV RX5 103 RX5 yX5_setsPart wsX5_setsPart) := goodIn_app (goodIn_of _ (by decide +kernel)) ggX5_vatItem_X5_setsPart
theorem dX5_vatItem_0 : decode cX5_vatItem 0 = .ok (.aload_n 0, 1) := by decide +kernel
theorem dX5_vatItem_1 : decode cX5_vatItem 1 = .ok (.iconst 3, 1) := by decide +kernel
theorem dX5_vatItem_2 : decode cX5_vatItem 2 = .ok (.invokevirtual 67, 3) := by decide +kernel
theorem dX5_vatItem_5 : decode cX5_vatItem 5 = .ok (.ifCond .ne 5, 3) := by decide +kernel
theorem dX5_vatItem_8 : decode cX5_vatItem 8 = .ok (.iconst 0, 1) := by decide +kernel
theorem dX5_vatItem_9 : decode cX5_vatItem 9 = .ok (.ireturn, 1) := by decide +kernel
theorem dX5_vatItem_10 : decode cX5_vatItem 10 = .ok (.aload_n 0, 1) := by decide +kernel
theorem dX5_vatItem_11 : decode cX5_vatItem 11 = .ok (.getfield 18, 3) := by decide +kernel
theorem dX5_vatItem_14 : decode cX5_vatItem 14 = .ok (.getfield 70, 3) := by decide +kernel
theorem dX5_vatItem_17 : decode cX5_vatItem 17 = .ok (.getfield 88, 3) := by decide +kernel
theorem dX5_vatItem_20 : decode cX5_vatItem 20 = .ok (.aload_n 0, 1) := by decide +kernel
theorem dX5_vatItem_21 : decode cX5_vatItem 21 = .ok (.getfield 74, 3) := by decide +kernel
theorem dX5_vatItem_24 : decode cX5_vatItem 24 = .ok (.aaload, 1) := by decide +kernel
theorem dX5_vatItem_25 : decode cX5_vatItem 25 = .ok (.astore_n 1, 1) := by decide +kernel
theorem dX5_vatItem_26 : decode cX5_vatItem 26 = .ok (.aload_n 0, 1) := by decide +kernel
theorem dX5_vatItem_27 : decode cX5_vatItem 27 = .ok (.invokevirtual 30, 3) := by decide +kernel
theorem dX5_vatItem_30 : decode cX5_vatItem 30 = .ok (.aload_n 0, 1) := by decide +kernel
theorem dX5_vatItem_31 : decode cX5_vatItem 31 = .ok (.ldc 92, 2) := by decide +kernel
theorem dX5_vatItem_33 : decode cX5_vatItem 33 = .ok (.invokevirtual 53, 3) := by decide +kernel
theorem dX5_vatItem_36 : decode cX5_vatItem 36 = .ok (.ifCond .eq 11, 3) := by decide +kernel
theorem dX5_vatItem_39 : decode cX5_vatItem 39 = .ok (.aload_n 1, 1) := by decide +kernel
theorem dX5_vatItem_40 : decode cX5_vatItem 40 = .ok (.iconst 0, 1) := by decide +kernel
theorem dX5_vatItem_41 : decode cX5_vatItem 41 = .ok (.putfield 94, 3) := by decide +kernel
theorem dX5_vatItem_44 : decode cX5_vatItem 44 = .ok (.goto 17, 3) := by decide +kernel
theorem dX5_vatItem_47 : decode cX5_vatItem 47 = .ok (.aload_n 0, 1) := by decide +kernel
theorem dX5_vatItem_48 : decode cX5_vatItem 48 = .ok (.ldc 100, 2) := by decide +kernel
theorem dX5_vatItem_50 : decode cX5_vatItem 50 = .ok (.invokevirtual 53, 3) := by decide +kernel
theorem dX5_vatItem_53 : decode cX5_vatItem 53 = .ok (.ifCond .eq 8, 3) := by decide +kernel
theorem dX5_vatItem_56 : decode cX5_vatItem 56 = .ok (.aload_n 1, 1) := by decide +kernel
theorem dX5_vatItem_57 : decode cX5_vatItem 57 = .ok (.iconst 1, 1) := by decide +kernel
theorem dX5_vatItem_58 : decode cX5_vatItem 58 = .ok (.putfield 94, 3) := by decide +kernel
theorem dX5_vatItem_61 : decode cX5_vatItem 61 = .ok (.aload_n 0, 1) := by decide +kernel
theorem dX5_vatItem_62 : decode cX5_vatItem 62 = .ok (.ldc 101, 2) := by decide +kernel
theorem dX5_vatItem_64 : decode cX5_vatItem 64 = .ok (.invokevirtual 53, 3) := by decide +kernel
theorem dX5_vatItem_67 : decode cX5_vatItem 67 = .ok (.ifCond .eq 14, 3) := by decide +kernel
theorem dX5_vatItem_70 : decode cX5_vatItem 70 = .ok (.aload_n 0, 1) := by decide +kernel
theorem dX5_vatItem_71 : decode cX5_vatItem 71 = .ok (.aload_n 1, 1) := by decide +kernel
theorem dX5_vatItem_72 : decode cX5_vatItem 72 = .ok (.iconst 1, 1) := by decide +kernel
theorem dX5_vatItem_73 : decode cX5_vatItem 73 = .ok (.invokevirtual 103, 3) := by decide +kernel
theorem dX5_vatItem_76 : decode cX5_vatItem 76 = .ok (.ifCond .ne 5, 3) := by decide +kernel
theorem dX5_vatItem_79 : decode cX5_vatItem 79 = .ok (.iconst 0, 1) := by decide +kernel
theorem dX5_vatItem_80 : decode cX5_vatItem 80 = .ok (.ireturn, 1) := by decide +kernel
theorem dX5_vatItem_81 : decode cX5_vatItem 81 = .ok (.aload_n 0, 1) := by decide +kernel
theorem dX5_vatItem_82 : decode cX5_vatItem 82 = .ok (.ldc 107, 2) := by decide +kernel
theorem dX5_vatItem_84 : decode cX5_vatItem 84 = .ok (.invokevirtual 53, 3) := by decide +kernel
theorem dX5_vatItem_87 : decode cX5_vatItem 87 = .ok (.ifCond .eq 14, 3) := by decide +kernel
theorem dX5_vatItem_90 : decode cX5_vatItem 90 = .ok (.aload_n 0, 1) := by decide +kernel
theorem dX5_vatItem_91 : decode cX5_vatItem 91 = .ok (.aload_n 1, 1) := by decide +kernel
theorem dX5_vatItem_92 : decode cX5_vatItem 92 = .ok (.iconst 2, 1) := by decide +kernel
theorem dX5_vatItem_93 : decode cX5_vatItem 93 = .ok (.invokevirtual 103, 3) := by decide +kernel
theorem dX5_vatItem_96 : decode cX5_vatItem 96 = .ok (.ifCond .ne 5, 3) := by decide +kernel
theorem dX5_vatItem_99 : decode cX5_vatItem 99 = .ok (.iconst 0, 1) := by decide +kernel
theorem dX5_vatItem_100 : decode cX5_vatItem 100 = .ok (.ireturn, 1) := by decide +kernel
theorem dX5_vatItem_101 : decode cX5_vatItem 101 = .ok (.aload_n 0, 1) := by decide +kernel
theorem dX5_vatItem_102 : decode cX5_vatItem 102 = .ok (.ldc 109, 2) := by decide +kernel
theorem dX5_vatItem_104 : decode cX5_vatItem 104 = .ok (.invokevirtual 53, 3) := by decide +kernel
theorem dX5_vatItem_107 : decode cX5_vatItem 107 = .ok (.ifCond .eq 11, 3) := by decide +kernel
theorem dX5_vatItem_110 : decode cX5_vatItem 110 = .ok (.aload_n 1, 1) := by decide +kernel
theorem dX5_vatItem_111 : decode cX5_vatItem 111 = .ok (.iconst 1, 1) := by decide +kernel
theorem dX5_vatItem_112 : decode cX5_vatItem 112 = .ok (.putfield 111, 3) := by decide +kernel
theorem dX5_vatItem_115 : decode cX5_vatItem 115 = .ok (.goto 17, 3) := by decide +kernel
theorem dX5_vatItem_118 : decode cX5_vatItem 118 = .ok (.aload_n 0, 1) := by decide +kernel
theorem dX5_vatItem_119 : decode cX5_vatItem 119 = .ok (.ldc 113, 2) := by decide +kernel
theorem dX5_vatItem_121 : decode cX5_vatItem 121 = .ok (.invokevirtual 53, 3) := by decide +kernel
theorem dX5_vatItem_124 : decode cX5_vatItem 124 = .ok (.ifCond .eq 8, 3) := by decide +kernel
theorem dX5_vatItem_127 : decode cX5_vatItem 127 = .ok (.aload_n 1, 1) := by decide +kernel
theorem dX5_vatItem_128 : decode cX5_vatItem 128 = .ok (.iconst 0, 1) := by decide +kernel
theorem dX5_vatItem_129 : decode cX5_vatItem 129 = .ok (.putfield 111, 3) := by decide +kernel
theorem dX5_vatItem_132 : decode cX5_vatItem 132 = .ok (.iconst 1, 1) := by decide +kernel
theorem dX5_vatItem_133 : decode cX5_vatItem 133 = .ok (.ireturn, 1) := by decide +kernel
set_option maxRecDepth 20000 in
theorem ggX5_setsPart_X5_isNumber : GoodIn wsX5_setsPart wsX5_isNumber := goodIn_r _ [6, 7, 1, 49, 50, 51, 52, 53, 54] (by decide +kernel) (by decide +kernel)
set_option maxRecDepth 20000 in
theorem gX5_setsPart_X5_isNumber : GoodIn wsX5_setsPart (wsV RX5 67 RX5 yX5_isNumber wsX5_isNumber) := goodIn_app (goodIn_of _ (by decide +kernel)) ggX5_setsPart_X5_isNumber
set_option maxRecDepth 20000 in
theorem ggX5_setsPart_X6_setPart : GoodIn wsX5_setsPart wsX6_setPart := goodIn_r _ [12, 13, 14, 15, 16, 55, 56, 57, 58] (by decide +kernel) (by decide +kernel)
set_option maxRecDepth 20000 in
theorem gX5_setsPart_X6_setPart : GoodIn wsX5_setsPart (wsV RX5 119 RX6 yX6_setPart wsX6_setPart) := goodIn_app (goodIn_of _ (by decide +kernel)) ggX5_setsPart_X6_setPart
set_option maxRecDepth 20000 in
theorem ggX5_setsPart_X5_next : GoodIn wsX5_setsPart wsX5_next := goodIn_r _ [20, 21, 22, 23, 24, 7, 25, 26, 27, 5, 28, 29, 30, 31, 32, 33, 34, 35, 36, 37, 38, 39, 40, 41, 42, 43, 1, 44, 45, 46, 47, 48, 49, 50, 51, 52, 53, 54, 59, 60] (by decide +kernel) (by decide +kernel)
set_option maxRecDepth 20000 in
theorem gX5_setsPart_X5_next : GoodIn wsX5_setsPart (wsV RX5 30 RX5 yX5_next wsX5_next) := goodIn_app (goodIn_of _ (by decide +kernel)) ggX5_setsPart_X5_next
theorem dX5_setsPart_0 : decode cX5_setsPart 0 = .ok (.aload_n 0, 1) := by decide +kernel
theorem dX5_setsPart_1 : decode cX5_setsPart 1 = .ok (.getstatic 115, 3) := by decide +kernel
theorem dX5_setsPart_4 : decode cX5_setsPart 4 = .ok (.iload_n 2, 1) := by decide +kernel
theorem dX5_setsPart_5 : decode cX5_setsPart 5 = .ok (.iaload, 1) := by decide +kernel
theorem dX5_setsPart_6 : decode cX5_setsPart 6 = .ok (.invokevirtual 67, 3) := by decide +kernel
theorem dX5_setsPart_9 : decode cX5_setsPart 9 = .ok (.ifCond .ne 5, 3) := by decide +kernel
theorem dX5_setsPart_12 : decode cX5_setsPart 12 = .ok (.iconst 0, 1) := by decide +kernel
theorem dX5_setsPart_13 : decode cX5_setsPart 13 = .ok (.ireturn, 1) := by decide +kernel
theorem dX5_setsPart_14 : decode cX5_setsPart 14 = .ok (.aload_n 1, 1) := by decide +kernel
theorem dX5_setsPart_15 : decode cX5_setsPart 15 = .ok (.iload_n 2, 1) := by decide +kernel
theorem dX5_setsPart_16 : decode cX5_setsPart 16 = .ok (.aload_n 0, 1) := by decide +kernel
theorem dX5_setsPart_17 : decode cX5_setsPart 17 = .ok (.getfield 74, 3) := by decide +kernel
theorem dX5_setsPart_20 : decode cX5_setsPart 20 = .ok (.invokevirtual 119, 3) := by decide +kernel
theorem dX5_setsPart_23 : decode cX5_setsPart 23 = .ok (.aload_n 0, 1) := by decide +kernel
theorem dX5_setsPart_24 : decode cX5_setsPart 24 = .ok (.invokevirtual 30, 3) := by decide +kernel
theorem dX5_setsPart_27 : decode cX5_setsPart 27 = .ok (.iconst 1, 1) := by decide +kernel
theorem dX5_setsPart_28 : decode cX5_setsPart 28 = .ok (.ireturn, 1) := by decide +kernel
set_option maxRecDepth 20000 in
theorem ggX5_dipItem_X5_isNumber : GoodIn wsX5_dipItem wsX5_isNumber := goodIn_r _ [11, 12, 4, 165, 166, 167, 168, 169, 170] (by decide +kernel) (by decide +kernel)
set_option maxRecDepth 20000 in
theorem gX5_dipItem_X5_isNumber : GoodIn wsX5_dipItem (wsV RX5 67 RX5 yX5_isNumber wsX5_isNumber) := goodIn_app (goodIn_of _ (by decide +kernel)) ggX5_dipItem_X5_isNumber
set_option maxRecDepth 20000 in
theorem ggX5_dipItem_X5_next : GoodIn wsX5_dipItem wsX5_next := goodIn_r _ [16, 17, 18, 19, 20, 12, 21, 22, 23, 10, 24, 25, 26, 27, 28, 29, 30, 31, 32, 33, 34, 35, 36, 37, 38, 39, 4, 40, 41, 42, 43, 44, 165, 166, 167, 168, 169, 170, 178, 179] (by decide +kernel) (by decide +kernel)
set_option maxRecDepth 20000 in
theorem gX5_dipItem_X5_next : GoodIn wsX5_dipItem (wsV RX5 30 RX5 yX5_next wsX5_next) := goodIn_app (goodIn_of _ (by decide +kernel)) ggX5_dipItem_X5_next
set_option maxRecDepth 20000 in
theorem ggX5_dipItem_X5_skips : GoodIn wsX5_dipItem wsX5_skips := goodIn_r _ [48, 49, 50, 51, 10, 52, 12, 17, 18, 53, 54, 55, 56, 57, 58, 59, 60, 61, 62, 63, 64, 21, 22, 23, 24, 19, 25, 65, 66, 67, 68, 69, 70, 71, 72, 73, 74, 75, 76, 77, 78, 79, 80, 81, 82, 83, 84, 85, 86, 87, 88, 89, 90, 91, 92, 93, 94, 95, 96, 97, 98, 99, 100, 101, 13, 14, 15, 16, 20, 26, 27, 28, 29, 30, 31, 32, 33, 34, 35, 36, 37, 38, 39, 4, 40, 41, 42, 43, 44, 165, 166, 167, 168, 169, 170, 178, 179] (by decide +kernel) (by decide +kernel)
set_option maxRecDepth 20000 in
theorem gX5_dipItem_X5_skips : GoodIn wsX5_dipItem (wsV RX5 53 RX5 yX5_skips wsX5_skips) := goodIn_app (goodIn_of _ (by decide +kernel)) ggX5_dipItem_X5_skips
set_option maxRecDepth 20000 in
theorem ggX5_dipItem_X0_dipInto : GoodIn wsX5_dipItem wsX0_dipInto := goodIn_r _ [106, 107, 108, 109, 110, 111, 105, 112, 113, 114, 115, 116, 117, 118, 119, 120, 121, 122, 123, 124, 125, 126, 127, 128, 129, 130, 131, 132, 42, 43, 44, 133, 134, 135, 136, 137, 138, 139, 140, 141, 142, 143, 144, 145, 146, 147, 148, 149, 150, 151, 152, 153, 154, 155, 156, 157, 158, 159, 160, 161, 162, 163, 164, 180, 181, 182, 183, 184, 185, 186, 187, 188] (by decide +kernel) (by decide +kernel)
set_option maxRecDepth 20000 in
theorem gX5_dipItem_X0_dipInto : GoodIn wsX5_dipItem (wsV RX5 132 RX0 yX0_dipInto wsX0_dipInto) := goodIn_app (goodIn_of _ (by decide +kernel)) ggX5_dipItem_X0_dipInto
theorem dX5_dipItem_0 : decode cX5_dipItem 0 = .ok (.aload_n 0, 1) := by decide +kernel
theorem dX5_dipItem_1 : decode cX5_dipItem 1 = .ok (.aload_n 0, 1) := by decide +kernel
theorem dX5_dipItem_2 : decode cX5_dipItem 2 = .ok (.getfield 18, 3) := by decide +kernel
theorem dX5_dipItem_5 : decode cX5_dipItem 5 = .ok (.getfield 123, 3) := by decide +kernel
theorem dX5_dipItem_8 : decode cX5_dipItem 8 = .ok (.iconst 1, 1) := by decide +kernel
theorem dX5_dipItem_9 : decode cX5_dipItem 9 = .ok (.isub, 1) := by decide +kernel
theorem dX5_dipItem_10 : decode cX5_dipItem 10 = .ok (.invokevirtual 67, 3) := by decide +kernel
theorem dX5_dipItem_13 : decode cX5_dipItem 13 = .ok (.ifCond .ne 5, 3) := by decide +kernel
theorem dX5_dipItem_16 : decode cX5_dipItem 16 = .ok (.iconst 0, 1) := by decide +kernel
theorem dX5_dipItem_17 : decode cX5_dipItem 17 = .ok (.ireturn, 1) := by decide +kernel
theorem dX5_dipItem_18 : decode cX5_dipItem 18 = .ok (.aload_n 0, 1) := by decide +kernel
theorem dX5_dipItem_19 : decode cX5_dipItem 19 = .ok (.getfield 18, 3) := by decide +kernel
theorem dX5_dipItem_22 : decode cX5_dipItem 22 = .ok (.getfield 126, 3) := by decide +kernel
theorem dX5_dipItem_25 : decode cX5_dipItem 25 = .ok (.aload_n 0, 1) := by decide +kernel
theorem dX5_dipItem_26 : decode cX5_dipItem 26 = .ok (.getfield 74, 3) := by decide +kernel
theorem dX5_dipItem_29 : decode cX5_dipItem 29 = .ok (.aaload, 1) := by decide +kernel
theorem dX5_dipItem_30 : decode cX5_dipItem 30 = .ok (.astore_n 1, 1) := by decide +kernel
theorem dX5_dipItem_31 : decode cX5_dipItem 31 = .ok (.aload_n 0, 1) := by decide +kernel
theorem dX5_dipItem_32 : decode cX5_dipItem 32 = .ok (.invokevirtual 30, 3) := by decide +kernel
theorem dX5_dipItem_35 : decode cX5_dipItem 35 = .ok (.aload_n 0, 1) := by decide +kernel
theorem dX5_dipItem_36 : decode cX5_dipItem 36 = .ok (.ldc 130, 2) := by decide +kernel
theorem dX5_dipItem_38 : decode cX5_dipItem 38 = .ok (.invokevirtual 53, 3) := by decide +kernel
theorem dX5_dipItem_41 : decode cX5_dipItem 41 = .ok (.ifCond .eq 11, 3) := by decide +kernel
theorem dX5_dipItem_44 : decode cX5_dipItem 44 = .ok (.aload_n 0, 1) := by decide +kernel
theorem dX5_dipItem_45 : decode cX5_dipItem 45 = .ok (.iconst 3, 1) := by decide +kernel
theorem dX5_dipItem_46 : decode cX5_dipItem 46 = .ok (.invokevirtual 67, 3) := by decide +kernel
theorem dX5_dipItem_49 : decode cX5_dipItem 49 = .ok (.ifCond .ne 5, 3) := by decide +kernel
theorem dX5_dipItem_52 : decode cX5_dipItem 52 = .ok (.iconst 0, 1) := by decide +kernel
theorem dX5_dipItem_53 : decode cX5_dipItem 53 = .ok (.ireturn, 1) := by decide +kernel
theorem dX5_dipItem_54 : decode cX5_dipItem 54 = .ok (.aload_n 1, 1) := by decide +kernel
theorem dX5_dipItem_55 : decode cX5_dipItem 55 = .ok (.aload_n 0, 1) := by decide +kernel
theorem dX5_dipItem_56 : decode cX5_dipItem 56 = .ok (.getfield 18, 3) := by decide +kernel
theorem dX5_dipItem_59 : decode cX5_dipItem 59 = .ok (.getfield 70, 3) := by decide +kernel
theorem dX5_dipItem_62 : decode cX5_dipItem 62 = .ok (.getfield 88, 3) := by decide +kernel
theorem dX5_dipItem_65 : decode cX5_dipItem 65 = .ok (.aload_n 0, 1) := by decide +kernel
theorem dX5_dipItem_66 : decode cX5_dipItem 66 = .ok (.getfield 74, 3) := by decide +kernel
theorem dX5_dipItem_69 : decode cX5_dipItem 69 = .ok (.aaload, 1) := by decide +kernel
theorem dX5_dipItem_70 : decode cX5_dipItem 70 = .ok (.invokevirtual 132, 3) := by decide +kernel
theorem dX5_dipItem_73 : decode cX5_dipItem 73 = .ok (.aload_n 0, 1) := by decide +kernel
theorem dX5_dipItem_74 : decode cX5_dipItem 74 = .ok (.invokevirtual 30, 3) := by decide +kernel
theorem dX5_dipItem_77 : decode cX5_dipItem 77 = .ok (.iconst 1, 1) := by decide +kernel
theorem dX5_dipItem_78 : decode cX5_dipItem 78 = .ok (.ireturn, 1) := by decide +kernel
set_option maxRecDepth 20000 in
theorem ggX5_kindNamed_X5_isWord : GoodIn wsX5_kindNamed wsX5_isWord := goodIn_r _ [5, 6, 7, 8, 9, 10, 11, 12, 13, 14, 15, 16, 17, 18, 19, 20, 21, 22, 23, 4, 24, 25, 26, 27, 28, 29, 30, 31, 32, 33, 34, 35, 36, 37, 38, 39, 40, 41, 42, 43, 44, 45, 46, 47, 48, 49, 50, 51, 52, 53, 54, 55, 56, 57, 58, 59, 60, 61, 62, 63, 64, 65, 66, 67, 68, 69, 70, 71] (by decide +kernel) (by decide +kernel)
set_option maxRecDepth 20000 in
theorem gX5_kindNamed_X5_isWord : GoodIn wsX5_kindNamed (wsV RX5 140 RX5 yX5_isWord wsX5_isWord) := goodIn_app (goodIn_of _ (by decide +kernel)) ggX5_kindNamed_X5_isWord
theorem dX5_kindNamed_0 : decode cX5_kindNamed 0 = .ok (.aload_n 0, 1) := by decide +kernel
theorem dX5_kindNamed_1 : decode cX5_kindNamed 1 = .ok (.ldc 138, 2) := by decide +kernel
theorem dX5_kindNamed_3 : decode cX5_kindNamed 3 = .ok (.invokevirtual 140, 3) := by decide +kernel
theorem dX5_kindNamed_6 : decode cX5_kindNamed 6 = .ok (.ifCond .eq 5, 3) := by decide +kernel
theorem dX5_kindNamed_9 : decode cX5_kindNamed 9 = .ok (.iconst 0, 1) := by decide +kernel
theorem dX5_kindNamed_10 : decode cX5_kindNamed 10 = .ok (.ireturn, 1) := by decide +kernel
theorem dX5_kindNamed_11 : decode cX5_kindNamed 11 = .ok (.aload_n 0, 1) := by decide +kernel
theorem dX5_kindNamed_12 : decode cX5_kindNamed 12 = .ok (.ldc 143, 2) := by decide +kernel
theorem dX5_kindNamed_14 : decode cX5_kindNamed 14 = .ok (.invokevirtual 140, 3) := by decide +kernel
theorem dX5_kindNamed_17 : decode cX5_kindNamed 17 = .ok (.ifCond .eq 5, 3) := by decide +kernel
theorem dX5_kindNamed_20 : decode cX5_kindNamed 20 = .ok (.iconst 1, 1) := by decide +kernel
theorem dX5_kindNamed_21 : decode cX5_kindNamed 21 = .ok (.ireturn, 1) := by decide +kernel
theorem dX5_kindNamed_22 : decode cX5_kindNamed 22 = .ok (.aload_n 0, 1) := by decide +kernel
theorem dX5_kindNamed_23 : decode cX5_kindNamed 23 = .ok (.ldc 145, 2) := by decide +kernel
theorem dX5_kindNamed_25 : decode cX5_kindNamed 25 = .ok (.invokevirtual 140, 3) := by decide +kernel
theorem dX5_kindNamed_28 : decode cX5_kindNamed 28 = .ok (.ifCond .eq 5, 3) := by decide +kernel
theorem dX5_kindNamed_31 : decode cX5_kindNamed 31 = .ok (.iconst 2, 1) := by decide +kernel
theorem dX5_kindNamed_32 : decode cX5_kindNamed 32 = .ok (.ireturn, 1) := by decide +kernel
theorem dX5_kindNamed_33 : decode cX5_kindNamed 33 = .ok (.aload_n 0, 1) := by decide +kernel
theorem dX5_kindNamed_34 : decode cX5_kindNamed 34 = .ok (.ldc 147, 2) := by decide +kernel
theorem dX5_kindNamed_36 : decode cX5_kindNamed 36 = .ok (.invokevirtual 140, 3) := by decide +kernel
theorem dX5_kindNamed_39 : decode cX5_kindNamed 39 = .ok (.ifCond .eq 5, 3) := by decide +kernel
theorem dX5_kindNamed_42 : decode cX5_kindNamed 42 = .ok (.iconst 3, 1) := by decide +kernel
theorem dX5_kindNamed_43 : decode cX5_kindNamed 43 = .ok (.ireturn, 1) := by decide +kernel
theorem dX5_kindNamed_44 : decode cX5_kindNamed 44 = .ok (.aload_n 0, 1) := by decide +kernel
theorem dX5_kindNamed_45 : decode cX5_kindNamed 45 = .ok (.ldc 149, 2) := by decide +kernel
theorem dX5_kindNamed_47 : decode cX5_kindNamed 47 = .ok (.invokevirtual 140, 3) := by decide +kernel
theorem dX5_kindNamed_50 : decode cX5_kindNamed 50 = .ok (.ifCond .eq 5, 3) := by decide +kernel
theorem dX5_kindNamed_53 : decode cX5_kindNamed 53 = .ok (.iconst 4, 1) := by decide +kernel
theorem dX5_kindNamed_54 : decode cX5_kindNamed 54 = .ok (.ireturn, 1) := by decide +kernel
theorem dX5_kindNamed_55 : decode cX5_kindNamed 55 = .ok (.aload_n 0, 1) := by decide +kernel
theorem dX5_kindNamed_56 : decode cX5_kindNamed 56 = .ok (.ldc 151, 2) := by decide +kernel
theorem dX5_kindNamed_58 : decode cX5_kindNamed 58 = .ok (.invokevirtual 140, 3) := by decide +kernel
theorem dX5_kindNamed_61 : decode cX5_kindNamed 61 = .ok (.ifCond .eq 7, 3) := by decide +kernel
theorem dX5_kindNamed_64 : decode cX5_kindNamed 64 = .ok (.iconst 5, 1) := by decide +kernel
theorem dX5_kindNamed_65 : decode cX5_kindNamed 65 = .ok (.goto 4, 3) := by decide +kernel
theorem dX5_kindNamed_68 : decode cX5_kindNamed 68 = .ok (.iconst (-1), 1) := by decide +kernel
theorem dX5_kindNamed_69 : decode cX5_kindNamed 69 = .ok (.ireturn, 1) := by decide +kernel
set_option maxRecDepth 20000 in
theorem ggX5_skips_X5_isWord : GoodIn wsX5_skips wsX5_isWord := goodIn_r _ [5, 6, 7, 8, 9, 10, 11, 12, 13, 14, 15, 16, 17, 18, 19, 20, 21, 22, 23, 4, 24, 25, 26, 27, 28, 29, 30, 31, 32, 33, 34, 35, 36, 37, 38, 39, 40, 41, 42, 43, 44, 45, 46, 47, 48, 49, 50, 51, 52, 53, 54, 55, 56, 57, 58, 59, 60, 61, 62, 63, 89, 90, 91, 92, 93, 94, 95, 96] (by decide +kernel) (by decide +kernel)
set_option maxRecDepth 20000 in
theorem gX5_skips_X5_isWord : GoodIn wsX5_skips (wsV RX5 140 RX5 yX5_isWord wsX5_isWord) := goodIn_app (goodIn_of _ (by decide +kernel)) ggX5_skips_X5_isWord
set_option maxRecDepth 20000 in
theorem ggX5_skips_X5_next : GoodIn wsX5_skips wsX5_next := goodIn_r _ [67, 7, 8, 25, 68, 6, 21, 22, 23, 4, 24, 26, 69, 70, 71, 72, 73, 74, 75, 76, 77, 78, 79, 80, 81, 82, 83, 84, 85, 86, 87, 88, 89, 90, 91, 92, 93, 94, 95, 96] (by decide +kernel) (by decide +kernel)
set_option maxRecDepth 20000 in
theorem gX5_skips_X5_next : GoodIn wsX5_skips (wsV RX5 30 RX5 yX5_next wsX5_next) := goodIn_app (goodIn_of _ (by decide +kernel)) ggX5_skips_X5_next
theorem dX5_skips_0 : decode cX5_skips 0 = .ok (.aload_n 0, 1) := by decide +kernel
theorem dX5_skips_1 : decode cX5_skips 1 = .ok (.aload_n 1, 1) := by decide +kernel
theorem dX5_skips_2 : decode cX5_skips 2 = .ok (.invokevirtual 140, 3) := by decide +kernel
theorem dX5_skips_5 : decode cX5_skips 5 = .ok (.ifCond .ne 5, 3) := by decide +kernel
theorem dX5_skips_8 : decode cX5_skips 8 = .ok (.iconst 0, 1) := by decide +kernel
theorem dX5_skips_9 : decode cX5_skips 9 = .ok (.ireturn, 1) := by decide +kernel
theorem dX5_skips_10 : decode cX5_skips 10 = .ok (.aload_n 0, 1) := by decide +kernel
theorem dX5_skips_11 : decode cX5_skips 11 = .ok (.invokevirtual 30, 3) := by decide +kernel
theorem dX5_skips_14 : decode cX5_skips 14 = .ok (.iconst 1, 1) := by decide +kernel
theorem dX5_skips_15 : decode cX5_skips 15 = .ok (.ireturn, 1) := by decide +kernel
set_option maxRecDepth 20000 in
theorem ggX5_isWord_J0_length_8abf5 : GoodIn wsX5_isWord wsJ0_length_8abf5 := goodIn_r _ [8, 9, 10, 11, 12, 7, 13, 14, 15] (by decide +kernel) (by decide +kernel)
set_option maxRecDepth 20000 in
theorem gX5_isWord_J0_length_8abf5 : GoodIn wsX5_isWord (wsV RX5 153 RJ0 yJ0_length_8abf5 wsJ0_length_8abf5) := goodIn_app (goodIn_of _ (by decide +kernel)) ggX5_isWord_J0_length_8abf5
set_option maxRecDepth 20000 in
theorem ggX5_isWord_X5_byteAt : GoodIn wsX5_isWord wsX5_byteAt := goodIn_r _ [20, 21, 22, 60, 61, 62, 63, 64, 65, 66, 67] (by decide +kernel) (by decide +kernel)
set_option maxRecDepth 20000 in
theorem gX5_isWord_X5_byteAt : GoodIn wsX5_isWord (wsV RX5 158 RX5 yX5_byteAt wsX5_byteAt) := goodIn_app (goodIn_of _ (by decide +kernel)) ggX5_isWord_X5_byteAt
set_option maxRecDepth 20000 in
theorem ggX5_isWord_J0_charAt_5068e : GoodIn wsX5_isWord wsJ0_charAt_5068e := goodIn_r _ [26, 9, 27, 28, 29, 7, 30, 14, 15, 31, 32, 33, 34, 35, 36, 37, 38, 39, 40, 41, 42, 43, 44, 45, 46, 47, 48, 49, 50, 51, 52, 53, 54, 55, 56, 57, 58, 59] (by decide +kernel) (by decide +kernel)
set_option maxRecDepth 20000 in
theorem gX5_isWord_J0_charAt_5068e : GoodIn wsX5_isWord (wsV RX5 162 RJ0 yJ0_charAt_5068e wsJ0_charAt_5068e) := goodIn_app (goodIn_of _ (by decide +kernel)) ggX5_isWord_J0_charAt_5068e
theorem dX5_isWord_0 : decode cX5_isWord 0 = .ok (.aload_n 0, 1) := by decide +kernel
theorem dX5_isWord_1 : decode cX5_isWord 1 = .ok (.getfield 40, 3) := by decide +kernel
theorem dX5_isWord_4 : decode cX5_isWord 4 = .ok (.iconst 1, 1) := by decide +kernel
theorem dX5_isWord_5 : decode cX5_isWord 5 = .ok (.if_icmp .ne 19, 3) := by decide +kernel
theorem dX5_isWord_8 : decode cX5_isWord 8 = .ok (.aload_n 0, 1) := by decide +kernel
theorem dX5_isWord_9 : decode cX5_isWord 9 = .ok (.getfield 26, 3) := by decide +kernel
theorem dX5_isWord_12 : decode cX5_isWord 12 = .ok (.aload_n 0, 1) := by decide +kernel
theorem dX5_isWord_13 : decode cX5_isWord 13 = .ok (.getfield 37, 3) := by decide +kernel
theorem dX5_isWord_16 : decode cX5_isWord 16 = .ok (.isub, 1) := by decide +kernel
theorem dX5_isWord_17 : decode cX5_isWord 17 = .ok (.aload_n 1, 1) := by decide +kernel
theorem dX5_isWord_18 : decode cX5_isWord 18 = .ok (.invokevirtual 153, 3) := by decide +kernel
theorem dX5_isWord_21 : decode cX5_isWord 21 = .ok (.if_icmp .eq 5, 3) := by decide +kernel
theorem dX5_isWord_24 : decode cX5_isWord 24 = .ok (.iconst 0, 1) := by decide +kernel
theorem dX5_isWord_25 : decode cX5_isWord 25 = .ok (.ireturn, 1) := by decide +kernel
theorem dX5_isWord_26 : decode cX5_isWord 26 = .ok (.iconst 0, 1) := by decide +kernel
theorem dX5_isWord_27 : decode cX5_isWord 27 = .ok (.istore_n 2, 1) := by decide +kernel
theorem dX5_isWord_28 : decode cX5_isWord 28 = .ok (.iload_n 2, 1) := by decide +kernel
theorem dX5_isWord_29 : decode cX5_isWord 29 = .ok (.aload_n 1, 1) := by decide +kernel
theorem dX5_isWord_30 : decode cX5_isWord 30 = .ok (.invokevirtual 153, 3) := by decide +kernel
theorem dX5_isWord_33 : decode cX5_isWord 33 = .ok (.if_icmp .ge 29, 3) := by decide +kernel
theorem dX5_isWord_36 : decode cX5_isWord 36 = .ok (.aload_n 0, 1) := by decide +kernel
theorem dX5_isWord_37 : decode cX5_isWord 37 = .ok (.aload_n 0, 1) := by decide +kernel
theorem dX5_isWord_38 : decode cX5_isWord 38 = .ok (.getfield 37, 3) := by decide +kernel
theorem dX5_isWord_41 : decode cX5_isWord 41 = .ok (.iload_n 2, 1) := by decide +kernel
theorem dX5_isWord_42 : decode cX5_isWord 42 = .ok (.iadd, 1) := by decide +kernel
theorem dX5_isWord_43 : decode cX5_isWord 43 = .ok (.invokevirtual 158, 3) := by decide +kernel
theorem dX5_isWord_46 : decode cX5_isWord 46 = .ok (.aload_n 1, 1) := by decide +kernel
theorem dX5_isWord_47 : decode cX5_isWord 47 = .ok (.iload_n 2, 1) := by decide +kernel
theorem dX5_isWord_48 : decode cX5_isWord 48 = .ok (.invokevirtual 162, 3) := by decide +kernel
theorem dX5_isWord_51 : decode cX5_isWord 51 = .ok (.if_icmp .eq 5, 3) := by decide +kernel
theorem dX5_isWord_54 : decode cX5_isWord 54 = .ok (.iconst 0, 1) := by decide +kernel
theorem dX5_isWord_55 : decode cX5_isWord 55 = .ok (.ireturn, 1) := by decide +kernel
theorem dX5_isWord_56 : decode cX5_isWord 56 = .ok (.iinc 2 1, 3) := by decide +kernel
theorem dX5_isWord_59 : decode cX5_isWord 59 = .ok (.goto (-31), 3) := by decide +kernel
theorem dX5_isWord_62 : decode cX5_isWord 62 = .ok (.iconst 1, 1) := by decide +kernel
theorem dX5_isWord_63 : decode cX5_isWord 63 = .ok (.ireturn, 1) := by decide +kernel
theorem dX5_isNumber_0 : decode cX5_isNumber 0 = .ok (.aload_n 0, 1) := by decide +kernel
theorem dX5_isNumber_1 : decode cX5_isNumber 1 = .ok (.getfield 40, 3) := by decide +kernel
theorem dX5_isNumber_4 : decode cX5_isNumber 4 = .ok (.iconst 2, 1) := by decide +kernel
theorem dX5_isNumber_5 : decode cX5_isNumber 5 = .ok (.if_icmp .ne 15, 3) := by decide +kernel
theorem dX5_isNumber_8 : decode cX5_isNumber 8 = .ok (.aload_n 0, 1) := by decide +kernel
theorem dX5_isNumber_9 : decode cX5_isNumber 9 = .ok (.getfield 74, 3) := by decide +kernel
theorem dX5_isNumber_12 : decode cX5_isNumber 12 = .ok (.iload_n 1, 1) := by decide +kernel
theorem dX5_isNumber_13 : decode cX5_isNumber 13 = .ok (.if_icmp .gt 7, 3) := by decide +kernel
theorem dX5_isNumber_16 : decode cX5_isNumber 16 = .ok (.iconst 1, 1) := by decide +kernel
theorem dX5_isNumber_17 : decode cX5_isNumber 17 = .ok (.goto 4, 3) := by decide +kernel
theorem dX5_isNumber_20 : decode cX5_isNumber 20 = .ok (.iconst 0, 1) := by decide +kernel
theorem dX5_isNumber_21 : decode cX5_isNumber 21 = .ok (.ireturn, 1) := by decide +kernel
set_option maxRecDepth 20000 in
theorem ggX5_next_X5_byteAt : GoodIn wsX5_next wsX5_byteAt := goodIn_r _ [10, 3, 11, 32, 33, 34, 35, 36, 37, 38, 39] (by decide +kernel) (by decide +kernel)
set_option maxRecDepth 20000 in
theorem gX5_next_X5_byteAt : GoodIn wsX5_next (wsV RX5 158 RX5 yX5_byteAt wsX5_byteAt) := goodIn_app (goodIn_of _ (by decide +kernel)) ggX5_next_X5_byteAt
set_option maxRecDepth 20000 in
theorem ggX5_next_X5_isLetter : GoodIn wsX5_next wsX5_isLetter := goodIn_r _ [14] (by decide +kernel) (by decide +kernel)
set_option maxRecDepth 20000 in
theorem gX5_next_X5_isLetter : GoodIn wsX5_next (va_wsS RX5 170 yX5_isLetter wsX5_isLetter) := goodIn_app (goodIn_of _ (by decide +kernel)) ggX5_next_X5_isLetter
set_option maxRecDepth 20000 in
theorem ggX5_next_X5_passWord : GoodIn wsX5_next wsX5_passWord := goodIn_r _ [18, 1, 3, 4, 6, 7, 8, 9, 10, 11, 12, 13, 14, 32, 33, 34, 35, 36, 37, 38, 39] (by decide +kernel) (by decide +kernel)
set_option maxRecDepth 20000 in
theorem gX5_next_X5_passWord : GoodIn wsX5_next (wsV RX5 173 RX5 yX5_passWord wsX5_passWord) := goodIn_app (goodIn_of _ (by decide +kernel)) ggX5_next_X5_passWord
set_option maxRecDepth 20000 in
theorem ggX5_next_X5_isDigit : GoodIn wsX5_next wsX5_isDigit := goodIn_r _ [21] (by decide +kernel) (by decide +kernel)
set_option maxRecDepth 20000 in
theorem gX5_next_X5_isDigit : GoodIn wsX5_next (va_wsS RX5 176 yX5_isDigit wsX5_isDigit) := goodIn_app (goodIn_of _ (by decide +kernel)) ggX5_next_X5_isDigit
set_option maxRecDepth 20000 in
theorem ggX5_next_X5_passNumber : GoodIn wsX5_next wsX5_passNumber := goodIn_r _ [25, 26, 1, 3, 4, 27, 28, 29, 30, 31, 6, 7, 8, 9, 10, 11, 19, 20, 21, 32, 33, 34, 35, 36, 37, 38, 39] (by decide +kernel) (by decide +kernel)
set_option maxRecDepth 20000 in
theorem gX5_next_X5_passNumber : GoodIn wsX5_next (wsV RX5 179 RX5 yX5_passNumber wsX5_passNumber) := goodIn_app (goodIn_of _ (by decide +kernel)) ggX5_next_X5_passNumber
theorem dX5_next_0 : decode cX5_next 0 = .ok (.aload_n 0, 1) := by decide +kernel
theorem dX5_next_1 : decode cX5_next 1 = .ok (.aload_n 0, 1) := by decide +kernel
theorem dX5_next_2 : decode cX5_next 2 = .ok (.getfield 26, 3) := by decide +kernel
theorem dX5_next_5 : decode cX5_next 5 = .ok (.putfield 37, 3) := by decide +kernel
theorem dX5_next_8 : decode cX5_next 8 = .ok (.aload_n 0, 1) := by decide +kernel
theorem dX5_next_9 : decode cX5_next 9 = .ok (.getfield 37, 3) := by decide +kernel
theorem dX5_next_12 : decode cX5_next 12 = .ok (.aload_n 0, 1) := by decide +kernel
theorem dX5_next_13 : decode cX5_next 13 = .ok (.getfield 9, 3) := by decide +kernel
theorem dX5_next_16 : decode cX5_next 16 = .ok (.getfield 166, 3) := by decide +kernel
theorem dX5_next_19 : decode cX5_next 19 = .ok (.if_icmp .ge 29, 3) := by decide +kernel
theorem dX5_next_22 : decode cX5_next 22 = .ok (.aload_n 0, 1) := by decide +kernel
theorem dX5_next_23 : decode cX5_next 23 = .ok (.aload_n 0, 1) := by decide +kernel
theorem dX5_next_24 : decode cX5_next 24 = .ok (.getfield 37, 3) := by decide +kernel
theorem dX5_next_27 : decode cX5_next 27 = .ok (.invokevirtual 158, 3) := by decide +kernel
theorem dX5_next_30 : decode cX5_next 30 = .ok (.bipush 32, 2) := by decide +kernel
theorem dX5_next_32 : decode cX5_next 32 = .ok (.if_icmp .ne 16, 3) := by decide +kernel
theorem dX5_next_35 : decode cX5_next 35 = .ok (.aload_n 0, 1) := by decide +kernel
theorem dX5_next_36 : decode cX5_next 36 = .ok (.dup, 1) := by decide +kernel
theorem dX5_next_37 : decode cX5_next 37 = .ok (.getfield 37, 3) := by decide +kernel
theorem dX5_next_40 : decode cX5_next 40 = .ok (.iconst 1, 1) := by decide +kernel
theorem dX5_next_41 : decode cX5_next 41 = .ok (.iadd, 1) := by decide +kernel
theorem dX5_next_42 : decode cX5_next 42 = .ok (.putfield 37, 3) := by decide +kernel
theorem dX5_next_45 : decode cX5_next 45 = .ok (.goto (-37), 3) := by decide +kernel
theorem dX5_next_48 : decode cX5_next 48 = .ok (.aload_n 0, 1) := by decide +kernel
theorem dX5_next_49 : decode cX5_next 49 = .ok (.aload_n 0, 1) := by decide +kernel
theorem dX5_next_50 : decode cX5_next 50 = .ok (.getfield 37, 3) := by decide +kernel
theorem dX5_next_53 : decode cX5_next 53 = .ok (.putfield 26, 3) := by decide +kernel
theorem dX5_next_56 : decode cX5_next 56 = .ok (.aload_n 0, 1) := by decide +kernel
theorem dX5_next_57 : decode cX5_next 57 = .ok (.getfield 37, 3) := by decide +kernel
theorem dX5_next_60 : decode cX5_next 60 = .ok (.aload_n 0, 1) := by decide +kernel
theorem dX5_next_61 : decode cX5_next 61 = .ok (.getfield 9, 3) := by decide +kernel
theorem dX5_next_64 : decode cX5_next 64 = .ok (.getfield 166, 3) := by decide +kernel
theorem dX5_next_67 : decode cX5_next 67 = .ok (.if_icmp .lt 11, 3) := by decide +kernel
theorem dX5_next_70 : decode cX5_next 70 = .ok (.aload_n 0, 1) := by decide +kernel
theorem dX5_next_71 : decode cX5_next 71 = .ok (.iconst 0, 1) := by decide +kernel
theorem dX5_next_72 : decode cX5_next 72 = .ok (.putfield 40, 3) := by decide +kernel
theorem dX5_next_75 : decode cX5_next 75 = .ok (.goto 87, 3) := by decide +kernel
theorem dX5_next_78 : decode cX5_next 78 = .ok (.aload_n 0, 1) := by decide +kernel
theorem dX5_next_79 : decode cX5_next 79 = .ok (.aload_n 0, 1) := by decide +kernel
theorem dX5_next_80 : decode cX5_next 80 = .ok (.getfield 37, 3) := by decide +kernel
theorem dX5_next_83 : decode cX5_next 83 = .ok (.invokevirtual 158, 3) := by decide +kernel
theorem dX5_next_86 : decode cX5_next 86 = .ok (.invokestatic 170, 3) := by decide +kernel
theorem dX5_next_89 : decode cX5_next 89 = .ok (.ifCond .eq 15, 3) := by decide +kernel
theorem dX5_next_92 : decode cX5_next 92 = .ok (.aload_n 0, 1) := by decide +kernel
theorem dX5_next_93 : decode cX5_next 93 = .ok (.iconst 1, 1) := by decide +kernel
theorem dX5_next_94 : decode cX5_next 94 = .ok (.putfield 40, 3) := by decide +kernel
theorem dX5_next_97 : decode cX5_next 97 = .ok (.aload_n 0, 1) := by decide +kernel
theorem dX5_next_98 : decode cX5_next 98 = .ok (.invokevirtual 173, 3) := by decide +kernel
theorem dX5_next_101 : decode cX5_next 101 = .ok (.goto 61, 3) := by decide +kernel
theorem dX5_next_104 : decode cX5_next 104 = .ok (.aload_n 0, 1) := by decide +kernel
theorem dX5_next_105 : decode cX5_next 105 = .ok (.aload_n 0, 1) := by decide +kernel
theorem dX5_next_106 : decode cX5_next 106 = .ok (.getfield 37, 3) := by decide +kernel
theorem dX5_next_109 : decode cX5_next 109 = .ok (.invokevirtual 158, 3) := by decide +kernel
theorem dX5_next_112 : decode cX5_next 112 = .ok (.invokestatic 176, 3) := by decide +kernel
theorem dX5_next_115 : decode cX5_next 115 = .ok (.ifCond .eq 15, 3) := by decide +kernel
theorem dX5_next_118 : decode cX5_next 118 = .ok (.aload_n 0, 1) := by decide +kernel
theorem dX5_next_119 : decode cX5_next 119 = .ok (.iconst 2, 1) := by decide +kernel
theorem dX5_next_120 : decode cX5_next 120 = .ok (.putfield 40, 3) := by decide +kernel
theorem dX5_next_123 : decode cX5_next 123 = .ok (.aload_n 0, 1) := by decide +kernel
theorem dX5_next_124 : decode cX5_next 124 = .ok (.invokevirtual 179, 3) := by decide +kernel
theorem dX5_next_127 : decode cX5_next 127 = .ok (.goto 35, 3) := by decide +kernel
theorem dX5_next_130 : decode cX5_next 130 = .ok (.aload_n 0, 1) := by decide +kernel
theorem dX5_next_131 : decode cX5_next 131 = .ok (.aload_n 0, 1) := by decide +kernel
theorem dX5_next_132 : decode cX5_next 132 = .ok (.aload_n 0, 1) := by decide +kernel
theorem dX5_next_133 : decode cX5_next 133 = .ok (.getfield 37, 3) := by decide +kernel
theorem dX5_next_136 : decode cX5_next 136 = .ok (.invokevirtual 158, 3) := by decide +kernel
theorem dX5_next_139 : decode cX5_next 139 = .ok (.bipush 59, 2) := by decide +kernel
theorem dX5_next_141 : decode cX5_next 141 = .ok (.if_icmp .ne 7, 3) := by decide +kernel
theorem dX5_next_144 : decode cX5_next 144 = .ok (.iconst 3, 1) := by decide +kernel
theorem dX5_next_145 : decode cX5_next 145 = .ok (.goto 4, 3) := by decide +kernel
theorem dX5_next_148 : decode cX5_next 148 = .ok (.iconst 4, 1) := by decide +kernel
theorem dX5_next_149 : decode cX5_next 149 = .ok (.putfield 40, 3) := by decide +kernel
theorem dX5_next_152 : decode cX5_next 152 = .ok (.aload_n 0, 1) := by decide +kernel
theorem dX5_next_153 : decode cX5_next 153 = .ok (.dup, 1) := by decide +kernel
theorem dX5_next_154 : decode cX5_next 154 = .ok (.getfield 26, 3) := by decide +kernel
theorem dX5_next_157 : decode cX5_next 157 = .ok (.iconst 1, 1) := by decide +kernel
theorem dX5_next_158 : decode cX5_next 158 = .ok (.iadd, 1) := by decide +kernel
theorem dX5_next_159 : decode cX5_next 159 = .ok (.putfield 26, 3) := by decide +kernel
theorem dX5_next_162 : decode cX5_next 162 = .ok (.return_, 1) := by decide +kernel
set_option maxRecDepth 20000 in
theorem ggX5_passWord_X5_byteAt : GoodIn wsX5_passWord wsX5_byteAt := goodIn_r _ [8, 2, 9, 13, 14, 15, 16, 17, 18, 19, 20] (by decide +kernel) (by decide +kernel)
set_option maxRecDepth 20000 in
theorem gX5_passWord_X5_byteAt : GoodIn wsX5_passWord (wsV RX5 158 RX5 yX5_byteAt wsX5_byteAt) := goodIn_app (goodIn_of _ (by decide +kernel)) ggX5_passWord_X5_byteAt
set_option maxRecDepth 20000 in
theorem ggX5_passWord_X5_isLetter : GoodIn wsX5_passWord wsX5_isLetter := goodIn_r _ [12] (by decide +kernel) (by decide +kernel)
set_option maxRecDepth 20000 in
theorem gX5_passWord_X5_isLetter : GoodIn wsX5_passWord (va_wsS RX5 170 yX5_isLetter wsX5_isLetter) := goodIn_app (goodIn_of _ (by decide +kernel)) ggX5_passWord_X5_isLetter
theorem dX5_passWord_0 : decode cX5_passWord 0 = .ok (.aload_n 0, 1) := by decide +kernel
theorem dX5_passWord_1 : decode cX5_passWord 1 = .ok (.getfield 26, 3) := by decide +kernel
theorem dX5_passWord_4 : decode cX5_passWord 4 = .ok (.aload_n 0, 1) := by decide +kernel
theorem dX5_passWord_5 : decode cX5_passWord 5 = .ok (.getfield 9, 3) := by decide +kernel
theorem dX5_passWord_8 : decode cX5_passWord 8 = .ok (.getfield 166, 3) := by decide +kernel
theorem dX5_passWord_11 : decode cX5_passWord 11 = .ok (.if_icmp .ge 30, 3) := by decide +kernel
theorem dX5_passWord_14 : decode cX5_passWord 14 = .ok (.aload_n 0, 1) := by decide +kernel
theorem dX5_passWord_15 : decode cX5_passWord 15 = .ok (.aload_n 0, 1) := by decide +kernel
theorem dX5_passWord_16 : decode cX5_passWord 16 = .ok (.getfield 26, 3) := by decide +kernel
theorem dX5_passWord_19 : decode cX5_passWord 19 = .ok (.invokevirtual 158, 3) := by decide +kernel
theorem dX5_passWord_22 : decode cX5_passWord 22 = .ok (.invokestatic 170, 3) := by decide +kernel
theorem dX5_passWord_25 : decode cX5_passWord 25 = .ok (.ifCond .eq 16, 3) := by decide +kernel
theorem dX5_passWord_28 : decode cX5_passWord 28 = .ok (.aload_n 0, 1) := by decide +kernel
theorem dX5_passWord_29 : decode cX5_passWord 29 = .ok (.dup, 1) := by decide +kernel
theorem dX5_passWord_30 : decode cX5_passWord 30 = .ok (.getfield 26, 3) := by decide +kernel
theorem dX5_passWord_33 : decode cX5_passWord 33 = .ok (.iconst 1, 1) := by decide +kernel
theorem dX5_passWord_34 : decode cX5_passWord 34 = .ok (.iadd, 1) := by decide +kernel
theorem dX5_passWord_35 : decode cX5_passWord 35 = .ok (.putfield 26, 3) := by decide +kernel
theorem dX5_passWord_38 : decode cX5_passWord 38 = .ok (.goto (-38), 3) := by decide +kernel
theorem dX5_passWord_41 : decode cX5_passWord 41 = .ok (.return_, 1) := by decide +kernel
set_option maxRecDepth 20000 in
theorem ggX5_passNumber_X5_byteAt : GoodIn wsX5_passNumber wsX5_byteAt := goodIn_r _ [14, 3, 15, 19, 20, 21, 22, 23, 24, 25, 26] (by decide +kernel) (by decide +kernel)
set_option maxRecDepth 20000 in
theorem gX5_passNumber_X5_byteAt : GoodIn wsX5_passNumber (wsV RX5 158 RX5 yX5_byteAt wsX5_byteAt) := goodIn_app (goodIn_of _ (by decide +kernel)) ggX5_passNumber_X5_byteAt
set_option maxRecDepth 20000 in
theorem ggX5_passNumber_X5_isDigit : GoodIn wsX5_passNumber wsX5_isDigit := goodIn_r _ [18] (by decide +kernel) (by decide +kernel)
set_option maxRecDepth 20000 in
theorem gX5_passNumber_X5_isDigit : GoodIn wsX5_passNumber (va_wsS RX5 176 yX5_isDigit wsX5_isDigit) := goodIn_app (goodIn_of _ (by decide +kernel)) ggX5_passNumber_X5_isDigit
theorem dX5_passNumber_0 : decode cX5_passNumber 0 = .ok (.aload_n 0, 1) := by decide +kernel
theorem dX5_passNumber_1 : decode cX5_passNumber 1 = .ok (.iconst 0, 1) := by decide +kernel
theorem dX5_passNumber_2 : decode cX5_passNumber 2 = .ok (.putfield 74, 3) := by decide +kernel
theorem dX5_passNumber_5 : decode cX5_passNumber 5 = .ok (.aload_n 0, 1) := by decide +kernel
theorem dX5_passNumber_6 : decode cX5_passNumber 6 = .ok (.getfield 26, 3) := by decide +kernel
theorem dX5_passNumber_9 : decode cX5_passNumber 9 = .ok (.aload_n 0, 1) := by decide +kernel
theorem dX5_passNumber_10 : decode cX5_passNumber 10 = .ok (.getfield 9, 3) := by decide +kernel
theorem dX5_passNumber_13 : decode cX5_passNumber 13 = .ok (.getfield 166, 3) := by decide +kernel
theorem dX5_passNumber_16 : decode cX5_passNumber 16 = .ok (.if_icmp .ge 58, 3) := by decide +kernel
theorem dX5_passNumber_19 : decode cX5_passNumber 19 = .ok (.aload_n 0, 1) := by decide +kernel
theorem dX5_passNumber_20 : decode cX5_passNumber 20 = .ok (.aload_n 0, 1) := by decide +kernel
theorem dX5_passNumber_21 : decode cX5_passNumber 21 = .ok (.getfield 26, 3) := by decide +kernel
theorem dX5_passNumber_24 : decode cX5_passNumber 24 = .ok (.invokevirtual 158, 3) := by decide +kernel
theorem dX5_passNumber_27 : decode cX5_passNumber 27 = .ok (.invokestatic 176, 3) := by decide +kernel
theorem dX5_passNumber_30 : decode cX5_passNumber 30 = .ok (.ifCond .eq 44, 3) := by decide +kernel
theorem dX5_passNumber_33 : decode cX5_passNumber 33 = .ok (.aload_n 0, 1) := by decide +kernel
theorem dX5_passNumber_34 : decode cX5_passNumber 34 = .ok (.ldc 182, 2) := by decide +kernel
theorem dX5_passNumber_36 : decode cX5_passNumber 36 = .ok (.bipush 10, 2) := by decide +kernel
theorem dX5_passNumber_38 : decode cX5_passNumber 38 = .ok (.aload_n 0, 1) := by decide +kernel
theorem dX5_passNumber_39 : decode cX5_passNumber 39 = .ok (.getfield 74, 3) := by decide +kernel
theorem dX5_passNumber_42 : decode cX5_passNumber 42 = .ok (.imul, 1) := by decide +kernel
theorem dX5_passNumber_43 : decode cX5_passNumber 43 = .ok (.aload_n 0, 1) := by decide +kernel
theorem dX5_passNumber_44 : decode cX5_passNumber 44 = .ok (.aload_n 0, 1) := by decide +kernel
theorem dX5_passNumber_45 : decode cX5_passNumber 45 = .ok (.getfield 26, 3) := by decide +kernel
theorem dX5_passNumber_48 : decode cX5_passNumber 48 = .ok (.invokevirtual 158, 3) := by decide +kernel
theorem dX5_passNumber_51 : decode cX5_passNumber 51 = .ok (.iadd, 1) := by decide +kernel
theorem dX5_passNumber_52 : decode cX5_passNumber 52 = .ok (.bipush 48, 2) := by decide +kernel
theorem dX5_passNumber_54 : decode cX5_passNumber 54 = .ok (.isub, 1) := by decide +kernel
theorem dX5_passNumber_55 : decode cX5_passNumber 55 = .ok (.invokestatic 183, 3) := by decide +kernel
theorem dX5_passNumber_58 : decode cX5_passNumber 58 = .ok (.putfield 74, 3) := by decide +kernel
theorem dX5_passNumber_61 : decode cX5_passNumber 61 = .ok (.aload_n 0, 1) := by decide +kernel
theorem dX5_passNumber_62 : decode cX5_passNumber 62 = .ok (.dup, 1) := by decide +kernel
theorem dX5_passNumber_63 : decode cX5_passNumber 63 = .ok (.getfield 26, 3) := by decide +kernel
theorem dX5_passNumber_66 : decode cX5_passNumber 66 = .ok (.iconst 1, 1) := by decide +kernel
theorem dX5_passNumber_67 : decode cX5_passNumber 67 = .ok (.iadd, 1) := by decide +kernel
theorem dX5_passNumber_68 : decode cX5_passNumber 68 = .ok (.putfield 26, 3) := by decide +kernel
theorem dX5_passNumber_71 : decode cX5_passNumber 71 = .ok (.goto (-66), 3) := by decide +kernel
theorem dX5_passNumber_74 : decode cX5_passNumber 74 = .ok (.return_, 1) := by decide +kernel
theorem dX5_byteAt_0 : decode cX5_byteAt 0 = .ok (.iload_n 1, 1) := by decide +kernel
theorem dX5_byteAt_1 : decode cX5_byteAt 1 = .ok (.ifCond .lt 21, 3) := by decide +kernel
theorem dX5_byteAt_4 : decode cX5_byteAt 4 = .ok (.iload_n 1, 1) := by decide +kernel
theorem dX5_byteAt_5 : decode cX5_byteAt 5 = .ok (.bipush 120, 2) := by decide +kernel
theorem dX5_byteAt_7 : decode cX5_byteAt 7 = .ok (.if_icmp .ge 15, 3) := by decide +kernel
theorem dX5_byteAt_10 : decode cX5_byteAt 10 = .ok (.aload_n 0, 1) := by decide +kernel
theorem dX5_byteAt_11 : decode cX5_byteAt 11 = .ok (.getfield 9, 3) := by decide +kernel
theorem dX5_byteAt_14 : decode cX5_byteAt 14 = .ok (.getfield 189, 3) := by decide +kernel
theorem dX5_byteAt_17 : decode cX5_byteAt 17 = .ok (.iload_n 1, 1) := by decide +kernel
theorem dX5_byteAt_18 : decode cX5_byteAt 18 = .ok (.iaload, 1) := by decide +kernel
theorem dX5_byteAt_19 : decode cX5_byteAt 19 = .ok (.goto 4, 3) := by decide +kernel
theorem dX5_byteAt_22 : decode cX5_byteAt 22 = .ok (.iconst (-1), 1) := by decide +kernel
theorem dX5_byteAt_23 : decode cX5_byteAt 23 = .ok (.ireturn, 1) := by decide +kernel
theorem dX5_isLetter_0 : decode cX5_isLetter 0 = .ok (.iload_n 0, 1) := by decide +kernel
theorem dX5_isLetter_1 : decode cX5_isLetter 1 = .ok (.bipush 97, 2) := by decide +kernel
theorem dX5_isLetter_3 : decode cX5_isLetter 3 = .ok (.if_icmp .lt 13, 3) := by decide +kernel
theorem dX5_isLetter_6 : decode cX5_isLetter 6 = .ok (.iload_n 0, 1) := by decide +kernel
theorem dX5_isLetter_7 : decode cX5_isLetter 7 = .ok (.bipush 122, 2) := by decide +kernel
theorem dX5_isLetter_9 : decode cX5_isLetter 9 = .ok (.if_icmp .gt 7, 3) := by decide +kernel
theorem dX5_isLetter_12 : decode cX5_isLetter 12 = .ok (.iconst 1, 1) := by decide +kernel
theorem dX5_isLetter_13 : decode cX5_isLetter 13 = .ok (.goto 4, 3) := by decide +kernel
theorem dX5_isLetter_16 : decode cX5_isLetter 16 = .ok (.iconst 0, 1) := by decide +kernel
theorem dX5_isLetter_17 : decode cX5_isLetter 17 = .ok (.ireturn, 1) := by decide +kernel
theorem dX5_isDigit_0 : decode cX5_isDigit 0 = .ok (.iload_n 0, 1) := by decide +kernel
theorem dX5_isDigit_1 : decode cX5_isDigit 1 = .ok (.bipush 48, 2) := by decide +kernel
theorem dX5_isDigit_3 : decode cX5_isDigit 3 = .ok (.if_icmp .lt 13, 3) := by decide +kernel
theorem dX5_isDigit_6 : decode cX5_isDigit 6 = .ok (.iload_n 0, 1) := by decide +kernel
theorem dX5_isDigit_7 : decode cX5_isDigit 7 = .ok (.bipush 57, 2) := by decide +kernel
theorem dX5_isDigit_9 : decode cX5_isDigit 9 = .ok (.if_icmp .gt 7, 3) := by decide +kernel
theorem dX5_isDigit_12 : decode cX5_isDigit 12 = .ok (.iconst 1, 1) := by decide +kernel
theorem dX5_isDigit_13 : decode cX5_isDigit 13 = .ok (.goto 4, 3) := by decide +kernel
theorem dX5_isDigit_16 : decode cX5_isDigit 16 = .ok (.iconst 0, 1) := by decide +kernel
theorem dX5_isDigit_17 : decode cX5_isDigit 17 = .ok (.ireturn, 1) := by decide +kernel
theorem dX6_init_0 : decode cX6_init 0 = .ok (.aload_n 0, 1) := by decide +kernel
theorem dX6_init_1 : decode cX6_init 1 = .ok (.invokespecial 3, 3) := by decide +kernel
theorem dX6_init_4 : decode cX6_init 4 = .ok (.return_, 1) := by decide +kernel
theorem dX6_become_0 : decode cX6_become 0 = .ok (.aload_n 0, 1) := by decide +kernel
theorem dX6_become_1 : decode cX6_become 1 = .ok (.aload_n 1, 1) := by decide +kernel
theorem dX6_become_2 : decode cX6_become 2 = .ok (.getfield 9, 3) := by decide +kernel
theorem dX6_become_5 : decode cX6_become 5 = .ok (.putfield 9, 3) := by decide +kernel
theorem dX6_become_8 : decode cX6_become 8 = .ok (.aload_n 0, 1) := by decide +kernel
theorem dX6_become_9 : decode cX6_become 9 = .ok (.aload_n 1, 1) := by decide +kernel
theorem dX6_become_10 : decode cX6_become 10 = .ok (.getfield 15, 3) := by decide +kernel
theorem dX6_become_13 : decode cX6_become 13 = .ok (.putfield 15, 3) := by decide +kernel
theorem dX6_become_16 : decode cX6_become 16 = .ok (.aload_n 0, 1) := by decide +kernel
theorem dX6_become_17 : decode cX6_become 17 = .ok (.aload_n 1, 1) := by decide +kernel
theorem dX6_become_18 : decode cX6_become 18 = .ok (.getfield 19, 3) := by decide +kernel
theorem dX6_become_21 : decode cX6_become 21 = .ok (.putfield 19, 3) := by decide +kernel
theorem dX6_become_24 : decode cX6_become 24 = .ok (.aload_n 0, 1) := by decide +kernel
theorem dX6_become_25 : decode cX6_become 25 = .ok (.aload_n 1, 1) := by decide +kernel
theorem dX6_become_26 : decode cX6_become 26 = .ok (.getfield 22, 3) := by decide +kernel
theorem dX6_become_29 : decode cX6_become 29 = .ok (.putfield 22, 3) := by decide +kernel
theorem dX6_become_32 : decode cX6_become 32 = .ok (.return_, 1) := by decide +kernel
theorem dX6_part_0 : decode cX6_part 0 = .ok (.iload_n 1, 1) := by decide +kernel
theorem dX6_part_1 : decode cX6_part 1 = .ok (.tableswitch 50 0 2 #[27, 40, 45], 27) := by decide +kernel
theorem dX6_part_28 : decode cX6_part 28 = .ok (.aload_n 0, 1) := by decide +kernel
theorem dX6_part_29 : decode cX6_part 29 = .ok (.getfield 9, 3) := by decide +kernel
theorem dX6_part_32 : decode cX6_part 32 = .ok (.ifCond .eq 7, 3) := by decide +kernel
theorem dX6_part_35 : decode cX6_part 35 = .ok (.iconst 1, 1) := by decide +kernel
theorem dX6_part_36 : decode cX6_part 36 = .ok (.goto 4, 3) := by decide +kernel
theorem dX6_part_39 : decode cX6_part 39 = .ok (.iconst 0, 1) := by decide +kernel
theorem dX6_part_40 : decode cX6_part 40 = .ok (.ireturn, 1) := by decide +kernel
theorem dX6_part_41 : decode cX6_part 41 = .ok (.aload_n 0, 1) := by decide +kernel
theorem dX6_part_42 : decode cX6_part 42 = .ok (.getfield 15, 3) := by decide +kernel
theorem dX6_part_45 : decode cX6_part 45 = .ok (.ireturn, 1) := by decide +kernel
theorem dX6_part_46 : decode cX6_part 46 = .ok (.aload_n 0, 1) := by decide +kernel
theorem dX6_part_47 : decode cX6_part 47 = .ok (.getfield 19, 3) := by decide +kernel
theorem dX6_part_50 : decode cX6_part 50 = .ok (.ireturn, 1) := by decide +kernel
theorem dX6_part_51 : decode cX6_part 51 = .ok (.aload_n 0, 1) := by decide +kernel
theorem dX6_part_52 : decode cX6_part 52 = .ok (.getfield 22, 3) := by decide +kernel
theorem dX6_part_55 : decode cX6_part 55 = .ok (.ifCond .eq 7, 3) := by decide +kernel
theorem dX6_part_58 : decode cX6_part 58 = .ok (.iconst 1, 1) := by decide +kernel
theorem dX6_part_59 : decode cX6_part 59 = .ok (.goto 4, 3) := by decide +kernel
theorem dX6_part_62 : decode cX6_part 62 = .ok (.iconst 0, 1) := by decide +kernel
theorem dX6_part_63 : decode cX6_part 63 = .ok (.ireturn, 1) := by decide +kernel
theorem dX6_setPart_0 : decode cX6_setPart 0 = .ok (.iload_n 1, 1) := by decide +kernel
theorem dX6_setPart_1 : decode cX6_setPart 1 = .ok (.tableswitch 60 0 2 #[27, 44, 52], 27) := by decide +kernel
theorem dX6_setPart_28 : decode cX6_setPart 28 = .ok (.aload_n 0, 1) := by decide +kernel
theorem dX6_setPart_29 : decode cX6_setPart 29 = .ok (.iload_n 2, 1) := by decide +kernel
theorem dX6_setPart_30 : decode cX6_setPart 30 = .ok (.iconst 1, 1) := by decide +kernel
theorem dX6_setPart_31 : decode cX6_setPart 31 = .ok (.if_icmp .ne 7, 3) := by decide +kernel
theorem dX6_setPart_34 : decode cX6_setPart 34 = .ok (.iconst 1, 1) := by decide +kernel
theorem dX6_setPart_35 : decode cX6_setPart 35 = .ok (.goto 4, 3) := by decide +kernel
theorem dX6_setPart_38 : decode cX6_setPart 38 = .ok (.iconst 0, 1) := by decide +kernel
theorem dX6_setPart_39 : decode cX6_setPart 39 = .ok (.putfield 9, 3) := by decide +kernel
theorem dX6_setPart_42 : decode cX6_setPart 42 = .ok (.goto 33, 3) := by decide +kernel
theorem dX6_setPart_45 : decode cX6_setPart 45 = .ok (.aload_n 0, 1) := by decide +kernel
theorem dX6_setPart_46 : decode cX6_setPart 46 = .ok (.iload_n 2, 1) := by decide +kernel
theorem dX6_setPart_47 : decode cX6_setPart 47 = .ok (.putfield 15, 3) := by decide +kernel
theorem dX6_setPart_50 : decode cX6_setPart 50 = .ok (.goto 25, 3) := by decide +kernel
theorem dX6_setPart_53 : decode cX6_setPart 53 = .ok (.aload_n 0, 1) := by decide +kernel
theorem dX6_setPart_54 : decode cX6_setPart 54 = .ok (.iload_n 2, 1) := by decide +kernel
theorem dX6_setPart_55 : decode cX6_setPart 55 = .ok (.putfield 19, 3) := by decide +kernel
theorem dX6_setPart_58 : decode cX6_setPart 58 = .ok (.goto 17, 3) := by decide +kernel
theorem dX6_setPart_61 : decode cX6_setPart 61 = .ok (.aload_n 0, 1) := by decide +kernel
theorem dX6_setPart_62 : decode cX6_setPart 62 = .ok (.iload_n 2, 1) := by decide +kernel
theorem dX6_setPart_63 : decode cX6_setPart 63 = .ok (.iconst 1, 1) := by decide +kernel
theorem dX6_setPart_64 : decode cX6_setPart 64 = .ok (.if_icmp .ne 7, 3) := by decide +kernel
theorem dX6_setPart_67 : decode cX6_setPart 67 = .ok (.iconst 1, 1) := by decide +kernel
theorem dX6_setPart_68 : decode cX6_setPart 68 = .ok (.goto 4, 3) := by decide +kernel
theorem dX6_setPart_71 : decode cX6_setPart 71 = .ok (.iconst 0, 1) := by decide +kernel
theorem dX6_setPart_72 : decode cX6_setPart 72 = .ok (.putfield 22, 3) := by decide +kernel
theorem dX6_setPart_75 : decode cX6_setPart 75 = .ok (.return_, 1) := by decide +kernel
theorem dX6_pourOut_0 : decode cX6_pourOut 0 = .ok (.iload_n 1, 1) := by decide +kernel
theorem dX6_pourOut_1 : decode cX6_pourOut 1 = .ok (.aload_n 0, 1) := by decide +kernel
theorem dX6_pourOut_2 : decode cX6_pourOut 2 = .ok (.getfield 19, 3) := by decide +kernel
theorem dX6_pourOut_5 : decode cX6_pourOut 5 = .ok (.invokestatic 25, 3) := by decide +kernel
theorem dX6_pourOut_8 : decode cX6_pourOut 8 = .ok (.istore_n 2, 1) := by decide +kernel
theorem dX6_pourOut_9 : decode cX6_pourOut 9 = .ok (.aload_n 0, 1) := by decide +kernel
theorem dX6_pourOut_10 : decode cX6_pourOut 10 = .ok (.dup, 1) := by decide +kernel
theorem dX6_pourOut_11 : decode cX6_pourOut 11 = .ok (.getfield 19, 3) := by decide +kernel
theorem dX6_pourOut_14 : decode cX6_pourOut 14 = .ok (.iload_n 2, 1) := by decide +kernel
theorem dX6_pourOut_15 : decode cX6_pourOut 15 = .ok (.isub, 1) := by decide +kernel
theorem dX6_pourOut_16 : decode cX6_pourOut 16 = .ok (.putfield 19, 3) := by decide +kernel
theorem dX6_pourOut_19 : decode cX6_pourOut 19 = .ok (.iload_n 2, 1) := by decide +kernel
theorem dX6_pourOut_20 : decode cX6_pourOut 20 = .ok (.ireturn, 1) := by decide +kernel
theorem dX6_pourIn_0 : decode cX6_pourIn 0 = .ok (.aload_n 0, 1) := by decide +kernel
theorem dX6_pourIn_1 : decode cX6_pourIn 1 = .ok (.ldc 31, 2) := by decide +kernel
theorem dX6_pourIn_3 : decode cX6_pourIn 3 = .ok (.aload_n 0, 1) := by decide +kernel
theorem dX6_pourIn_4 : decode cX6_pourIn 4 = .ok (.getfield 19, 3) := by decide +kernel
theorem dX6_pourIn_7 : decode cX6_pourIn 7 = .ok (.iload_n 1, 1) := by decide +kernel
theorem dX6_pourIn_8 : decode cX6_pourIn 8 = .ok (.iadd, 1) := by decide +kernel
theorem dX6_pourIn_9 : decode cX6_pourIn 9 = .ok (.invokestatic 25, 3) := by decide +kernel
theorem dX6_pourIn_12 : decode cX6_pourIn 12 = .ok (.putfield 19, 3) := by decide +kernel
theorem dX6_pourIn_15 : decode cX6_pourIn 15 = .ok (.return_, 1) := by decide +kernel
theorem dX6_heat_0 : decode cX6_heat 0 = .ok (.aload_n 0, 1) := by decide +kernel
theorem dX6_heat_1 : decode cX6_heat 1 = .ok (.bipush 99, 2) := by decide +kernel
theorem dX6_heat_3 : decode cX6_heat 3 = .ok (.aload_n 0, 1) := by decide +kernel
theorem dX6_heat_4 : decode cX6_heat 4 = .ok (.getfield 15, 3) := by decide +kernel
theorem dX6_heat_7 : decode cX6_heat 7 = .ok (.bipush 10, 2) := by decide +kernel
theorem dX6_heat_9 : decode cX6_heat 9 = .ok (.iadd, 1) := by decide +kernel
theorem dX6_heat_10 : decode cX6_heat 10 = .ok (.invokestatic 25, 3) := by decide +kernel
theorem dX6_heat_13 : decode cX6_heat 13 = .ok (.putfield 15, 3) := by decide +kernel
theorem dX6_heat_16 : decode cX6_heat 16 = .ok (.return_, 1) := by decide +kernel
theorem dX6_cool_0 : decode cX6_cool 0 = .ok (.aload_n 0, 1) := by decide +kernel
theorem dX6_cool_1 : decode cX6_cool 1 = .ok (.iconst 0, 1) := by decide +kernel
theorem dX6_cool_2 : decode cX6_cool 2 = .ok (.aload_n 0, 1) := by decide +kernel
theorem dX6_cool_3 : decode cX6_cool 3 = .ok (.getfield 15, 3) := by decide +kernel
theorem dX6_cool_6 : decode cX6_cool 6 = .ok (.iload_n 1, 1) := by decide +kernel
theorem dX6_cool_7 : decode cX6_cool 7 = .ok (.isub, 1) := by decide +kernel
theorem dX6_cool_8 : decode cX6_cool 8 = .ok (.invokestatic 32, 3) := by decide +kernel
theorem dX6_cool_11 : decode cX6_cool 11 = .ok (.putfield 15, 3) := by decide +kernel
theorem dX6_cool_14 : decode cX6_cool 14 = .ok (.return_, 1) := by decide +kernel
set_option maxRecDepth 20000 in
theorem ggX7_init_X6_init : GoodIn wsX7_init wsX6_init := goodIn_r _ [14, 15, 2, 3] (by decide +kernel) (by decide +kernel)
set_option maxRecDepth 20000 in
theorem gX7_init_X6_init_n17 : GoodIn wsX7_init (wsX6_init) := ggX7_init_X6_init
theorem dX7_init_0 : decode cX7_init 0 = .ok (.aload_n 0, 1) := by decide +kernel
theorem dX7_init_1 : decode cX7_init 1 = .ok (.invokespecial 3, 3) := by decide +kernel
theorem dX7_init_4 : decode cX7_init 4 = .ok (.aload_n 0, 1) := by decide +kernel
theorem dX7_init_5 : decode cX7_init 5 = .ok (.iconst 4, 1) := by decide +kernel
theorem dX7_init_6 : decode cX7_init 6 = .ok (.anewarray 9, 3) := by decide +kernel
theorem dX7_init_9 : decode cX7_init 9 = .ok (.putfield 11, 3) := by decide +kernel
theorem dX7_init_12 : decode cX7_init 12 = .ok (.iconst 0, 1) := by decide +kernel
theorem dX7_init_13 : decode cX7_init 13 = .ok (.istore_n 1, 1) := by decide +kernel
theorem dX7_init_14 : decode cX7_init 14 = .ok (.iload_n 1, 1) := by decide +kernel
theorem dX7_init_15 : decode cX7_init 15 = .ok (.iconst 4, 1) := by decide +kernel
theorem dX7_init_16 : decode cX7_init 16 = .ok (.if_icmp .ge 51, 3) := by decide +kernel
theorem dX7_init_19 : decode cX7_init 19 = .ok (.new 9, 3) := by decide +kernel
theorem dX7_init_22 : decode cX7_init 22 = .ok (.dup, 1) := by decide +kernel
theorem dX7_init_23 : decode cX7_init 23 = .ok (.invokespecial 17, 3) := by decide +kernel
theorem dX7_init_26 : decode cX7_init 26 = .ok (.astore_n 2, 1) := by decide +kernel
theorem dX7_init_27 : decode cX7_init 27 = .ok (.aload_n 2, 1) := by decide +kernel
theorem dX7_init_28 : decode cX7_init 28 = .ok (.iload_n 1, 1) := by decide +kernel
theorem dX7_init_29 : decode cX7_init 29 = .ok (.iconst 3, 1) := by decide +kernel
theorem dX7_init_30 : decode cX7_init 30 = .ok (.if_icmp .ne 7, 3) := by decide +kernel
theorem dX7_init_33 : decode cX7_init 33 = .ok (.iconst 1, 1) := by decide +kernel
theorem dX7_init_34 : decode cX7_init 34 = .ok (.goto 4, 3) := by decide +kernel
theorem dX7_init_37 : decode cX7_init 37 = .ok (.iconst 0, 1) := by decide +kernel
theorem dX7_init_38 : decode cX7_init 38 = .ok (.putfield 18, 3) := by decide +kernel
theorem dX7_init_41 : decode cX7_init 41 = .ok (.aload_n 2, 1) := by decide +kernel
theorem dX7_init_42 : decode cX7_init 42 = .ok (.bipush 50, 2) := by decide +kernel
theorem dX7_init_44 : decode cX7_init 44 = .ok (.putfield 22, 3) := by decide +kernel
theorem dX7_init_47 : decode cX7_init 47 = .ok (.aload_n 2, 1) := by decide +kernel
theorem dX7_init_48 : decode cX7_init 48 = .ok (.sipush 2000, 3) := by decide +kernel
theorem dX7_init_51 : decode cX7_init 51 = .ok (.putfield 26, 3) := by decide +kernel
theorem dX7_init_54 : decode cX7_init 54 = .ok (.aload_n 0, 1) := by decide +kernel
theorem dX7_init_55 : decode cX7_init 55 = .ok (.getfield 11, 3) := by decide +kernel
theorem dX7_init_58 : decode cX7_init 58 = .ok (.iload_n 1, 1) := by decide +kernel
theorem dX7_init_59 : decode cX7_init 59 = .ok (.aload_n 2, 1) := by decide +kernel
theorem dX7_init_60 : decode cX7_init 60 = .ok (.aastore, 1) := by decide +kernel
theorem dX7_init_61 : decode cX7_init 61 = .ok (.iinc 1 1, 3) := by decide +kernel
theorem dX7_init_64 : decode cX7_init 64 = .ok (.goto (-50), 3) := by decide +kernel
theorem dX7_init_67 : decode cX7_init 67 = .ok (.aload_n 0, 1) := by decide +kernel
theorem dX7_init_68 : decode cX7_init 68 = .ok (.bipush 50, 2) := by decide +kernel
theorem dX7_init_70 : decode cX7_init 70 = .ok (.putfield 29, 3) := by decide +kernel
theorem dX7_init_73 : decode cX7_init 73 = .ok (.aload_n 0, 1) := by decide +kernel
theorem dX7_init_74 : decode cX7_init 74 = .ok (.iconst 2, 1) := by decide +kernel
theorem dX7_init_75 : decode cX7_init 75 = .ok (.putfield 32, 3) := by decide +kernel
theorem dX7_init_78 : decode cX7_init 78 = .ok (.return_, 1) := by decide +kernel
set_option maxRecDepth 20000 in
theorem ggX7_become_X6_become : GoodIn wsX7_become wsX6_become := goodIn_r _ [9, 10, 11, 12, 13, 18, 19, 20, 21] (by decide +kernel) (by decide +kernel)
set_option maxRecDepth 20000 in
theorem gX7_become_X6_become : GoodIn wsX7_become (wsV RX7 35 RX6 yX6_become wsX6_become) := goodIn_app (goodIn_of _ (by decide +kernel)) ggX7_become_X6_become
theorem dX7_become_0 : decode cX7_become 0 = .ok (.iconst 0, 1) := by decide +kernel
theorem dX7_become_1 : decode cX7_become 1 = .ok (.istore_n 2, 1) := by decide +kernel
theorem dX7_become_2 : decode cX7_become 2 = .ok (.iload_n 2, 1) := by decide +kernel
theorem dX7_become_3 : decode cX7_become 3 = .ok (.iconst 4, 1) := by decide +kernel
theorem dX7_become_4 : decode cX7_become 4 = .ok (.if_icmp .ge 24, 3) := by decide +kernel
theorem dX7_become_7 : decode cX7_become 7 = .ok (.aload_n 0, 1) := by decide +kernel
theorem dX7_become_8 : decode cX7_become 8 = .ok (.getfield 11, 3) := by decide +kernel
theorem dX7_become_11 : decode cX7_become 11 = .ok (.iload_n 2, 1) := by decide +kernel
theorem dX7_become_12 : decode cX7_become 12 = .ok (.aaload, 1) := by decide +kernel
theorem dX7_become_13 : decode cX7_become 13 = .ok (.aload_n 1, 1) := by decide +kernel
theorem dX7_become_14 : decode cX7_become 14 = .ok (.getfield 11, 3) := by decide +kernel
theorem dX7_become_17 : decode cX7_become 17 = .ok (.iload_n 2, 1) := by decide +kernel
theorem dX7_become_18 : decode cX7_become 18 = .ok (.aaload, 1) := by decide +kernel
theorem dX7_become_19 : decode cX7_become 19 = .ok (.invokevirtual 35, 3) := by decide +kernel
theorem dX7_become_22 : decode cX7_become 22 = .ok (.iinc 2 1, 3) := by decide +kernel
theorem dX7_become_25 : decode cX7_become 25 = .ok (.goto (-23), 3) := by decide +kernel
theorem dX7_become_28 : decode cX7_become 28 = .ok (.aload_n 0, 1) := by decide +kernel
theorem dX7_become_29 : decode cX7_become 29 = .ok (.aload_n 1, 1) := by decide +kernel
theorem dX7_become_30 : decode cX7_become 30 = .ok (.getfield 29, 3) := by decide +kernel
theorem dX7_become_33 : decode cX7_become 33 = .ok (.putfield 29, 3) := by decide +kernel
theorem dX7_become_36 : decode cX7_become 36 = .ok (.aload_n 0, 1) := by decide +kernel
theorem dX7_become_37 : decode cX7_become 37 = .ok (.aload_n 1, 1) := by decide +kernel
theorem dX7_become_38 : decode cX7_become 38 = .ok (.getfield 32, 3) := by decide +kernel
theorem dX7_become_41 : decode cX7_become 41 = .ok (.putfield 32, 3) := by decide +kernel
theorem dX7_become_44 : decode cX7_become 44 = .ok (.aload_n 0, 1) := by decide +kernel
theorem dX7_become_45 : decode cX7_become 45 = .ok (.aload_n 1, 1) := by decide +kernel
theorem dX7_become_46 : decode cX7_become 46 = .ok (.getfield 39, 3) := by decide +kernel
theorem dX7_become_49 : decode cX7_become 49 = .ok (.putfield 39, 3) := by decide +kernel
theorem dX7_become_52 : decode cX7_become 52 = .ok (.return_, 1) := by decide +kernel
set_option maxRecDepth 20000 in
theorem ggX7_pass_X7_tend : GoodIn wsX7_pass wsX7_tend := goodIn_r _ [7, 8, 9, 10, 11, 12, 13, 14, 15, 16, 17, 18, 19, 20, 21, 22, 23, 24, 25, 26, 27, 32, 33, 34, 35, 28, 29, 30, 31] (by decide +kernel) (by decide +kernel)
set_option maxRecDepth 20000 in
theorem gX7_pass_X7_tend : GoodIn wsX7_pass (wsV RX7 42 RX7 yX7_tend wsX7_tend) := goodIn_app (goodIn_of _ (by decide +kernel)) ggX7_pass_X7_tend
theorem dX7_pass_0 : decode cX7_pass 0 = .ok (.iconst 0, 1) := by decide +kernel
theorem dX7_pass_1 : decode cX7_pass 1 = .ok (.istore_n 2, 1) := by decide +kernel
theorem dX7_pass_2 : decode cX7_pass 2 = .ok (.iload_n 2, 1) := by decide +kernel
theorem dX7_pass_3 : decode cX7_pass 3 = .ok (.iload_n 1, 1) := by decide +kernel
theorem dX7_pass_4 : decode cX7_pass 4 = .ok (.if_icmp .ge 42, 3) := by decide +kernel
theorem dX7_pass_7 : decode cX7_pass 7 = .ok (.iconst 0, 1) := by decide +kernel
theorem dX7_pass_8 : decode cX7_pass 8 = .ok (.istore_n 3, 1) := by decide +kernel
theorem dX7_pass_9 : decode cX7_pass 9 = .ok (.iload_n 3, 1) := by decide +kernel
theorem dX7_pass_10 : decode cX7_pass 10 = .ok (.iconst 4, 1) := by decide +kernel
theorem dX7_pass_11 : decode cX7_pass 11 = .ok (.if_icmp .ge 19, 3) := by decide +kernel
theorem dX7_pass_14 : decode cX7_pass 14 = .ok (.aload_n 0, 1) := by decide +kernel
theorem dX7_pass_15 : decode cX7_pass 15 = .ok (.aload_n 0, 1) := by decide +kernel
theorem dX7_pass_16 : decode cX7_pass 16 = .ok (.getfield 11, 3) := by decide +kernel
theorem dX7_pass_19 : decode cX7_pass 19 = .ok (.iload_n 3, 1) := by decide +kernel
theorem dX7_pass_20 : decode cX7_pass 20 = .ok (.aaload, 1) := by decide +kernel
theorem dX7_pass_21 : decode cX7_pass 21 = .ok (.invokevirtual 42, 3) := by decide +kernel
theorem dX7_pass_24 : decode cX7_pass 24 = .ok (.iinc 3 1, 3) := by decide +kernel
theorem dX7_pass_27 : decode cX7_pass 27 = .ok (.goto (-18), 3) := by decide +kernel
theorem dX7_pass_30 : decode cX7_pass 30 = .ok (.aload_n 0, 1) := by decide +kernel
theorem dX7_pass_31 : decode cX7_pass 31 = .ok (.dup, 1) := by decide +kernel
theorem dX7_pass_32 : decode cX7_pass 32 = .ok (.getfield 39, 3) := by decide +kernel
theorem dX7_pass_35 : decode cX7_pass 35 = .ok (.iconst 1, 1) := by decide +kernel
theorem dX7_pass_36 : decode cX7_pass 36 = .ok (.iadd, 1) := by decide +kernel
theorem dX7_pass_37 : decode cX7_pass 37 = .ok (.putfield 39, 3) := by decide +kernel
theorem dX7_pass_40 : decode cX7_pass 40 = .ok (.iinc 2 1, 3) := by decide +kernel
theorem dX7_pass_43 : decode cX7_pass 43 = .ok (.goto (-41), 3) := by decide +kernel
theorem dX7_pass_46 : decode cX7_pass 46 = .ok (.return_, 1) := by decide +kernel
set_option maxRecDepth 20000 in
theorem ggX7_tend_X6_heat : GoodIn wsX7_tend wsX6_heat := goodIn_r _ [8, 9, 10, 11, 12, 13, 21, 22, 23, 24] (by decide +kernel) (by decide +kernel)
set_option maxRecDepth 20000 in
theorem gX7_tend_X6_heat : GoodIn wsX7_tend (wsV RX7 48 RX6 yX6_heat wsX6_heat) := goodIn_app (goodIn_of _ (by decide +kernel)) ggX7_tend_X6_heat
set_option maxRecDepth 20000 in
theorem ggX7_tend_X6_cool : GoodIn wsX7_tend wsX6_cool := goodIn_r _ [17, 9, 18, 19, 12, 20, 21, 22, 23, 24] (by decide +kernel) (by decide +kernel)
set_option maxRecDepth 20000 in
theorem gX7_tend_X6_cool : GoodIn wsX7_tend (wsV RX7 51 RX6 yX6_cool wsX6_cool) := goodIn_app (goodIn_of _ (by decide +kernel)) ggX7_tend_X6_cool
theorem dX7_tend_0 : decode cX7_tend 0 = .ok (.aload_n 1, 1) := by decide +kernel
theorem dX7_tend_1 : decode cX7_tend 1 = .ok (.getfield 45, 3) := by decide +kernel
theorem dX7_tend_4 : decode cX7_tend 4 = .ok (.ifCond .eq 27, 3) := by decide +kernel
theorem dX7_tend_7 : decode cX7_tend 7 = .ok (.aload_n 0, 1) := by decide +kernel
theorem dX7_tend_8 : decode cX7_tend 8 = .ok (.getfield 29, 3) := by decide +kernel
theorem dX7_tend_11 : decode cX7_tend 11 = .ok (.ifCond .le 20, 3) := by decide +kernel
theorem dX7_tend_14 : decode cX7_tend 14 = .ok (.aload_n 0, 1) := by decide +kernel
theorem dX7_tend_15 : decode cX7_tend 15 = .ok (.dup, 1) := by decide +kernel
theorem dX7_tend_16 : decode cX7_tend 16 = .ok (.getfield 29, 3) := by decide +kernel
theorem dX7_tend_19 : decode cX7_tend 19 = .ok (.iconst 1, 1) := by decide +kernel
theorem dX7_tend_20 : decode cX7_tend 20 = .ok (.isub, 1) := by decide +kernel
theorem dX7_tend_21 : decode cX7_tend 21 = .ok (.putfield 29, 3) := by decide +kernel
theorem dX7_tend_24 : decode cX7_tend 24 = .ok (.aload_n 1, 1) := by decide +kernel
theorem dX7_tend_25 : decode cX7_tend 25 = .ok (.invokevirtual 48, 3) := by decide +kernel
theorem dX7_tend_28 : decode cX7_tend 28 = .ok (.goto 11, 3) := by decide +kernel
theorem dX7_tend_31 : decode cX7_tend 31 = .ok (.aload_n 1, 1) := by decide +kernel
theorem dX7_tend_32 : decode cX7_tend 32 = .ok (.aload_n 0, 1) := by decide +kernel
theorem dX7_tend_33 : decode cX7_tend 33 = .ok (.getfield 32, 3) := by decide +kernel
theorem dX7_tend_36 : decode cX7_tend 36 = .ok (.invokevirtual 51, 3) := by decide +kernel
theorem dX7_tend_39 : decode cX7_tend 39 = .ok (.return_, 1) := by decide +kernel
theorem dX7_light_0 : decode cX7_light 0 = .ok (.iconst 0, 1) := by decide +kernel
theorem dX7_light_1 : decode cX7_light 1 = .ok (.istore_n 2, 1) := by decide +kernel
theorem dX7_light_2 : decode cX7_light 2 = .ok (.iload_n 2, 1) := by decide +kernel
theorem dX7_light_3 : decode cX7_light 3 = .ok (.iconst 4, 1) := by decide +kernel
theorem dX7_light_4 : decode cX7_light 4 = .ok (.if_icmp .ge 32, 3) := by decide +kernel
theorem dX7_light_7 : decode cX7_light 7 = .ok (.aload_n 0, 1) := by decide +kernel
theorem dX7_light_8 : decode cX7_light 8 = .ok (.getfield 11, 3) := by decide +kernel
theorem dX7_light_11 : decode cX7_light 11 = .ok (.iload_n 2, 1) := by decide +kernel
theorem dX7_light_12 : decode cX7_light 12 = .ok (.aaload, 1) := by decide +kernel
theorem dX7_light_13 : decode cX7_light 13 = .ok (.iload_n 1, 1) := by decide +kernel
theorem dX7_light_14 : decode cX7_light 14 = .ok (.iload_n 2, 1) := by decide +kernel
theorem dX7_light_15 : decode cX7_light 15 = .ok (.ishr, 1) := by decide +kernel
theorem dX7_light_16 : decode cX7_light 16 = .ok (.iconst 1, 1) := by decide +kernel
theorem dX7_light_17 : decode cX7_light 17 = .ok (.iand, 1) := by decide +kernel
theorem dX7_light_18 : decode cX7_light 18 = .ok (.iconst 1, 1) := by decide +kernel
theorem dX7_light_19 : decode cX7_light 19 = .ok (.if_icmp .ne 7, 3) := by decide +kernel
theorem dX7_light_22 : decode cX7_light 22 = .ok (.iconst 1, 1) := by decide +kernel
theorem dX7_light_23 : decode cX7_light 23 = .ok (.goto 4, 3) := by decide +kernel
theorem dX7_light_26 : decode cX7_light 26 = .ok (.iconst 0, 1) := by decide +kernel
theorem dX7_light_27 : decode cX7_light 27 = .ok (.putfield 45, 3) := by decide +kernel
theorem dX7_light_30 : decode cX7_light 30 = .ok (.iinc 2 1, 3) := by decide +kernel
theorem dX7_light_33 : decode cX7_light 33 = .ok (.goto (-31), 3) := by decide +kernel
theorem dX7_light_36 : decode cX7_light 36 = .ok (.return_, 1) := by decide +kernel
theorem dX7_lit_0 : decode cX7_lit 0 = .ok (.iconst 0, 1) := by decide +kernel
theorem dX7_lit_1 : decode cX7_lit 1 = .ok (.istore_n 1, 1) := by decide +kernel
theorem dX7_lit_2 : decode cX7_lit 2 = .ok (.iconst 0, 1) := by decide +kernel
theorem dX7_lit_3 : decode cX7_lit 3 = .ok (.istore_n 2, 1) := by decide +kernel
theorem dX7_lit_4 : decode cX7_lit 4 = .ok (.iload_n 2, 1) := by decide +kernel
theorem dX7_lit_5 : decode cX7_lit 5 = .ok (.iconst 4, 1) := by decide +kernel
theorem dX7_lit_6 : decode cX7_lit 6 = .ok (.if_icmp .ge 27, 3) := by decide +kernel
theorem dX7_lit_9 : decode cX7_lit 9 = .ok (.aload_n 0, 1) := by decide +kernel
theorem dX7_lit_10 : decode cX7_lit 10 = .ok (.getfield 11, 3) := by decide +kernel
theorem dX7_lit_13 : decode cX7_lit 13 = .ok (.iload_n 2, 1) := by decide +kernel
theorem dX7_lit_14 : decode cX7_lit 14 = .ok (.aaload, 1) := by decide +kernel
theorem dX7_lit_15 : decode cX7_lit 15 = .ok (.getfield 45, 3) := by decide +kernel
theorem dX7_lit_18 : decode cX7_lit 18 = .ok (.ifCond .eq 9, 3) := by decide +kernel
theorem dX7_lit_21 : decode cX7_lit 21 = .ok (.iload_n 1, 1) := by decide +kernel
theorem dX7_lit_22 : decode cX7_lit 22 = .ok (.iconst 1, 1) := by decide +kernel
theorem dX7_lit_23 : decode cX7_lit 23 = .ok (.iload_n 2, 1) := by decide +kernel
theorem dX7_lit_24 : decode cX7_lit 24 = .ok (.ishl, 1) := by decide +kernel
theorem dX7_lit_25 : decode cX7_lit 25 = .ok (.ior, 1) := by decide +kernel
theorem dX7_lit_26 : decode cX7_lit 26 = .ok (.istore_n 1, 1) := by decide +kernel
theorem dX7_lit_27 : decode cX7_lit 27 = .ok (.iinc 2 1, 3) := by decide +kernel
theorem dX7_lit_30 : decode cX7_lit 30 = .ok (.goto (-26), 3) := by decide +kernel
theorem dX7_lit_33 : decode cX7_lit 33 = .ok (.iload_n 1, 1) := by decide +kernel
theorem dX7_lit_34 : decode cX7_lit 34 = .ok (.ireturn, 1) := by decide +kernel
theorem dX7_coldest_0 : decode cX7_coldest 0 = .ok (.bipush 99, 2) := by decide +kernel
theorem dX7_coldest_2 : decode cX7_coldest 2 = .ok (.istore_n 1, 1) := by decide +kernel
theorem dX7_coldest_3 : decode cX7_coldest 3 = .ok (.iconst 0, 1) := by decide +kernel
theorem dX7_coldest_4 : decode cX7_coldest 4 = .ok (.istore_n 2, 1) := by decide +kernel
theorem dX7_coldest_5 : decode cX7_coldest 5 = .ok (.iload_n 2, 1) := by decide +kernel
theorem dX7_coldest_6 : decode cX7_coldest 6 = .ok (.iconst 4, 1) := by decide +kernel
theorem dX7_coldest_7 : decode cX7_coldest 7 = .ok (.if_icmp .ge 23, 3) := by decide +kernel
theorem dX7_coldest_10 : decode cX7_coldest 10 = .ok (.iload_n 1, 1) := by decide +kernel
theorem dX7_coldest_11 : decode cX7_coldest 11 = .ok (.aload_n 0, 1) := by decide +kernel
theorem dX7_coldest_12 : decode cX7_coldest 12 = .ok (.getfield 11, 3) := by decide +kernel
theorem dX7_coldest_15 : decode cX7_coldest 15 = .ok (.iload_n 2, 1) := by decide +kernel
theorem dX7_coldest_16 : decode cX7_coldest 16 = .ok (.aaload, 1) := by decide +kernel
theorem dX7_coldest_17 : decode cX7_coldest 17 = .ok (.getfield 22, 3) := by decide +kernel
theorem dX7_coldest_20 : decode cX7_coldest 20 = .ok (.invokestatic 55, 3) := by decide +kernel
theorem dX7_coldest_23 : decode cX7_coldest 23 = .ok (.istore_n 1, 1) := by decide +kernel
theorem dX7_coldest_24 : decode cX7_coldest 24 = .ok (.iinc 2 1, 3) := by decide +kernel
theorem dX7_coldest_27 : decode cX7_coldest 27 = .ok (.goto (-22), 3) := by decide +kernel
theorem dX7_coldest_30 : decode cX7_coldest 30 = .ok (.iload_n 1, 1) := by decide +kernel
theorem dX7_coldest_31 : decode cX7_coldest 31 = .ok (.ireturn, 1) := by decide +kernel
theorem dX7_grams_0 : decode cX7_grams 0 = .ok (.iconst 0, 1) := by decide +kernel
theorem dX7_grams_1 : decode cX7_grams 1 = .ok (.istore_n 1, 1) := by decide +kernel
theorem dX7_grams_2 : decode cX7_grams 2 = .ok (.iconst 0, 1) := by decide +kernel
theorem dX7_grams_3 : decode cX7_grams 3 = .ok (.istore_n 2, 1) := by decide +kernel
theorem dX7_grams_4 : decode cX7_grams 4 = .ok (.iload_n 2, 1) := by decide +kernel
theorem dX7_grams_5 : decode cX7_grams 5 = .ok (.iconst 4, 1) := by decide +kernel
theorem dX7_grams_6 : decode cX7_grams 6 = .ok (.if_icmp .ge 21, 3) := by decide +kernel
theorem dX7_grams_9 : decode cX7_grams 9 = .ok (.iload_n 1, 1) := by decide +kernel
theorem dX7_grams_10 : decode cX7_grams 10 = .ok (.aload_n 0, 1) := by decide +kernel
theorem dX7_grams_11 : decode cX7_grams 11 = .ok (.getfield 11, 3) := by decide +kernel
theorem dX7_grams_14 : decode cX7_grams 14 = .ok (.iload_n 2, 1) := by decide +kernel
theorem dX7_grams_15 : decode cX7_grams 15 = .ok (.aaload, 1) := by decide +kernel
theorem dX7_grams_16 : decode cX7_grams 16 = .ok (.getfield 26, 3) := by decide +kernel
theorem dX7_grams_19 : decode cX7_grams 19 = .ok (.iadd, 1) := by decide +kernel
theorem dX7_grams_20 : decode cX7_grams 20 = .ok (.istore_n 1, 1) := by decide +kernel
theorem dX7_grams_21 : decode cX7_grams 21 = .ok (.iinc 2 1, 3) := by decide +kernel
theorem dX7_grams_24 : decode cX7_grams 24 = .ok (.goto (-20), 3) := by decide +kernel
theorem dX7_grams_27 : decode cX7_grams 27 = .ok (.iload_n 1, 1) := by decide +kernel
theorem dX7_grams_28 : decode cX7_grams 28 = .ok (.ireturn, 1) := by decide +kernel
